/-! ===== class and reference answer alike: what is reckoned on both sides ===== -/
section Eq
variable {S M : ST} {eb ee lb le rm : Nat → Int} {ld : Int} {od : Nat → Int}
theorem FV.same (tp : TOP S) (fv : FV S eb ee lb le rm ld od) (la : LAID S M) : (∀ t : Nat, (t : Int) < S 13 0 0 → (eb t = M 19 0 t ∧ ee t = M 19 1 t) ∧ lb t = M 20 0 t ∧ le t = M 20 1 t ∧ rm t = M 21 t 0) ∧ ld = M 25 0 0 := by
  obtain ⟨-, ⟨e1, e2, e3⟩, ⟨t1, t2⟩, -⟩ := fv
  obtain ⟨p1, p2, p3, -⟩ := la
  have h1 : ∀ t : Nat, (t : Int) < S 13 0 0 → eb t = M 19 0 t ∧ ee t = M 19 1 t := fun t ht => EP_uniq tp e1 p1 ht
  have h2 : ld = M 25 0 0 := LDY_uniq (fun t ht => (h1 t ht).2) e3 p2
  rw [← h2] at p3
  exact ⟨fun t ht => ⟨h1 t ht, LATE_uniq tp (fun t ht => (h1 t ht).1) t1 p3 ht⟩, h2⟩
theorem FV.leq (w : WF S) (tp : TOP S) (fv : FV S eb ee lb le rm ld od) (la : LAID S M) (od' : Nat → Int) : LEq (lvAll S lb rm (S 15 0 0) od) (lvAll S (M 20 0) (fun x => M 21 x 0) (S 15 0 0) od') := by
  have q := (fv.same tp la).1
  rw [lvAll_cg w (lb' := M 20 0) (rm' := fun x => M 21 x 0) (fun t ht => ⟨(q t ht).2.1, (q t ht).2.2.2⟩)]
  exact LEq_all od od'
theorem lF_lt (w : WF S) {j : Nat} (hj : j < 40) : (lF S j).toNat < 24 := by
  have := w.at hj
  show (S 19 (S 18 j 0).toNat 0).toNat < 24
  omega
theorem holdF_cg (w : WF S) {b e b' e' inn : Nat → Int} (h : ∀ x, x < 24 → b x = b' x ∧ e x = e' x) {t : Nat} (ht : t < 24) : holdF S b e inn t = holdF S b' e' inn t := by
  unfold holdF
  rw [(h t ht).1, fday_cg (b := b) (e := e) (b' := b') (e' := e') (fun j hj _ => h _ (lF_lt w (by have := w.nL; omega)))]
theorem fdayBy_cg (w : WF S) {b e b' e' : Nat → Int} (h : ∀ x, x < 24 → b x = b' x ∧ e x = e' x) {i : Nat} (hi : i < 40) : fdayBy S b e i = fdayBy S b' e' i := by
  have q := h _ (lF_lt w hi)
  simp only [fdayBy, bAsk, eAsk, q.1, q.2]
theorem lth_cg (w : WF S) {b e b' e' : Nat → Int} (h : ∀ x, x < 24 → b x = b' x ∧ e x = e' x) {t : Nat} (ht : t < 24) : ∀ m i, i + m ≤ 40 → lth S b e t m i = lth S b' e' t m i
  | 0, _, _ => rfl
  | m + 1, i, hi => by
    rw [lth, lth, (h t ht).1, fdayBy_cg w h (by omega), lth_cg w h ht m (i + 1) (by omega)]
theorem lthF_cg (w : WF S) {b e b' e' inn : Nat → Int} (h : ∀ x, x < 24 → b x = b' x ∧ e x = e' x) {t : Nat} (ht : t < 24) : lthF S b e inn t = lthF S b' e' inn t := by
  unfold lthF
  rw [holdF_cg w h ht, lth_cg w h ht _ _ (by have := w.nL; omega)]
theorem tgt_cg {rm' : Nat → Int} : ∀ m i, (∀ x, i ≤ x → x < i + m → rm x = rm' x) → tgt S rm m i = tgt S rm' m i
  | 0, _, _ => rfl
  | m + 1, i, h => by
    rw [tgt, tgt, h i (Nat.le_refl _) (by omega), tgt_cg m (i + 1) (fun x a b => h x (by omega) (by omega))]
theorem ldg_cgT {b e b' e' : Nat → Int} (h : ∀ t : Nat, (t : Int) < S 13 0 0 → b t = b' t ∧ e t = e' t) : ldg S b e (inT S) = ldg S b' e' (inT S) := by
  funext c d
  unfold ldg
  refine wsum_congr 24 fun x _ => ?_
  by_cases hx : (x : Int) < S 13 0 0
  · rw [(h x hx).1, (h x hx).2]
  · have e0 : inT S x = 0 := if_neg (by omega)
    rw [if_neg (fun q => absurd q.1 (by rw [e0]; decide)), if_neg (fun q => absurd q.1 (by rw [e0]; decide))]
theorem ldg_5000 {b e inn : Nat → Int} {c d : Nat} (hd : 5000 ≤ d) : ldg S b e inn c d = 0 := by
  unfold ldg
  rw [wsum_congr (f' := fun _ => 0) 24 (fun x _ => if_neg (fun q => by have := q.2.2.1; omega))]
  rfl
theorem onF_ldg {b e inn : Nat → Int} {c : Nat} {d : Int} (hd : 0 ≤ d) : onF (ldg S b e inn) c d = ldg S b e inn c d.toNat := by
  unfold onF
  by_cases h : d ≤ 4999
  · rw [if_pos ⟨hd, h⟩]
  · rw [if_neg (fun q => h q.2), ldg_5000 (by omega)]
theorem LDY_4984 (w : WF S) (tp : TOP S) (ep : EP S eb ee) (ldy : LDY S ee ld) : ld ≤ 4984 := by
  rcases ldy.2.1 with h | ⟨t, h1, h2⟩
  · omega
  · have := (EP_all w tp ep h1).1
    omega
/-- overloaded -/
theorem over_eq (w : WF S) (tp : TOP S) (fv : FV S eb ee lb le rm ld od) (la : LAID S M) {c : Nat} (hc : c < 4) : dab (ldg S eb ee (inT S) c) (S 3 c 0) 5000 0 = dab (ldg S (M 19 0) (M 19 1) (inT S) c) (S 3 c 0) (M 25 0 0).toNat 0 := by
  have q := (fv.same tp la).1
  have hl := LDY_4984 w tp la.1 la.2.1
  have h0 := la.2.1.2.2.1
  have wc := w.crew hc
  rw [ldg_cgT (fun t ht => (q t ht).1)]
  refine (dab_e (by omega) fun d hd => ?_).symm
  rw [ldg_wz (wu := M 25 0 0) (fun t ht => by have := la.2.1.1 t ht; omega) c d (by omega)]
  exact wc.1.1
theorem ldg_lz {s : LState} (lv : LV9 S s) {c d : Nat} (hd : s.2.2.2.2.2 ≤ (d : Int)) : ldg S s.1 s.2.1 s.2.2.1 c d = 0 := by
  unfold ldg
  rw [wsum_congr (f' := fun _ => 0) 24 (fun x hx => if_neg (fun q => by have := lv.2.2.2.2.2.2.2.2 x hx q.1; omega))]
  rfl
theorem LV9.l5 (w : WF S) {s : LState} (lv : LV9 S s) : 0 ≤ s.2.2.2.2.2 ∧ s.2.2.2.2.2 ≤ 4984 := by
  have a := lv.2.2.2.2.2.2.1
  have b := lv.ct w
  have wT := w.nT
  omega
theorem grt_cg {f g : Nat → Int} : ∀ n i x, (∀ d, i ≤ d → d < i + n → f d = g d) → grt f n i x = grt g n i x
  | 0, _, _, _ => rfl
  | n + 1, i, x, h => by rw [grt, grt, h i (Nat.le_refl _) (by omega), grt_cg n (i + 1) _ (fun d a b => h d (by omega) (by omega))]
theorem lov_cg {g g' : Nat → Nat → Int} {c : Nat} {s : Int} : ∀ n i, i + n ≤ 5000 → (∀ d, d < 5000 → g c d = g' c d) → lov g c s n i = lov g' c s n i
  | 0, _, _, _ => rfl
  | n + 1, i, hi, h => by
    rw [lov, lov, lov_cg n (i + 1) (by omega) h]
    have e : onF g c (i : Int) = onF g' c (i : Int) := by
      unfold onF
      rw [if_pos (by omega), if_pos (by omega), h _ (by omega)]
    rw [e]
/-- peak -/
theorem peak_eq (w : WF S) {s s' : LState} (lq : LEq s s') (lv : LV9 S s') (ml : MLS S M s') {c : Nat} (hc : c < 4) : grt (ldg S s.1 s.2.1 s.2.2.1 c) 5000 0 0 = grt (M 27 c) (M 26 0 0).toNat 0 0 := by
  have hl := lv.l5 w
  rw [lq.1, lq.2.1, lq.2.2.1, ml.2.2.2.1, ← grt_e (m := s'.2.2.2.2.2.toNat) (by omega) (fun d hd => ldg_lz lv (by omega))]
  exact grt_cg _ _ _ fun d _ hd => (ml.2.2.2.2 c hc d (by omega)).symm
/-- idle -/
theorem idle_eq (w : WF S) {s s' : LState} (lq : LEq s s') (lv : LV9 S s') (ml : MLS S M s') {c : Nat} (hc : c < 4) {x : Int} : lov (ldg S s.1 s.2.1 s.2.2.1) c x s.2.2.2.2.2.toNat 0 = lov (M 27) c x (M 26 0 0).toNat 0 := by
  have hl := lv.l5 w
  rw [lq.1, lq.2.1, lq.2.2.1, ml.2.2.2.1, lq.2.2.2.1]
  exact lov_cg _ _ (by omega) fun d hd => (ml.2.2.2.2 c hc d (by omega)).symm
theorem hold_eq (w : WF S) {s s' : LState} (lq : LEq s s') (ml : MLS S M s') {t : Nat} (ht : t < 24) : holdF S s.1 s.2.1 s.2.2.1 t = holdF S (M 22 0) (M 22 1) s'.2.2.1 t := by
  rw [lq.1, lq.2.1, lq.2.2.1]
  exact holdF_cg w (fun x hx => ⟨(ml.1 x hx).1.symm, (ml.1 x hx).2.symm⟩) ht
theorem held_eq (w : WF S) {s s' : LState} (lq : LEq s s') (ml : MLS S M s') {t : Nat} (ht : t < 24) : lthF S s.1 s.2.1 s.2.2.1 t = lthF S (M 22 0) (M 22 1) s'.2.2.1 t := by
  rw [lq.1, lq.2.1, lq.2.2.1]
  exact lthF_cg w (fun x hx => ⟨(ml.1 x hx).1.symm, (ml.1 x hx).2.symm⟩) ht
theorem dly_eq {s s' : LState} (lq : LEq s s') (ml : MLS S M s') {e inn : Nat → Int} {t : Nat} (ht : t < 24) : dlyF e inn s.2.1 s.2.2.1 t = dlyF e inn (M 22 1) s'.2.2.1 t := by
  rw [lq.2.1, lq.2.2.1]
  unfold dlyF
  rw [(ml.1 t ht).2]
theorem dgr_cg {f g : Nat → List Int} : ∀ m i d, (∀ x, i ≤ x → x < i + m → f x = g x) → dgr f m i d = dgr g m i d
  | 0, _, _, _ => rfl
  | m + 1, i, d, h => by rw [dgr, dgr, h i (Nat.le_refl _) (by omega), dgr_cg m (i + 1) _ (fun x a b => h x (by omega) (by omega))]
/-- digest -/
theorem dig_eq (w : WF S) (tp : TOP S) {K : KTup} (fv : FV S eb ee lb le rm ld od) (la : LAID S M) {od' : Nat → Int} (ml : MLS S M (lvAll S (M 20 0) (fun x => M 21 x 0) (S 15 0 0) od')) : dgA S K eb ee lb le rm ld (lvAll S lb rm (S 15 0 0) od) = dgM S K M (lvAll S (M 20 0) (fun x => M 21 x 0) (S 15 0 0) od') := by
  have q := (fv.same tp la).1
  have ql := (fv.same tp la).2
  have lq := fv.leq w tp la od'
  have lv := LV9_all w (lb := M 20 0) (rm := fun x => M 21 x 0) (rl := S 15 0 0) od'
  have wT := w.nT
  have oq : ∀ c, c < 4 → dab (ldg S eb ee (inT S) c) (S 3 c 0) 5000 0 = dab (ldg S (M 19 0) (M 19 1) (inT S) c) (S 3 c 0) (M 25 0 0).toNat 0 := fun c hc => over_eq w tp fv la hc
  generalize lvAll S lb rm (S 15 0 0) od = s at *
  generalize lvAll S (M 20 0) (fun x => M 21 x 0) (S 15 0 0) od' = s' at *
  have e1 : s.2.2.2.2.2 = M 26 0 0 := by rw [lq.2.2.2.1, ml.2.2.2.1]
  have e2 : s.2.2.2.2.1 = M 24 0 0 := by rw [lq.2.2.2.1, ml.2.2.1]
  have e3 : tgt S rm (S 13 0 0).toNat 0 = tgt S (fun t => M 21 t 0) (S 13 0 0).toNat 0 := tgt_cg _ _ fun x _ hx => (q x (by omega)).2.2.2
  unfold dgA dgM
  rw [e1, e2, e3, ql]
  rw [dgr_cg (f := dgT S K eb ee lb le rm s) (g := dgV S K M s') _ _ _ (fun x _ hx => by
    have hx2 : (x : Int) < S 13 0 0 := by omega
    have qx := q x hx2
    unfold dgT dgV
    rw [qx.1.1, qx.1.2, qx.2.1, qx.2.2.1, qx.2.2.2, hold_eq w lq ml (by omega), held_eq w lq ml (by omega), dly_eq lq ml (by omega), (ml.1 x (by omega)).1, (ml.1 x (by omega)).2, lq.1, lq.2.1])]
  rw [dgr_cg (f := dgC S eb ee s) (g := dgW S M) _ _ _ (fun x _ hx => by
    have hc : x < 4 := by omega
    unfold dgC dgW
    rw [oq x hc, peak_eq w lq lv ml hc, idle_eq w lq lv ml hc])]
  rw [dgr_cg (f := fun t => [s.2.2.2.1 t]) (g := fun t => [M 23 t 0]) _ _ _ (fun x _ hx => by
    show [s.2.2.2.1 x] = [M 23 x 0]
    rw [ml.2.1 x, lq.2.2.2.2 x (by rw [e2]; omega)])]
end Eq

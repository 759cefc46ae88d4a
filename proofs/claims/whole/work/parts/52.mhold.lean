/-! ===== the reference: what holds a task; kept plans ===== -/
section Mz
variable {G : Ctx} {h : AH} {N : Nat} {S M : ST} {L : Nat → Nat} {z : Int64}
/-- none begins ahead of its first day, nor behind what all can reach -/
def LFD (S : ST) (s : LState) : Prop := ∀ t : Nat, t < 24 → s.2.2.1 t = 1 → S 9 t 0 = 0 → fday S s.1 s.2.1 t ≤ s.1 t ∧ ∀ j : Nat, (j : Int) < S 14 0 0 → lT S j = (t : Int) → s.1 (lF S j).toNat ≤ 1000 + 166 * (s.2.2.2.2.1 - 1) ∧ s.2.1 (lF S j).toNat ≤ 1000 + 166 * (s.2.2.2.2.1 - 1)
theorem LFD.put (w : WF S) {s : LState} (lv : LV9 S s) (p : LFD S s) {t : Nat} {x y : Int} (h0 : s.2.2.1 t = 0) (hd : S 9 t 0 = 0 → (fday S s.1 s.2.1 t ≤ x ∧ ∀ j : Nat, (j : Int) < S 14 0 0 → lT S j = (t : Int) → s.2.2.1 (lF S j).toNat = 1)) : LFD S (putS s t x y) := fun u hu hi h9 => by
  show fday S (fup s.1 t x) (fup s.2.1 t y) u ≤ fup s.1 t x u ∧ ∀ j : Nat, (j : Int) < S 14 0 0 → lT S j = (u : Int) → fup s.1 t x (lF S j).toNat ≤ 1000 + 166 * (s.2.2.2.2.1 + 1 - 1) ∧ fup s.2.1 t y (lF S j).toNat ≤ 1000 + 166 * (s.2.2.2.2.1 + 1 - 1)
  have wL := w.nL
  have hne : ∀ v, s.2.2.1 v = 1 → v ≠ t := fun v hv q => by rw [q, h0] at hv; omega
  have hb : ∀ j : Nat, (j : Int) < S 14 0 0 → s.2.2.1 (lF S j).toNat = 1 → fup s.1 t x (lF S j).toNat ≤ 1000 + 166 * (s.2.2.2.2.1 + 1 - 1) ∧ fup s.2.1 t y (lF S j).toNat ≤ 1000 + 166 * (s.2.2.2.2.1 + 1 - 1) := fun j hj hi => by
    have wj := w.at (i := j) (by omega)
    have q := lv.2.2.2.2.1 _ (by show (S 19 (S 18 j 0).toNat 0).toNat < 24; omega) hi
    rw [fupn (hne _ hi), fupn (hne _ hi)]
    omega
  by_cases hut : u = t
  · subst hut
    have hd := hd h9
    rw [fupe, fday_cg (b' := s.1) (e' := s.2.1) (fun j hj hl => ⟨fupn (hne _ (hd.2 j hj hl)), fupn (hne _ (hd.2 j hj hl))⟩)]
    exact ⟨hd.1, fun j hj hl => hb j hj (hd.2 j hj hl)⟩
  · have hi : fup s.2.2.1 t 1 u = 1 := hi
    rw [fupn hut] at hi
    have lo := lv.2.2.2.2.2.1.2 u hu hi h9
    rw [fupn hut, fday_cg (b' := s.1) (e' := s.2.1) (fun j hj hl => ⟨fupn (hne _ (lo j hj hl)), fupn (hne _ (lo j hj hl))⟩)]
    exact ⟨(p u hu hi h9).1, fun j hj hl => hb j hj (lo j hj hl)⟩
theorem LFD_D (w : WF S) : ∀ (m i : Nat) (s : LState), ((i + m : Nat) : Int) ≤ S 13 0 0 → LV9 S s → LFD S s → (∀ x, i ≤ x → s.2.2.1 x = 0) → LFD S (lvD S m i s)
  | 0, _, _, _, _, p, _ => p
  | m + 1, i, s, hi, lv, p, q => by
    have wT := w.nT
    have wt := w.task (t := i) (by omega)
    rw [lvD]
    by_cases h9 : S 9 i 0 = 0
    · rw [if_pos h9]
      exact LFD_D w m (i + 1) s (by omega) lv p (fun x hx => q x (by omega))
    · rw [if_neg h9]
      have c := lv.2.2.2.1
      exact LFD_D w m (i + 1) _ (by omega) (lv.put w (by omega) (q i (Nat.le_refl _)) (by omega) (by omega) (fun z => absurd z h9)) (p.put w lv (q i (Nat.le_refl _)) (fun z => absurd z h9)) (fun x hx => by
        show fup s.2.2.1 i 1 x = 0
        rw [fupn (by omega)]
        exact q x (by omega))
theorem LFD_R (w : WF S) {lb rm : Nat → Int} {rl : Int} : ∀ (m : Nat) (s : LState), LV9 S s → LFD S s → LFD S (lvR S lb rm rl m s)
  | 0, _, _, p => p
  | m + 1, s, lv, p => by
    rw [lvR]
    by_cases hn : nxtL S lb rm rl s < 0
    · rw [if_pos hn]; exact p
    · rw [if_neg hn]
      have wT := w.nT
      have wL := w.nL
      obtain ⟨t, et⟩ : ∃ t : Nat, nxtL S lb rm rl s = (t : Int) := ⟨(nxtL S lb rm rl s).toNat, by omega⟩
      obtain ⟨⟨q1, q2, q3, q4⟩, _, y0, zz, ⟨fy, _⟩, ⟨z1, z2, _⟩, ⟨_, e1⟩, q⟩ := lv.step w et
      rw [et, Int.toNat_natCast, z1, e1]
      refine LFD_R w m _ q (p.put w lv q2 (fun _ => ⟨by omega, fun j hj hl => ?_⟩))
      rcases chs_spec (S := S) (lb := lb) (rm := rm) (rl := rl) (inn := s.2.2.1) (S 13 0 0).toNat 0 (-1) 0 with g | ⟨x, x1, x2, x3, x4, x5, x6⟩
      · have g : nxtL S lb rm rl s = -1 := g
        omega
      · have x3 : nxtL S lb rm rl s = (x : Int) := x3
        have hxt : x = t := by omega
        subst hxt
        have o := (opn_iff (S := S) (g := s.2.2.1) (t := (x : Int)) (S 14 0 0).toNat 0).mp x6 j (by omega) (by omega) hl
        have := lv.1 (lF S j).toNat
        omega
theorem LFD_all (w : WF S) {lb rm : Nat → Int} {rl : Int} (od : Nat → Int) : LFD S (lvAll S lb rm rl od) := by
  have wT := w.nT
  have lv := LV9_D w (S 13 0 0).toNat 0 (lv0 od) (by omega) (LV9.i0 w od) (fun _ _ => rfl)
  exact LFD_R w _ _ lv.1 (LFD_D w _ 0 _ (by omega) (LV9.i0 w od) (fun t _ h => absurd (show (0 : Int) = 1 from h) (by decide)) (fun _ _ => rfl))
/-- the first day by one link alone -/
theorem fdayBy_LB (w : WF S) {b e : Nat → Int} {t k : Nat} (ht : t < 24) (hk : (k : Int) < S 14 0 0) (hl : lT S k = (t : Int)) {B : Int} (hB : 0 ≤ B ∧ B ≤ 4850) (h : b (lF S k).toNat ≤ B ∧ -1 ≤ e (lF S k).toNat ∧ e (lF S k).toNat ≤ B) (h0 : 0 ≤ eAsk e (lF S k) (lK S k) (lG S k)) :
    ∃ y : Nat, fdayBy S b e k = (y : Int) ∧ (y : Int) ≤ 4890 ∧ LBq (wkS S (S 6 t 0).toNat) (S 5 t 0).toNat (fun x => S 8 t 0 ≤ (x : Int) ∧ bAsk b e (lF S k) (lK S k) (lG S k) ≤ (x : Int) ∧ eAsk e (lF S k) (lK S k) (lG S k) ≤ (EN (wkS S (S 6 t 0).toNat) (S 5 t 0).toNat x : Int)) y := by
  have wt := w.task ht
  have wL := w.nL
  have wj := w.at (i := k) (by omega)
  have a1 := bAsk_le (b := b) (e := e) (k := lK S k) (g := lG S k) (f := lF S k) h.1 h.2.2 hB.1 wj.2.2.2.2
  have a2 := eAsk_le (e := e) (k := lK S k) (g := lG S k) (f := lF S k) h.2.2 hB.1 wj.2.2.2.2
  obtain ⟨y, y1, y2, y3⟩ := fbeg_LB (wkS_WK w (c := (S 6 t 0).toNat) (by omega)) (l := (S 5 t 0).toNat) (fr := max (S 8 t 0) (bAsk b e (lF S k) (lK S k) (lG S k))) (ef := eAsk e (lF S k) (lK S k) (lG S k)) (by omega) (by omega)
  refine ⟨y, ?_, by omega, y3.congr fun x _ _ => ⟨fun q => ⟨by omega, by omega, q.2⟩, fun q => ⟨by omega, q.2.2⟩⟩⟩
  unfold fdayBy
  rw [hl, Int.toNat_natCast, ← y1, show (((S 5 t 0).toNat : Nat) : Int) = S 5 t 0 by omega]
theorem ffir_LB (w : WF S) {t : Nat} (ht : t < 24) : ∃ y : Nat, fbeg (wkS S (S 6 t 0).toNat) (S 5 t 0) (S 8 t 0) 0 = (y : Int) ∧ y ≤ 1006 ∧ LBq (wkS S (S 6 t 0).toNat) (S 5 t 0).toNat (fun x => S 8 t 0 ≤ (x : Int)) y := by
  have wt := w.task ht
  obtain ⟨y, y1, y2, y3⟩ := fbeg_LB (wkS_WK w (c := (S 6 t 0).toNat) (by omega)) (l := (S 5 t 0).toNat) (fr := S 8 t 0) (ef := 0) (by omega) (by omega)
  refine ⟨y, ?_, by omega, y3.congr fun x _ _ => ⟨fun q => q.1, fun q => ⟨q, by omega⟩⟩⟩
  rw [← y1, show (((S 5 t 0).toNat : Nat) : Int) = S 5 t 0 by omega]
/-- some link holds it, if its first day is behind that by FIRST -/
theorem holder_ex (w : WF S) {b e : Nat → Int} {t : Nat} (ht : t < 24) {B : Int} (hB : 0 ≤ B ∧ B ≤ 4850) (h : ∀ k : Nat, (k : Int) < S 14 0 0 → lT S k = (t : Int) → (0 ≤ b (lF S k).toNat ∧ b (lF S k).toNat ≤ B) ∧ 0 ≤ e (lF S k).toNat ∧ e (lF S k).toNat ≤ B) {d : Int} (h1 : fbeg (wkS S (S 6 t 0).toNat) (S 5 t 0) (S 8 t 0) 0 < d) (h2 : d ≤ fday S b e t) :
    ∃ k : Nat, (k : Int) < S 14 0 0 ∧ lT S k = (t : Int) ∧ d ≤ fdayBy S b e k := by
  refine Classical.byContradiction fun hc => ?_
  have wL := w.nL
  have hall : ∀ k : Nat, (k : Int) < S 14 0 0 → lT S k = (t : Int) → fdayBy S b e k < d := fun k hk hl => by
    rcases Int.lt_or_le (fdayBy S b e k) d with q | q
    · exact q
    · exact absurd ⟨k, hk, hl, q⟩ hc
  obtain ⟨y0, f1, f2, f3⟩ := ffir_LB w ht
  have hle : ∀ j : Nat, (j : Int) < S 14 0 0 → lT S j = (t : Int) → b (lF S j).toNat ≤ B ∧ e (lF S j).toNat ≤ B := fun j h1 h2 => by have := h j h1 h2; omega
  have key : ∀ m : Nat, (m : Int) ≤ S 14 0 0 → ∃ y : Nat, (y : Int) < d ∧ y ≤ 4890 ∧ ((S 5 t 0).toNat = 0 ∨ wkS S (S 6 t 0).toNat y = true) ∧ FDk S b e t m y := fun m => by
    induction m with
    | zero =>
      intro _
      exact ⟨y0, by omega, by omega, f3.1, (f3.2 y0 (by omega) f3.1).mp (Nat.le_refl _), fun j hj => absurd hj (by omega)⟩
    | succ m ih =>
      intro hm
      obtain ⟨y, y1, y2, y3, y4⟩ := ih (by omega)
      by_cases hl : lT S m = (t : Int)
      · have hm2 := h m (by omega) hl
        obtain ⟨u, u1, u2, u3⟩ := fdayBy_LB w ht (by omega) hl hB (b := b) (e := e) ⟨by omega, by omega, by omega⟩ (by
          have wj := w.at (i := m) (by omega)
          have q : 0 ≤ S 22 (S 18 m 0).toNat 0 := wj.2.2.2.2.1
          unfold eAsk
          split
          · omega
          · split
            · omega
            · have := hm2.2.1
              show 0 ≤ e (lF S m).toNat + S 22 (S 18 m 0).toNat 0
              omega)
        have ud := hall m (by omega) hl
        obtain ⟨p, _, p2, p3⟩ := fdk_LB w ht hB (m := m) (by omega) hle
        obtain ⟨v, hv1, hv2, hv3, hv4⟩ : ∃ v : Nat, y ≤ v ∧ u ≤ v ∧ (v = y ∨ v = u) ∧ ((S 5 t 0).toNat = 0 ∨ wkS S (S 6 t 0).toNat v = true) := by
          by_cases hyu : y ≤ u
          · exact ⟨u, hyu, Nat.le_refl _, Or.inr rfl, u3.1⟩
          · exact ⟨y, Nat.le_refl _, by omega, Or.inl rfl, y3⟩
        refine ⟨v, by omega, by omega, hv4, ?_⟩
        rw [FDk_t hl]
        have c1 := (p3.2 y (by omega) y3).mpr y4
        have c2 := (u3.2 v (by omega) hv4).mp hv2
        exact ⟨(p3.2 v (by omega) hv4).mp (by omega), c2.2⟩
      · exact ⟨y, y1, y2, y3, (FDk_f hl).mpr y4⟩
  obtain ⟨y, y1, y2, y3, y4⟩ := key (S 14 0 0).toNat (by omega)
  obtain ⟨p, p1, p2, p3⟩ := fdk_LB w ht hB (m := (S 14 0 0).toNat) (by omega) hle
  have := (p3.2 y (by omega) y3).mpr y4
  have p1 : fday S b e t = (p : Int) := p1
  omega
theorem lth_at {b e : Nat → Int} {t k : Nat} : ∀ (m i : Nat), i ≤ k → k < i + m → (∀ j, i ≤ j → j < k → ¬ (lT S j = (t : Int) ∧ b t ≤ fdayBy S b e j)) → (lT S k = (t : Int) ∧ b t ≤ fdayBy S b e k) → lth S b e t m i = (k : Int)
  | 0, i, h1, h2, _, _ => by omega
  | m + 1, i, h1, h2, hn, hk => by
    rw [lth]
    by_cases hik : i = k
    · subst hik
      rw [if_pos hk]
    · rw [if_neg (hn i (Nat.le_refl _) (by omega))]
      exact lth_at m (i + 1) (by omega) (by omega) (fun j h3 h4 => hn j (by omega) h4) hk
theorem MLS.pre (w : WF S) {s : LState} (ml : MLS S M s) (lv : LV9 S s) (lf : LFD S s) {t : Nat} (ht : t < 24) (hin : s.2.2.1 t = 1) (h9 : S 9 t 0 = 0) : ∀ j : Nat, (j : Int) < S 14 0 0 → lT S j = (t : Int) → (0 ≤ M 22 0 (lF S j).toNat ∧ M 22 0 (lF S j).toNat ≤ 4818) ∧ 0 ≤ M 22 1 (lF S j).toNat ∧ M 22 1 (lF S j).toNat ≤ 4818 := fun j hj hl => by
  have wT := w.nT
  have wj := w.at (i := j) (by have := w.nL; omega)
  have hlt : (lF S j).toNat < 24 := by show (S 19 (S 18 j 0).toNat 0).toNat < 24; omega
  have q := lv.2.2.2.2.1 _ hlt (lv.2.2.2.2.2.1.2 t ht hin h9 j hj hl)
  have q2 := ml.1 _ hlt
  have q3 := (lf t ht hin h9).2 j hj hl
  have hct := lv.ct w
  omega
theorem MLS.fd (w : WF S) {s : LState} (ml : MLS S M s) (t : Nat) : fday S (M 22 0) (M 22 1) t = fday S s.1 s.2.1 t := fday_cg fun j hj _ => ml.1 _ (by
  have := w.at (i := j) (by have := w.nL; omega)
  show (S 19 (S 18 j 0).toNat 0).toNat < 24
  omega)
theorem m_holdsNow (P : MP G N M L z h) (r : RS S M) (w : WF S) {s : LState} (ml : MLS S M s) (lv : LV9 S s) (lf : LFD S s) {t : Nat} (ht : t < 24) : CT G mX11_holdsNow [.ref (cB G + 169), JV (t : Int)] h N 0 0 (PV (JV (holdF S (M 22 0) (M 22 1) s.2.2.1 t)) h N) := by
  refine CT_of (by decide +kernel) rfl (by simp [Value.category]) (Nat.le_of_ble_eq_true rfl) ?_
  change WP G mX11_holdsNow _ noX _ _ h N 0 [some (.ref (cB G + 169)), some (JV (t : Int))] []
  have wt := w.task ht
  have h01 := lv.1 t
  have m22 := ml.1 t ht
  have lv5 := lv.2.2.2.2.1 t ht
  have lv8 := lv.2.2.2.2.2.2.2.1 t
  have hct0 := lv.2.2.2.1
  have hct := lv.ct w
  have wT := w.nT
  refine wp_aload_n dX11_holdsNow_0 rfl ?_
  refine wp_get fkX11_42 dX11_holdsNow_1 (P.s0 r) rfl ?_
  refine wp_iload_n dX11_holdsNow_4 rfl ?_
  refine wp_zaload dX11_holdsNow_5 (P.s12 r) (by omega) (by omega) (by omega) ?_
  change WP G mX11_holdsNow _ _ _ _ h N 6 [some (.ref (cB G + 169)), some (JV (t : Int))] [JV (S 9 t 0)]
  refine wp_if_ne 21 dX11_holdsNow_6 (by decide) ⟨by omega, by omega⟩ (fun c_6 => ?_) (fun c_6 => ?_)
  · refine wp_iconst dX11_holdsNow_21 ?_
    refine wp_iret dX11_holdsNow_22 rfl ?_
    refine ⟨?_, rfl, rfl⟩
    unfold holdF
    rw [if_neg (fun q => c_6 q.1)]
  · refine wp_aload_n dX11_holdsNow_9 rfl ?_
    refine wp_get fkX11_64 dX11_holdsNow_10 (P.s0 r) rfl ?_
    refine wp_iconst dX11_holdsNow_13 ?_
    refine wp_aaload dX11_holdsNow_14 P.q22 rfl rfl (by omega) (by omega) (by omega) (if_pos (by omega)) ?_
    change WP G mX11_holdsNow _ _ _ _ h N 15 [some (.ref (cB G + 169)), some (JV (t : Int))] [.ref (cB G + 262 + 0)]
    refine wp_iload_n dX11_holdsNow_15 rfl ?_
    refine wp_iaload dX11_holdsNow_16 (P.r22 (i := 0) (by omega)) (by omega) (by omega) (by omega) ?_
    change WP G mX11_holdsNow _ _ _ _ h N 17 [some (.ref (cB G + 169)), some (JV (t : Int))] [JV (M 22 0 t)]
    refine wp_iconst dX11_holdsNow_17 ?_
    refine wp_icmp_ne 23 dX11_holdsNow_18 (by decide) ⟨by omega, by omega⟩ ⟨by omega, by omega⟩ (fun c_18 => ?_) (fun c_18 => ?_)
    · have hin : s.2.2.1 t = 1 := h01.resolve_left (fun q => c_18 (m22.1.trans (lv8 q).1))
      have hpre := ml.pre w lv lf ht hin c_6
      have fd := fday_LB w ht (b := M 22 0) (e := M 22 1) (M := 4818) (by omega) (fun j hj hl => by have := hpre j hj hl; omega)
      obtain ⟨fy, fe, fy2, _⟩ := fd
      obtain ⟨y0, ey0, y01, y02⟩ := ffir_LB w ht
      refine wp_aload_n dX11_holdsNow_23 rfl ?_
      refine wp_get fkX11_64 dX11_holdsNow_24 (P.s0 r) rfl ?_
      refine wp_iconst dX11_holdsNow_27 ?_
      refine wp_aaload dX11_holdsNow_28 P.q22 rfl rfl (by omega) (by omega) (by omega) (if_pos (by omega)) ?_
      change WP G mX11_holdsNow _ _ _ _ h N 29 [some (.ref (cB G + 169)), some (JV (t : Int))] [.ref (cB G + 262 + 0)]
      refine wp_iload_n dX11_holdsNow_29 rfl ?_
      refine wp_iaload dX11_holdsNow_30 (P.r22 (i := 0) (by omega)) (by omega) (by omega) (by omega) ?_
      change WP G mX11_holdsNow _ _ _ _ h N 31 [some (.ref (cB G + 169)), some (JV (t : Int))] [JV (M 22 0 t)]
      refine wp_aload_n dX11_holdsNow_31 rfl ?_
      refine wp_iload_n dX11_holdsNow_32 rfl ?_
      refine wp_aload_n dX11_holdsNow_33 rfl ?_
      refine wp_get fkX11_64 dX11_holdsNow_34 (P.s0 r) rfl ?_
      refine wp_v2p (m_byAll (N := N) (B := 4818) P r w P.pl22 ht (by omega) (fun j hj hl => by have := hpre j hj hl; omega)) cvX11_136 dX11_holdsNow_37 ⟨Nat.le_of_ble_eq_true rfl, Nat.le_of_ble_eq_true rfl⟩ (Nat.le_of_ble_eq_true rfl) (P.s0 r) rfl rfl ?_
      refine wp_icmp_le 45 dX11_holdsNow_40 (by decide) ⟨by omega, by omega⟩ ⟨by omega, by omega⟩ (fun c_40 => ?_) (fun c_40 => ?_)
      · refine wp_aload_n dX11_holdsNow_45 rfl ?_
        refine wp_get fkX11_64 dX11_holdsNow_46 (P.s0 r) rfl ?_
        refine wp_iconst dX11_holdsNow_49 ?_
        refine wp_aaload dX11_holdsNow_50 P.q22 rfl rfl (by omega) (by omega) (by omega) (if_pos (by omega)) ?_
        change WP G mX11_holdsNow _ _ _ _ h N 51 [some (.ref (cB G + 169)), some (JV (t : Int))] [.ref (cB G + 262 + 0)]
        refine wp_iload_n dX11_holdsNow_51 rfl ?_
        refine wp_iaload dX11_holdsNow_52 (P.r22 (i := 0) (by omega)) (by omega) (by omega) (by omega) ?_
        change WP G mX11_holdsNow _ _ _ _ h N 53 [some (.ref (cB G + 169)), some (JV (t : Int))] [JV (M 22 0 t)]
        refine wp_aload_n dX11_holdsNow_53 rfl ?_
        refine wp_iload_n dX11_holdsNow_54 rfl ?_
        refine wp_aload_n dX11_holdsNow_55 rfl ?_
        refine wp_get fkX11_36 dX11_holdsNow_56 (P.s0 r) rfl ?_
        refine wp_iload_n dX11_holdsNow_59 rfl ?_
        refine wp_iaload dX11_holdsNow_60 (P.s10 r) (by omega) (by omega) (by omega) ?_
        change WP G mX11_holdsNow _ _ _ _ h N 61 [some (.ref (cB G + 169)), some (JV (t : Int))] [JV (S 8 t 0), JV (t : Int), .ref (cB G + 169), JV (M 22 0 t)]
        obtain ⟨d8, ed8⟩ : ∃ d8 : Nat, S 8 t 0 = (d8 : Int) := ⟨(S 8 t 0).toNat, by omega⟩
        rw [ed8]
        refine wp_v2p (m_from (N := N) P r w (t := t) (d := d8) (y := y0) ht (y02.congr fun x _ _ => by rw [ed8]; omega) (by omega)) cvX11_110 dX11_holdsNow_61 ⟨Nat.le_of_ble_eq_true rfl, Nat.le_of_ble_eq_true rfl⟩ (Nat.le_of_ble_eq_true rfl) (P.s0 r) rfl rfl ?_
        refine wp_icmp_le 71 dX11_holdsNow_64 (by decide) ⟨by omega, by omega⟩ ⟨by omega, by omega⟩ (fun c_64 => ?_) (fun c_64 => ?_)
        · refine wp_iconst dX11_holdsNow_71 ?_
          refine wp_iret dX11_holdsNow_72 rfl ?_
          refine ⟨?_, rfl, rfl⟩
          unfold holdF
          rw [if_pos ⟨c_6, hin⟩, if_neg (by omega), ey0]
          rw [if_neg (by omega)]
        · refine wp_iconst dX11_holdsNow_67 ?_
          refine wp_goto 72 dX11_holdsNow_68 (by decide) ?_
          refine wp_iret dX11_holdsNow_72 rfl ?_
          refine ⟨?_, rfl, rfl⟩
          unfold holdF
          rw [if_pos ⟨c_6, hin⟩, if_neg (by omega), ey0]
          rw [if_pos (by omega)]
      · refine wp_iconst dX11_holdsNow_43 ?_
        refine wp_iret dX11_holdsNow_44 rfl ?_
        refine ⟨?_, rfl, rfl⟩
        unfold holdF
        rw [if_pos ⟨c_6, hin⟩, if_pos (by omega)]
    · refine wp_iconst dX11_holdsNow_21 ?_
      refine wp_iret dX11_holdsNow_22 rfl ?_
      refine ⟨?_, rfl, rfl⟩
      unfold holdF
      rw [if_neg (fun q => by have := lv5 q.2; omega)]

theorem l_holder {Q : PQ} {X : PX} {k9 n9 : Nat} (P : MP G N M L z h) (r : RS S M) (w : WF S) {s : LState} (ml : MLS S M s) (lv : LV9 S s) (lf : LFD S s) {t : Nat} (ht : t < 24) (hin : s.2.2.1 t = 1) (h9 : S 9 t 0 = 0) {kh : Nat} (hkh : (kh : Int) < S 14 0 0) (hkt : lT S kh = (t : Int)) (hkd : M 22 0 t ≤ fdayBy S (M 22 0) (M 22 1) kh) : ∀ (m : Nat) (k : Nat), (kh - k = m) → (k ≤ kh) → (∀ j, j < k → ¬ (lT S j = (t : Int) ∧ M 22 0 t ≤ fdayBy S (M 22 0) (M 22 1) j)) → (Q (some (JV (lth S (M 22 0) (M 22 1) t (S 14 0 0).toNat 0))) h N) → WP G mX11_holder Q X k9 n9 h N 13 [some (.ref (cB G + 169)), some (JV (t : Int)), some (JV (k : Int))] [] := by
  intro m
  induction m with
  | zero =>
    intro k hm hkk hn kk
    have hkk : k = kh := by omega
    subst hkk
    have hk : (k : Int) < S 14 0 0 := by omega
    have wL := w.nL
    have wk9 := w.at (i := k) (by omega)
    have wt := w.task ht
    refine wp_aload_n dX11_holder_13 rfl ?_
    refine wp_get fkX11_49 dX11_holder_14 (P.s0 r) rfl ?_
    refine wp_iload_n dX11_holder_17 rfl ?_
    refine wp_aaload dX11_holder_18 P.qL rfl rfl (by omega) (by omega) (by omega) (if_pos (by omega)) ?_
    change WP G mX11_holder _ _ _ _ h N 19 [some (.ref (cB G + 169)), some (JV (t : Int)), some (JV (k : Int))] [.ref (L k)]
    refine wp_iconst dX11_holder_19 ?_
    refine wp_iaload dX11_holder_20 (P.rL (i := k) (by omega)) (by omega) (by omega) (by omega) ?_
    change WP G mX11_holder _ _ _ _ h N 21 [some (.ref (cB G + 169)), some (JV (t : Int)), some (JV (k : Int))] [JV (M 15 k 1)]
    rw [r.lT hk]
    refine wp_iload_n dX11_holder_21 rfl ?_
    refine wp_icmp_ne 56 dX11_holder_22 (by decide) ⟨by omega, by omega⟩ ⟨by omega, by omega⟩ (fun c_22 => ?_) (fun c_22 => ?_)
    · exact absurd hkt c_22
    · have htk : lT S k = (t : Int) := c_22
      have hpre := ml.pre w lv lf ht hin h9
      have hpk := hpre k hk htk
      obtain ⟨y0, ey0, y01, y02⟩ := ffir_LB w ht
      obtain ⟨u, u1, u2, u3⟩ := fdayBy_LB w ht hk htk (B := 4818) (by omega) (b := M 22 0) (e := M 22 1) ⟨by omega, by omega, by omega⟩ (by
        have q : 0 ≤ S 22 (S 18 k 0).toNat 0 := wk9.2.2.2.2.1
        unfold eAsk
        split
        · omega
        · split
          · omega
          · have := hpk.2.1
            show 0 ≤ M 22 1 (lF S k).toNat + S 22 (S 18 k 0).toNat 0
            omega)
      obtain ⟨fy, fe, fy2, fy3⟩ := fday_LB w ht (b := M 22 0) (e := M 22 1) (M := 4818) (by omega) (fun j hj hl => by have := hpre j hj hl; omega)
      have huf : u ≤ fy := (u3.2 fy (by omega) fy3.1).mpr ⟨((fy3.2 fy (by omega) fy3.1).mp (Nat.le_refl _)).1, ((fy3.2 fy (by omega) fy3.1).mp (Nat.le_refl _)).2 k hk htk⟩
      have hfb : fday S (M 22 0) (M 22 1) t ≤ M 22 0 t := by rw [ml.fd w, (ml.1 t ht).1]; exact (lf t ht hin h9).1
      have m22 := ml.1 t ht
      have lv5 := lv.2.2.2.2.1 t ht hin
      have hct := lv.ct w
      have wT := w.nT
      refine wp_aload_n dX11_holder_25 rfl ?_
      refine wp_iload_n dX11_holder_26 rfl ?_
      refine wp_aload_n dX11_holder_27 rfl ?_
      refine wp_get fkX11_64 dX11_holder_28 (P.s0 r) rfl ?_
      refine wp_aload_n dX11_holder_31 rfl ?_
      refine wp_iload_n dX11_holder_32 rfl ?_
      refine wp_aload_n dX11_holder_33 rfl ?_
      refine wp_get fkX11_36 dX11_holder_34 (P.s0 r) rfl ?_
      refine wp_iload_n dX11_holder_37 rfl ?_
      refine wp_iaload dX11_holder_38 (P.s10 r) (by omega) (by omega) (by omega) ?_
      change WP G mX11_holder _ _ _ _ h N 39 [some (.ref (cB G + 169)), some (JV (t : Int)), some (JV (k : Int))] [JV (S 8 t 0), JV (t : Int), .ref (cB G + 169), .ref (cB G + 261), JV (k : Int), .ref (cB G + 169)]
      obtain ⟨d8, ed8⟩ : ∃ d8 : Nat, S 8 t 0 = (d8 : Int) := ⟨(S 8 t 0).toNat, by omega⟩
      rw [ed8]
      refine wp_v2p (m_from (N := N) P r w (t := t) (d := d8) (y := y0) ht (y02.congr fun x _ _ => by rw [ed8]; omega) (by omega)) cvX11_110 dX11_holder_39 ⟨Nat.le_of_ble_eq_true rfl, Nat.le_of_ble_eq_true rfl⟩ (Nat.le_of_ble_eq_true rfl) (P.s0 r) rfl rfl ?_
      have hq2 : LBq (wkS S (S 6 t 0).toNat) (S 5 t 0).toNat (fun x => y0 ≤ x ∧ bAsk (M 22 0) (M 22 1) (lF S k) (lK S k) (lG S k) ≤ (x : Int) ∧ eAsk (M 22 1) (lF S k) (lK S k) (lG S k) ≤ (EN (wkS S (S 6 t 0).toNat) (S 5 t 0).toNat x : Int)) u := u3.congr fun x hx ok => and_congr_left fun _ => (y02.2 x hx ok).symm
      refine wp_v3p (m_byLink (N := N) P r w (t := t) (d := y0) (k := k) (y := u) P.pl22 ht hk htk ⟨⟨Int.le_trans (show (-1 : Int) ≤ 0 by decide) hpk.1.1, Int.le_trans hpk.1.2 (by omega)⟩, Int.le_trans (show (-1 : Int) ≤ 0 by decide) hpk.2.1, Int.le_trans hpk.2.2 (by omega)⟩ hq2 (by omega)) cvX11_125 dX11_holder_42 ⟨Nat.le_of_ble_eq_true rfl, Nat.le_of_ble_eq_true rfl⟩ (Nat.le_of_ble_eq_true rfl) (P.s0 r) rfl rfl ?_
      refine wp_aload_n dX11_holder_45 rfl ?_
      refine wp_get fkX11_64 dX11_holder_46 (P.s0 r) rfl ?_
      refine wp_iconst dX11_holder_49 ?_
      refine wp_aaload dX11_holder_50 P.q22 rfl rfl (by omega) (by omega) (by omega) (if_pos (by omega)) ?_
      change WP G mX11_holder _ _ _ _ h N 51 [some (.ref (cB G + 169)), some (JV (t : Int)), some (JV (k : Int))] [.ref (cB G + 262 + 0), JV (u : Int)]
      refine wp_iload_n dX11_holder_51 rfl ?_
      refine wp_iaload dX11_holder_52 (P.r22 (i := 0) (by omega)) (by omega) (by omega) (by omega) ?_
      change WP G mX11_holder _ _ _ _ h N 53 [some (.ref (cB G + 169)), some (JV (t : Int)), some (JV (k : Int))] [JV (M 22 0 t), JV (u : Int)]
      refine wp_icmp_eq 62 dX11_holder_53 (by decide) ⟨by omega, by omega⟩ ⟨by omega, by omega⟩ (fun c_53 => ?_) (fun c_53 => ?_)
      · refine wp_iload_n dX11_holder_62 rfl ?_
        refine wp_iret dX11_holder_63 rfl ?_
        have e9 := lth_at (S := S) (b := M 22 0) (e := M 22 1) (t := t) (k := k) (S 14 0 0).toNat 0 (Nat.zero_le _) (by omega) (fun j _ hj => hn j hj) ⟨htk, by rw [u1]; omega⟩
        rw [e9] at kk
        exact kk
      · exact absurd (show (u : Int) = M 22 0 t by rw [u1] at hkd; omega) c_53
  | succ m ih =>
    intro k hm hkk hn kk
    have hk : (k : Int) < S 14 0 0 := by omega
    have wL := w.nL
    have wk9 := w.at (i := k) (by omega)
    have wt := w.task ht
    refine wp_aload_n dX11_holder_13 rfl ?_
    refine wp_get fkX11_49 dX11_holder_14 (P.s0 r) rfl ?_
    refine wp_iload_n dX11_holder_17 rfl ?_
    refine wp_aaload dX11_holder_18 P.qL rfl rfl (by omega) (by omega) (by omega) (if_pos (by omega)) ?_
    change WP G mX11_holder _ _ _ _ h N 19 [some (.ref (cB G + 169)), some (JV (t : Int)), some (JV (k : Int))] [.ref (L k)]
    refine wp_iconst dX11_holder_19 ?_
    refine wp_iaload dX11_holder_20 (P.rL (i := k) (by omega)) (by omega) (by omega) (by omega) ?_
    change WP G mX11_holder _ _ _ _ h N 21 [some (.ref (cB G + 169)), some (JV (t : Int)), some (JV (k : Int))] [JV (M 15 k 1)]
    rw [r.lT hk]
    refine wp_iload_n dX11_holder_21 rfl ?_
    refine wp_icmp_ne 56 dX11_holder_22 (by decide) ⟨by omega, by omega⟩ ⟨by omega, by omega⟩ (fun c_22 => ?_) (fun c_22 => ?_)
    · refine wp_iinc dX11_holder_56 rfl (Nat.le_of_ble_eq_true rfl) rfl ?_
      change WP G mX11_holder _ _ _ _ h N 59 [some (.ref (cB G + 169)), some (JV (t : Int)), some (JV ((k : Int) + 1))] []
      refine wp_goto 13 dX11_holder_59 (by decide) ?_
      exact ih (k + 1) (by have hkn : k ≠ kh := (fun q => c_22 (by rw [q]; exact hkt)); omega) (by have hkn : k ≠ kh := (fun q => c_22 (by rw [q]; exact hkt)); omega) (fun j hj => by
        by_cases hjk : j = k
        · rw [hjk]; exact fun q => c_22 q.1
        · exact hn j (by omega)) kk
    · have htk : lT S k = (t : Int) := c_22
      have hpre := ml.pre w lv lf ht hin h9
      have hpk := hpre k hk htk
      obtain ⟨y0, ey0, y01, y02⟩ := ffir_LB w ht
      obtain ⟨u, u1, u2, u3⟩ := fdayBy_LB w ht hk htk (B := 4818) (by omega) (b := M 22 0) (e := M 22 1) ⟨by omega, by omega, by omega⟩ (by
        have q : 0 ≤ S 22 (S 18 k 0).toNat 0 := wk9.2.2.2.2.1
        unfold eAsk
        split
        · omega
        · split
          · omega
          · have := hpk.2.1
            show 0 ≤ M 22 1 (lF S k).toNat + S 22 (S 18 k 0).toNat 0
            omega)
      obtain ⟨fy, fe, fy2, fy3⟩ := fday_LB w ht (b := M 22 0) (e := M 22 1) (M := 4818) (by omega) (fun j hj hl => by have := hpre j hj hl; omega)
      have huf : u ≤ fy := (u3.2 fy (by omega) fy3.1).mpr ⟨((fy3.2 fy (by omega) fy3.1).mp (Nat.le_refl _)).1, ((fy3.2 fy (by omega) fy3.1).mp (Nat.le_refl _)).2 k hk htk⟩
      have hfb : fday S (M 22 0) (M 22 1) t ≤ M 22 0 t := by rw [ml.fd w, (ml.1 t ht).1]; exact (lf t ht hin h9).1
      have m22 := ml.1 t ht
      have lv5 := lv.2.2.2.2.1 t ht hin
      have hct := lv.ct w
      have wT := w.nT
      refine wp_aload_n dX11_holder_25 rfl ?_
      refine wp_iload_n dX11_holder_26 rfl ?_
      refine wp_aload_n dX11_holder_27 rfl ?_
      refine wp_get fkX11_64 dX11_holder_28 (P.s0 r) rfl ?_
      refine wp_aload_n dX11_holder_31 rfl ?_
      refine wp_iload_n dX11_holder_32 rfl ?_
      refine wp_aload_n dX11_holder_33 rfl ?_
      refine wp_get fkX11_36 dX11_holder_34 (P.s0 r) rfl ?_
      refine wp_iload_n dX11_holder_37 rfl ?_
      refine wp_iaload dX11_holder_38 (P.s10 r) (by omega) (by omega) (by omega) ?_
      change WP G mX11_holder _ _ _ _ h N 39 [some (.ref (cB G + 169)), some (JV (t : Int)), some (JV (k : Int))] [JV (S 8 t 0), JV (t : Int), .ref (cB G + 169), .ref (cB G + 261), JV (k : Int), .ref (cB G + 169)]
      obtain ⟨d8, ed8⟩ : ∃ d8 : Nat, S 8 t 0 = (d8 : Int) := ⟨(S 8 t 0).toNat, by omega⟩
      rw [ed8]
      refine wp_v2p (m_from (N := N) P r w (t := t) (d := d8) (y := y0) ht (y02.congr fun x _ _ => by rw [ed8]; omega) (by omega)) cvX11_110 dX11_holder_39 ⟨Nat.le_of_ble_eq_true rfl, Nat.le_of_ble_eq_true rfl⟩ (Nat.le_of_ble_eq_true rfl) (P.s0 r) rfl rfl ?_
      have hq2 : LBq (wkS S (S 6 t 0).toNat) (S 5 t 0).toNat (fun x => y0 ≤ x ∧ bAsk (M 22 0) (M 22 1) (lF S k) (lK S k) (lG S k) ≤ (x : Int) ∧ eAsk (M 22 1) (lF S k) (lK S k) (lG S k) ≤ (EN (wkS S (S 6 t 0).toNat) (S 5 t 0).toNat x : Int)) u := u3.congr fun x hx ok => and_congr_left fun _ => (y02.2 x hx ok).symm
      refine wp_v3p (m_byLink (N := N) P r w (t := t) (d := y0) (k := k) (y := u) P.pl22 ht hk htk ⟨⟨Int.le_trans (show (-1 : Int) ≤ 0 by decide) hpk.1.1, Int.le_trans hpk.1.2 (by omega)⟩, Int.le_trans (show (-1 : Int) ≤ 0 by decide) hpk.2.1, Int.le_trans hpk.2.2 (by omega)⟩ hq2 (by omega)) cvX11_125 dX11_holder_42 ⟨Nat.le_of_ble_eq_true rfl, Nat.le_of_ble_eq_true rfl⟩ (Nat.le_of_ble_eq_true rfl) (P.s0 r) rfl rfl ?_
      refine wp_aload_n dX11_holder_45 rfl ?_
      refine wp_get fkX11_64 dX11_holder_46 (P.s0 r) rfl ?_
      refine wp_iconst dX11_holder_49 ?_
      refine wp_aaload dX11_holder_50 P.q22 rfl rfl (by omega) (by omega) (by omega) (if_pos (by omega)) ?_
      change WP G mX11_holder _ _ _ _ h N 51 [some (.ref (cB G + 169)), some (JV (t : Int)), some (JV (k : Int))] [.ref (cB G + 262 + 0), JV (u : Int)]
      refine wp_iload_n dX11_holder_51 rfl ?_
      refine wp_iaload dX11_holder_52 (P.r22 (i := 0) (by omega)) (by omega) (by omega) (by omega) ?_
      change WP G mX11_holder _ _ _ _ h N 53 [some (.ref (cB G + 169)), some (JV (t : Int)), some (JV (k : Int))] [JV (M 22 0 t), JV (u : Int)]
      refine wp_icmp_eq 62 dX11_holder_53 (by decide) ⟨by omega, by omega⟩ ⟨by omega, by omega⟩ (fun c_53 => ?_) (fun c_53 => ?_)
      · refine wp_iload_n dX11_holder_62 rfl ?_
        refine wp_iret dX11_holder_63 rfl ?_
        have e9 := lth_at (S := S) (b := M 22 0) (e := M 22 1) (t := t) (k := k) (S 14 0 0).toNat 0 (Nat.zero_le _) (by omega) (fun j _ hj => hn j hj) ⟨htk, by rw [u1]; omega⟩
        rw [e9] at kk
        exact kk
      · refine wp_iinc dX11_holder_56 rfl (Nat.le_of_ble_eq_true rfl) rfl ?_
        change WP G mX11_holder _ _ _ _ h N 59 [some (.ref (cB G + 169)), some (JV (t : Int)), some (JV ((k : Int) + 1))] []
        refine wp_goto 13 dX11_holder_59 (by decide) ?_
        exact ih (k + 1) (by have hkn : k ≠ kh := (fun q => by subst q; rw [u1] at hkd; omega); omega) (by have hkn : k ≠ kh := (fun q => by subst q; rw [u1] at hkd; omega); omega) (fun j hj => by
          by_cases hjk : j = k
          · rw [hjk]; exact fun q => by rw [u1] at q; omega
          · exact hn j (by omega)) kk

theorem m_holder (P : MP G N M L z h) (r : RS S M) (w : WF S) {s : LState} (ml : MLS S M s) (lv : LV9 S s) (lf : LFD S s) {t : Nat} (ht : t < 24) : CT G mX11_holder [.ref (cB G + 169), JV (t : Int)] h N 0 0 (PV (JV (lthF S (M 22 0) (M 22 1) s.2.2.1 t)) h N) := by
  refine CT_of (by decide +kernel) rfl (by simp [Value.category]) (Nat.le_of_ble_eq_true rfl) ?_
  change WP G mX11_holder _ noX _ _ h N 0 [some (.ref (cB G + 169)), some (JV (t : Int)), none] []
  refine wp_aload_n dX11_holder_0 rfl ?_
  refine wp_iload_n dX11_holder_1 rfl ?_
  have hr9 : -1 ≤ holdF S (M 22 0) (M 22 1) s.2.2.1 t ∧ holdF S (M 22 0) (M 22 1) s.2.2.1 t ≤ 2 := by unfold holdF; split; split; omega; split <;> omega; omega
  refine wp_v1p (m_holdsNow (N := N) P r w ml lv lf ht) cvX11_239 dX11_holder_2 ⟨Nat.le_of_ble_eq_true rfl, Nat.le_of_ble_eq_true rfl⟩ (Nat.le_of_ble_eq_true rfl) (P.s0 r) rfl rfl ?_
  refine wp_iconst dX11_holder_5 ?_
  refine wp_icmp_eq 11 dX11_holder_6 (by decide) ⟨by omega, by omega⟩ ⟨by omega, by omega⟩ (fun c_6 => ?_) (fun c_6 => ?_)
  · have hd9 : (S 9 t 0 = 0 ∧ s.2.2.1 t = 1) ∧ ¬ M 22 0 t > fday S (M 22 0) (M 22 1) t ∧ M 22 0 t > fbeg (wkS S (S 6 t 0).toNat) (S 5 t 0) (S 8 t 0) 0 := by
      unfold holdF at c_6
      by_cases a1 : S 9 t 0 = 0 ∧ s.2.2.1 t = 1
      · rw [if_pos a1] at c_6
        by_cases a2 : M 22 0 t > fday S (M 22 0) (M 22 1) t
        · rw [if_pos a2] at c_6; omega
        · rw [if_neg a2] at c_6
          by_cases a3 : M 22 0 t > fbeg (wkS S (S 6 t 0).toNat) (S 5 t 0) (S 8 t 0) 0
          · exact ⟨a1, a2, a3⟩
          · rw [if_neg a3] at c_6; omega
      · rw [if_neg a1] at c_6; omega
    obtain ⟨kh, kh1, kh2, kh3⟩ := holder_ex w ht (B := 4818) (by omega) (b := M 22 0) (e := M 22 1) (fun k hk hl => ml.pre w lv lf ht hd9.1.2 hd9.1.1 k hk hl) (d := M 22 0 t) hd9.2.2 (by omega)
    refine wp_iconst dX11_holder_11 ?_
    refine wp_istore_n dX11_holder_12 (Nat.le_of_ble_eq_true rfl) rfl ?_
    change WP G mX11_holder _ _ _ _ h N 13 [some (.ref (cB G + 169)), some (JV (t : Int)), some (JV 0)] []
    refine l_holder P r w ml lv lf ht hd9.1.2 hd9.1.1 kh1 kh2 kh3 _ 0 rfl (Nat.zero_le _) (fun j hj => absurd hj (by omega)) ⟨?_, rfl, rfl⟩
    unfold lthF
    rw [if_pos c_6]
  · refine wp_iconst dX11_holder_9 ?_
    refine wp_iret dX11_holder_10 rfl ?_
    refine ⟨?_, rfl, rfl⟩
    unfold lthF
    rw [if_neg c_6]

end Mz

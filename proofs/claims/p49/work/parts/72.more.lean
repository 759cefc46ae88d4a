/-! ===== what else of whole speaks of the class alone ===== -/
section More
variable {G : Ctx} {h : AH} {N N1 : Nat} {S S1 : ST} {st : Int} {K K1 : KTup} {eb ee lb le rm : Nat → Int} {ld : Int} {od : Nat → Int}
/-- the cells beyond the class's may change -/
theorem SPI.reghost {h' : AH} {st : Int} (sp : SPI G h S st K) (e : ∀ q, q < cB G + 169 → h' q = h q) : SPI G h' S st (h', K.2) := by
  obtain ⟨a, b, c, d, n, l, k, f, g⟩ := sp
  refine ⟨(e _ (by omega)).trans a, b.frame (fun q h1 h2 => e q (by omega)), c, d, n.frame (fun q h1 h2 => e q (by omega)), l.frame (fun q h1 h2 => e q (by omega)), ⟨k.1.frame (fun q h1 h2 => e q (by omega)), k.2⟩, ?_, fun q _ => rfl⟩
  rcases f with ⟨f1, f2, f3, f4⟩ | ⟨f1, f2⟩
  · exact Or.inl ⟨f1, f2.frame (fun q h1 h2 => e q (by omega)), f3.frame (fun q h1 h2 => e q (by omega)), f4.frame (fun q h1 h2 => e q (by omega))⟩
  · exact Or.inr ⟨f1, f2.frame (fun q h1 h2 => e q (by omega))⟩
theorem LDY_uniq {f g : Nat → Int} {x y : Int} (e : ∀ t : Nat, (t : Int) < S 13 0 0 → f t = g t) (p : LDY S f x) (q : LDY S g y) : x = y := by
  have a : x ≤ y := by
    rcases p.2.1 with h | ⟨t, h1, h2⟩
    · have := q.2.2.1; omega
    · have := q.1 t h1; have := e t h1; omega
  have b : y ≤ x := by
    rcases q.2.1 with h | ⟨t, h1, h2⟩
    · have := p.2.2.1; omega
    · have := p.1 t h1; have := e t h1; omega
  omega
section FDk9
variable {b e : Nat → Int}
theorem FDk_t {t k x : Nat} (h : lT S k = (t : Int)) : FDk S b e t (k + 1) x ↔ FDk S b e t k x ∧ bAsk b e (lF S k) (lK S k) (lG S k) ≤ (x : Int) ∧ eAsk e (lF S k) (lK S k) (lG S k) ≤ (EN (wkS S (S 6 t 0).toNat) (S 5 t 0).toNat x : Int) := by
  unfold FDk
  constructor
  · intro q
    exact ⟨⟨q.1, fun j h1 h2 => q.2 j (by omega) h2⟩, q.2 k (by omega) h⟩
  · intro q
    refine ⟨q.1.1, fun j h1 h2 => ?_⟩
    by_cases hj : j = k
    · rw [hj]; exact q.2
    · exact q.1.2 j (by omega) h2
theorem FDk_f {t k x : Nat} (h : ¬ lT S k = (t : Int)) : FDk S b e t (k + 1) x ↔ FDk S b e t k x := by
  unfold FDk
  refine and_congr_right fun _ => ⟨fun q j h1 h2 => q j (by omega) h2, fun q j h1 h2 => ?_⟩
  by_cases hj : j = k
  · exact absurd (hj ▸ h2) h
  · exact q j (by omega) h2
end FDk9
/-- none begins ahead of its first day, nor behind what all can reach -/
def LFD (S : ST) (s : LState) : Prop := ∀ t : Nat, t < 24 → s.2.2.1 t = 1 → S 9 t 0 = 0 → fday S s.1 s.2.1 t ≤ s.1 t ∧ ∀ j : Nat, (j : Int) < S 14 0 0 → lT S j = (t : Int) → s.1 (lF S j).toNat ≤ 1000 + 166 * (s.2.2.2.2.1 - 1) ∧ s.2.1 (lF S j).toNat ≤ 1000 + 166 * (s.2.2.2.2.1 - 1)
theorem LFD.put (w : WF S) {s : LState} (lv : LV9 S s) (p : LFD S s) {t : Nat} {x y : Int} (h0 : s.2.2.1 t = 0) (hd : S 9 t 0 = 0 → (fday S s.1 s.2.1 t ≤ x ∧ ∀ j : Nat, (j : Int) < S 14 0 0 → lT S j = (t : Int) → s.2.2.1 (lF S j).toNat = 1)) : LFD S (putS s t x y) := fun u hu hi h9 => by
  show fday S (fup s.1 t x) (fup s.2.1 t y) u ≤ fup s.1 t x u ∧ ∀ j : Nat, (j : Int) < S 14 0 0 → lT S j = (u : Int) → fup s.1 t x (lF S j).toNat ≤ 1000 + 166 * (s.2.2.2.2.1 + 1 - 1) ∧ fup s.2.1 t y (lF S j).toNat ≤ 1000 + 166 * (s.2.2.2.2.1 + 1 - 1)
  have wL := w.nL
  have hne : ∀ v, s.2.2.1 v = 1 → v ≠ t := fun v hv q => by rw [q, h0] at hv; omega
  have hb : ∀ j : Nat, (j : Int) < S 14 0 0 → s.2.2.1 (lF S j).toNat = 1 → fup s.1 t x (lF S j).toNat ≤ 1000 + 166 * (s.2.2.2.2.1 + 1 - 1) ∧ fup s.2.1 t y (lF S j).toNat ≤ 1000 + 166 * (s.2.2.2.2.1 + 1 - 1) := fun j hj hi => by
    have wj := w.at (i := j) (by omega)
    have q := lv.2.2.2.2.1 _ (by show (S 19 (S 18 j 0).toNat 0).toNat < 24; omega) hi
    rw [fupn (hne _ hi), fupn (hne _ hi)]
    omega
  by_cases hut : u = t
  · subst hut
    have hd := hd h9
    rw [fupe, fday_cg (b' := s.1) (e' := s.2.1) (fun j hj hl => ⟨fupn (hne _ (hd.2 j hj hl)), fupn (hne _ (hd.2 j hj hl))⟩)]
    exact ⟨hd.1, fun j hj hl => hb j hj (hd.2 j hj hl)⟩
  · have hi : fup s.2.2.1 t 1 u = 1 := hi
    rw [fupn hut] at hi
    have lo := lv.2.2.2.2.2.1.2 u hu hi h9
    rw [fupn hut, fday_cg (b' := s.1) (e' := s.2.1) (fun j hj hl => ⟨fupn (hne _ (lo j hj hl)), fupn (hne _ (lo j hj hl))⟩)]
    exact ⟨(p u hu hi h9).1, fun j hj hl => hb j hj (lo j hj hl)⟩
theorem LFD_D (w : WF S) : ∀ (m i : Nat) (s : LState), ((i + m : Nat) : Int) ≤ S 13 0 0 → LV9 S s → LFD S s → (∀ x, i ≤ x → s.2.2.1 x = 0) → LFD S (lvD S m i s)
  | 0, _, _, _, _, p, _ => p
  | m + 1, i, s, hi, lv, p, q => by
    have wT := w.nT
    have wt := w.task (t := i) (by omega)
    rw [lvD]
    by_cases h9 : S 9 i 0 = 0
    · rw [if_pos h9]
      exact LFD_D w m (i + 1) s (by omega) lv p (fun x hx => q x (by omega))
    · rw [if_neg h9]
      have c := lv.2.2.2.1
      exact LFD_D w m (i + 1) _ (by omega) (lv.put w (by omega) (q i (Nat.le_refl _)) (by omega) (by omega) (fun z => absurd z h9)) (p.put w lv (q i (Nat.le_refl _)) (fun z => absurd z h9)) (fun x hx => by
        show fup s.2.2.1 i 1 x = 0
        rw [fupn (by omega)]
        exact q x (by omega))
theorem LFD_R (w : WF S) {lb rm : Nat → Int} {rl : Int} : ∀ (m : Nat) (s : LState), LV9 S s → LFD S s → LFD S (lvR S lb rm rl m s)
  | 0, _, _, p => p
  | m + 1, s, lv, p => by
    rw [lvR]
    by_cases hn : nxtL S lb rm rl s < 0
    · rw [if_pos hn]; exact p
    · rw [if_neg hn]
      have wT := w.nT
      have wL := w.nL
      obtain ⟨t, et⟩ : ∃ t : Nat, nxtL S lb rm rl s = (t : Int) := ⟨(nxtL S lb rm rl s).toNat, by omega⟩
      obtain ⟨⟨q1, q2, q3, q4⟩, _, y0, zz, ⟨fy, _⟩, ⟨z1, z2, _⟩, ⟨_, e1⟩, q⟩ := lv.step w et
      rw [et, Int.toNat_natCast, z1, e1]
      refine LFD_R w m _ q (p.put w lv q2 (fun _ => ⟨by omega, fun j hj hl => ?_⟩))
      rcases chs_spec (S := S) (lb := lb) (rm := rm) (rl := rl) (inn := s.2.2.1) (S 13 0 0).toNat 0 (-1) 0 with g | ⟨x, x1, x2, x3, x4, x5, x6⟩
      · have g : nxtL S lb rm rl s = -1 := g
        omega
      · have x3 : nxtL S lb rm rl s = (x : Int) := x3
        have hxt : x = t := by omega
        subst hxt
        have o := (opn_iff (S := S) (g := s.2.2.1) (t := (x : Int)) (S 14 0 0).toNat 0).mp x6 j (by omega) (by omega) hl
        have := lv.1 (lF S j).toNat
        omega
theorem LFD_all (w : WF S) {lb rm : Nat → Int} {rl : Int} (od : Nat → Int) : LFD S (lvAll S lb rm rl od) := by
  have wT := w.nT
  have lv := LV9_D w (S 13 0 0).toNat 0 (lv0 od) (by omega) (LV9.i0 w od) (fun _ _ => rfl)
  exact LFD_R w _ _ lv.1 (LFD_D w _ 0 _ (by omega) (LV9.i0 w od) (fun t _ h => absurd (show (0 : Int) = 1 from h) (by decide)) (fun _ _ => rfl))
/-- the first day by one link alone -/
theorem fdayBy_LB (w : WF S) {b e : Nat → Int} {t k : Nat} (ht : t < 24) (hk : (k : Int) < S 14 0 0) (hl : lT S k = (t : Int)) {B : Int} (hB : 0 ≤ B ∧ B ≤ 4850) (h : b (lF S k).toNat ≤ B ∧ -1 ≤ e (lF S k).toNat ∧ e (lF S k).toNat ≤ B) (h0 : 0 ≤ eAsk e (lF S k) (lK S k) (lG S k)) :
    ∃ y : Nat, fdayBy S b e k = (y : Int) ∧ (y : Int) ≤ 4890 ∧ LBq (wkS S (S 6 t 0).toNat) (S 5 t 0).toNat (fun x => S 8 t 0 ≤ (x : Int) ∧ bAsk b e (lF S k) (lK S k) (lG S k) ≤ (x : Int) ∧ eAsk e (lF S k) (lK S k) (lG S k) ≤ (EN (wkS S (S 6 t 0).toNat) (S 5 t 0).toNat x : Int)) y := by
  have wt := w.task ht
  have wL := w.nL
  have wj := w.at (i := k) (by omega)
  have a1 := bAsk_le (b := b) (e := e) (k := lK S k) (g := lG S k) (f := lF S k) h.1 h.2.2 hB.1 wj.2.2.2.2
  have a2 := eAsk_le (e := e) (k := lK S k) (g := lG S k) (f := lF S k) h.2.2 hB.1 wj.2.2.2.2
  obtain ⟨y, y1, y2, y3⟩ := fbeg_LB (wkS_WK w (c := (S 6 t 0).toNat) (by omega)) (l := (S 5 t 0).toNat) (fr := max (S 8 t 0) (bAsk b e (lF S k) (lK S k) (lG S k))) (ef := eAsk e (lF S k) (lK S k) (lG S k)) (by omega) (by omega)
  refine ⟨y, ?_, by omega, y3.congr fun x _ _ => ⟨fun q => ⟨by omega, by omega, q.2⟩, fun q => ⟨by omega, q.2.2⟩⟩⟩
  unfold fdayBy
  rw [hl, Int.toNat_natCast, ← y1, show (((S 5 t 0).toNat : Nat) : Int) = S 5 t 0 by omega]
theorem ffir_LB (w : WF S) {t : Nat} (ht : t < 24) : ∃ y : Nat, fbeg (wkS S (S 6 t 0).toNat) (S 5 t 0) (S 8 t 0) 0 = (y : Int) ∧ y ≤ 1006 ∧ LBq (wkS S (S 6 t 0).toNat) (S 5 t 0).toNat (fun x => S 8 t 0 ≤ (x : Int)) y := by
  have wt := w.task ht
  obtain ⟨y, y1, y2, y3⟩ := fbeg_LB (wkS_WK w (c := (S 6 t 0).toNat) (by omega)) (l := (S 5 t 0).toNat) (fr := S 8 t 0) (ef := 0) (by omega) (by omega)
  refine ⟨y, ?_, by omega, y3.congr fun x _ _ => ⟨fun q => q.1, fun q => ⟨q, by omega⟩⟩⟩
  rw [← y1, show (((S 5 t 0).toNat : Nat) : Int) = S 5 t 0 by omega]
/-- some link holds it, if its first day is behind that by FIRST -/
theorem holder_ex (w : WF S) {b e : Nat → Int} {t : Nat} (ht : t < 24) {B : Int} (hB : 0 ≤ B ∧ B ≤ 4850) (h : ∀ k : Nat, (k : Int) < S 14 0 0 → lT S k = (t : Int) → (0 ≤ b (lF S k).toNat ∧ b (lF S k).toNat ≤ B) ∧ 0 ≤ e (lF S k).toNat ∧ e (lF S k).toNat ≤ B) {d : Int} (h1 : fbeg (wkS S (S 6 t 0).toNat) (S 5 t 0) (S 8 t 0) 0 < d) (h2 : d ≤ fday S b e t) :
    ∃ k : Nat, (k : Int) < S 14 0 0 ∧ lT S k = (t : Int) ∧ d ≤ fdayBy S b e k := by
  refine Classical.byContradiction fun hc => ?_
  have wL := w.nL
  have hall : ∀ k : Nat, (k : Int) < S 14 0 0 → lT S k = (t : Int) → fdayBy S b e k < d := fun k hk hl => by
    rcases Int.lt_or_le (fdayBy S b e k) d with q | q
    · exact q
    · exact absurd ⟨k, hk, hl, q⟩ hc
  obtain ⟨y0, f1, f2, f3⟩ := ffir_LB w ht
  have hle : ∀ j : Nat, (j : Int) < S 14 0 0 → lT S j = (t : Int) → b (lF S j).toNat ≤ B ∧ e (lF S j).toNat ≤ B := fun j h1 h2 => by have := h j h1 h2; omega
  have key : ∀ m : Nat, (m : Int) ≤ S 14 0 0 → ∃ y : Nat, (y : Int) < d ∧ y ≤ 4890 ∧ ((S 5 t 0).toNat = 0 ∨ wkS S (S 6 t 0).toNat y = true) ∧ FDk S b e t m y := fun m => by
    induction m with
    | zero =>
      intro _
      exact ⟨y0, by omega, by omega, f3.1, (f3.2 y0 (by omega) f3.1).mp (Nat.le_refl _), fun j hj => absurd hj (by omega)⟩
    | succ m ih =>
      intro hm
      obtain ⟨y, y1, y2, y3, y4⟩ := ih (by omega)
      by_cases hl : lT S m = (t : Int)
      · have hm2 := h m (by omega) hl
        obtain ⟨u, u1, u2, u3⟩ := fdayBy_LB w ht (by omega) hl hB (b := b) (e := e) ⟨by omega, by omega, by omega⟩ (by
          have wj := w.at (i := m) (by omega)
          have q : 0 ≤ S 22 (S 18 m 0).toNat 0 := wj.2.2.2.2.1
          unfold eAsk
          split
          · omega
          · split
            · omega
            · have := hm2.2.1
              show 0 ≤ e (lF S m).toNat + S 22 (S 18 m 0).toNat 0
              omega)
        have ud := hall m (by omega) hl
        obtain ⟨p, _, p2, p3⟩ := fdk_LB w ht hB (m := m) (by omega) hle
        obtain ⟨v, hv1, hv2, hv3, hv4⟩ : ∃ v : Nat, y ≤ v ∧ u ≤ v ∧ (v = y ∨ v = u) ∧ ((S 5 t 0).toNat = 0 ∨ wkS S (S 6 t 0).toNat v = true) := by
          by_cases hyu : y ≤ u
          · exact ⟨u, hyu, Nat.le_refl _, Or.inr rfl, u3.1⟩
          · exact ⟨y, Nat.le_refl _, by omega, Or.inl rfl, y3⟩
        refine ⟨v, by omega, by omega, hv4, ?_⟩
        rw [FDk_t hl]
        have c1 := (p3.2 y (by omega) y3).mpr y4
        have c2 := (u3.2 v (by omega) hv4).mp hv2
        exact ⟨(p3.2 v (by omega) hv4).mp (by omega), c2.2⟩
      · exact ⟨y, y1, y2, y3, (FDk_f hl).mpr y4⟩
  obtain ⟨y, y1, y2, y3, y4⟩ := key (S 14 0 0).toNat (by omega)
  obtain ⟨p, p1, p2, p3⟩ := fdk_LB w ht hB (m := (S 14 0 0).toNat) (by omega) hle
  have := (p3.2 y (by omega) y3).mpr y4
  have p1 : fday S b e t = (p : Int) := p1
  omega
theorem lth_at {b e : Nat → Int} {t k : Nat} : ∀ (m i : Nat), i ≤ k → k < i + m → (∀ j, i ≤ j → j < k → ¬ (lT S j = (t : Int) ∧ b t ≤ fdayBy S b e j)) → (lT S k = (t : Int) ∧ b t ≤ fdayBy S b e k) → lth S b e t m i = (k : Int)
  | 0, i, h1, h2, _, _ => by omega
  | m + 1, i, h1, h2, hn, hk => by
    rw [lth]
    by_cases hik : i = k
    · subst hik
      rw [if_pos hk]
    · rw [if_neg (hn i (Nat.le_refl _) (by omega))]
      exact lth_at m (i + 1) (by omega) (by omega) (fun j h3 h4 => hn j (by omega) h4) hk
theorem lF_lt (w : WF S) {j : Nat} (hj : j < 40) : (lF S j).toNat < 24 := by
  have := w.at hj
  show (S 19 (S 18 j 0).toNat 0).toNat < 24
  omega
theorem holdF_cg (w : WF S) {b e b' e' inn : Nat → Int} (h : ∀ x, x < 24 → b x = b' x ∧ e x = e' x) {t : Nat} (ht : t < 24) : holdF S b e inn t = holdF S b' e' inn t := by
  unfold holdF
  rw [(h t ht).1, fday_cg (b := b) (e := e) (b' := b') (e' := e') (fun j hj _ => h _ (lF_lt w (by have := w.nL; omega)))]
theorem fdayBy_cg (w : WF S) {b e b' e' : Nat → Int} (h : ∀ x, x < 24 → b x = b' x ∧ e x = e' x) {i : Nat} (hi : i < 40) : fdayBy S b e i = fdayBy S b' e' i := by
  have q := h _ (lF_lt w hi)
  simp only [fdayBy, bAsk, eAsk, q.1, q.2]
theorem lth_cg (w : WF S) {b e b' e' : Nat → Int} (h : ∀ x, x < 24 → b x = b' x ∧ e x = e' x) {t : Nat} (ht : t < 24) : ∀ m i, i + m ≤ 40 → lth S b e t m i = lth S b' e' t m i
  | 0, _, _ => rfl
  | m + 1, i, hi => by
    rw [lth, lth, (h t ht).1, fdayBy_cg w h (by omega), lth_cg w h ht m (i + 1) (by omega)]
theorem lthF_cg (w : WF S) {b e b' e' inn : Nat → Int} (h : ∀ x, x < 24 → b x = b' x ∧ e x = e' x) {t : Nat} (ht : t < 24) : lthF S b e inn t = lthF S b' e' inn t := by
  unfold lthF
  rw [holdF_cg w h ht, lth_cg w h ht _ _ (by have := w.nL; omega)]
theorem tgt_cg {rm' : Nat → Int} : ∀ m i, (∀ x, i ≤ x → x < i + m → rm x = rm' x) → tgt S rm m i = tgt S rm' m i
  | 0, _, _ => rfl
  | m + 1, i, h => by
    rw [tgt, tgt, h i (Nat.le_refl _) (by omega), tgt_cg m (i + 1) (fun x a b => h x (by omega) (by omega))]
theorem ldg_cgT {b e b' e' : Nat → Int} (h : ∀ t : Nat, (t : Int) < S 13 0 0 → b t = b' t ∧ e t = e' t) : ldg S b e (inT S) = ldg S b' e' (inT S) := by
  funext c d
  unfold ldg
  refine wsum_congr 24 fun x _ => ?_
  by_cases hx : (x : Int) < S 13 0 0
  · rw [(h x hx).1, (h x hx).2]
  · have e0 : inT S x = 0 := if_neg (by omega)
    rw [if_neg (fun q => absurd q.1 (by rw [e0]; decide)), if_neg (fun q => absurd q.1 (by rw [e0]; decide))]
theorem ldg_5000 {b e inn : Nat → Int} {c d : Nat} (hd : 5000 ≤ d) : ldg S b e inn c d = 0 := by
  unfold ldg
  rw [wsum_congr (f' := fun _ => 0) 24 (fun x _ => if_neg (fun q => by have := q.2.2.1; omega))]
  rfl
theorem onF_ldg {b e inn : Nat → Int} {c : Nat} {d : Int} (hd : 0 ≤ d) : onF (ldg S b e inn) c d = ldg S b e inn c d.toNat := by
  unfold onF
  by_cases h : d ≤ 4999
  · rw [if_pos ⟨hd, h⟩]
  · rw [if_neg (fun q => h q.2), ldg_5000 (by omega)]
theorem LDY_4984 (w : WF S) (tp : TOP S) (ep : EP S eb ee) (ldy : LDY S ee ld) : ld ≤ 4984 := by
  rcases ldy.2.1 with h | ⟨t, h1, h2⟩
  · omega
  · have := (EP_all w tp ep h1).1
    omega
theorem ldg_lz {s : LState} (lv : LV9 S s) {c d : Nat} (hd : s.2.2.2.2.2 ≤ (d : Int)) : ldg S s.1 s.2.1 s.2.2.1 c d = 0 := by
  unfold ldg
  rw [wsum_congr (f' := fun _ => 0) 24 (fun x hx => if_neg (fun q => by have := lv.2.2.2.2.2.2.2.2 x hx q.1; omega))]
  rfl
theorem LV9.l5 (w : WF S) {s : LState} (lv : LV9 S s) : 0 ≤ s.2.2.2.2.2 ∧ s.2.2.2.2.2 ≤ 4984 := by
  have a := lv.2.2.2.2.2.2.1
  have b := lv.ct w
  have wT := w.nT
  omega
theorem grt_cg {f g : Nat → Int} : ∀ n i x, (∀ d, i ≤ d → d < i + n → f d = g d) → grt f n i x = grt g n i x
  | 0, _, _, _ => rfl
  | n + 1, i, x, h => by rw [grt, grt, h i (Nat.le_refl _) (by omega), grt_cg n (i + 1) _ (fun d a b => h d (by omega) (by omega))]
theorem lov_cg {g g' : Nat → Nat → Int} {c : Nat} {s : Int} : ∀ n i, i + n ≤ 5000 → (∀ d, d < 5000 → g c d = g' c d) → lov g c s n i = lov g' c s n i
  | 0, _, _, _ => rfl
  | n + 1, i, hi, h => by
    rw [lov, lov, lov_cg n (i + 1) (by omega) h]
    have e : onF g c (i : Int) = onF g' c (i : Int) := by
      unfold onF
      rw [if_pos (by omega), if_pos (by omega), h _ (by omega)]
    rw [e]
theorem dgr_cg {f g : Nat → List Int} : ∀ m i d, (∀ x, i ≤ x → x < i + m → f x = g x) → dgr f m i d = dgr g m i d
  | 0, _, _, _ => rfl
  | m + 1, i, d, h => by rw [dgr, dgr, h i (Nat.le_refl _) (by omega), dgr_cg m (i + 1) _ (fun x a b => h x (by omega) (by omega))]
theorem SPI.gh (sp : SPI G h S st K) : ∀ q, cB G + 169 ≤ q → h q = K.1 q := sp.2.2.2.2.2.2.2.2
/-- a call that returns is one that may throw -/
theorem CT.cx {μ : MI} {args : List Value} {k n : Nat} {Q : PQ} {X : PX} (c : CT G μ args h N k n Q) : CX G μ args h N k n Q X := by
  unfold CX vx_Met
  unfold CT Met at c
  refine MetFree.mono c (fun _ _ q => q) (fun _ _ _ _ _ q => q) fun a s o s' _ q => Or.inl q
end More

/-! ===== what is so in every levelled plan: done ones as they are, others where all holds; the order; the crews ===== -/
section Pr
variable {S : ST}
/-- a task that is done ends no earlier than it begins -/
def DBE (S : ST) : Prop := ∀ t : Nat, t < 24 → S 9 t 0 ≠ 0 → S 10 t 0 ≤ S 11 t 0
/-- what is in, and where -/
def LVX (S : ST) (s : LState) : Prop :=
  (∀ t : Nat, t < 24 → s.2.2.1 t = 1 → (S 9 t 0 ≠ 0 → s.1 t = S 10 t 0 ∧ s.2.1 t = S 11 t 0) ∧
    (S 9 t 0 = 0 → ∃ z : Nat, s.1 t = (z : Int) ∧ z < 5000 ∧ s.2.1 t = (EN (wkS S (S 6 t 0).toNat) (S 5 t 0).toNat z : Int) ∧ EN (wkS S (S 6 t 0).toNat) (S 5 t 0).toNat z < 20000 ∧ ((S 5 t 0).toNat = 0 ∨ wkS S (S 6 t 0).toNat z = true) ∧ FDP S s.1 s.2.1 t z)) ∧
  (∀ p : Nat, (p : Int) < s.2.2.2.2.1 → (0 ≤ s.2.2.2.1 p ∧ s.2.2.2.1 p < S 13 0 0) ∧ s.2.2.1 (s.2.2.2.1 p).toNat = 1) ∧
  (∀ p q : Nat, (p : Int) < s.2.2.2.2.1 → (q : Int) < s.2.2.2.2.1 → s.2.2.2.1 p = s.2.2.2.1 q → p = q)
theorem FDP_cg {b e b' e' : Nat → Int} {t x : Nat} (h : ∀ j : Nat, (j : Int) < S 14 0 0 → lT S j = (t : Int) → b (lF S j).toNat = b' (lF S j).toNat ∧ e (lF S j).toNat = e' (lF S j).toNat) (p : FDP S b e t x) : FDP S b' e' t x := by
  refine ⟨p.1, fun j h1 h2 => ?_⟩
  have q := h j h1 h2
  have r := p.2 j h1 h2
  unfold bAsk eAsk at r ⊢
  rw [← q.1, ← q.2]
  exact r
theorem LVX.put (w : WF S) {s : LState} (lv : LV9 S s) (p : LVX S s) {t : Nat} {x y : Int} (ht : (t : Int) < S 13 0 0) (h0 : s.2.2.1 t = 0)
    (hd : S 9 t 0 ≠ 0 → x = S 10 t 0 ∧ y = S 11 t 0)
    (hn : S 9 t 0 = 0 → ∃ z : Nat, x = (z : Int) ∧ z < 5000 ∧ y = (EN (wkS S (S 6 t 0).toNat) (S 5 t 0).toNat z : Int) ∧ EN (wkS S (S 6 t 0).toNat) (S 5 t 0).toNat z < 20000 ∧ ((S 5 t 0).toNat = 0 ∨ wkS S (S 6 t 0).toNat z = true) ∧ FDP S s.1 s.2.1 t z)
    (hl : S 9 t 0 = 0 → ∀ j : Nat, (j : Int) < S 14 0 0 → lT S j = (t : Int) → s.2.2.1 (lF S j).toNat = 1) : LVX S (putS s t x y) := by
  have hne : ∀ v, s.2.2.1 v = 1 → v ≠ t := fun v hv q => by rw [q, h0] at hv; omega
  have hc := lv.2.2.2.1
  obtain ⟨p1, p2, p3⟩ := p
  refine ⟨fun u hu hi => ?_, fun k hk => ?_, fun k q hk hq he => ?_⟩
  · show (S 9 u 0 ≠ 0 → fup s.1 t x u = S 10 u 0 ∧ fup s.2.1 t y u = S 11 u 0) ∧ (S 9 u 0 = 0 → ∃ z : Nat, fup s.1 t x u = (z : Int) ∧ z < 5000 ∧ fup s.2.1 t y u = (EN (wkS S (S 6 u 0).toNat) (S 5 u 0).toNat z : Int) ∧ EN (wkS S (S 6 u 0).toNat) (S 5 u 0).toNat z < 20000 ∧ ((S 5 u 0).toNat = 0 ∨ wkS S (S 6 u 0).toNat z = true) ∧ FDP S (fup s.1 t x) (fup s.2.1 t y) u z)
    by_cases hut : u = t
    · subst hut
      rw [fupe, fupe]
      refine ⟨hd, fun h9 => ?_⟩
      obtain ⟨z, z1, z2, z3, z4, z5, z6⟩ := hn h9
      refine ⟨z, z1, z2, z3, z4, z5, FDP_cg (fun j hj hlj => ?_) z6⟩
      have := hne _ (hl h9 j hj hlj)
      exact ⟨(fupn this).symm, (fupn this).symm⟩
    · have hi : fup s.2.2.1 t 1 u = 1 := hi
      rw [fupn hut] at hi
      rw [fupn hut, fupn hut]
      have q := p1 u hu hi
      refine ⟨q.1, fun h9 => ?_⟩
      obtain ⟨z, z1, z2, z3, z4, z5, z6⟩ := q.2 h9
      refine ⟨z, z1, z2, z3, z4, z5, FDP_cg (fun j hj hlj => ?_) z6⟩
      have := hne _ (lv.2.2.2.2.2.1.2 u hu hi h9 j hj hlj)
      exact ⟨(fupn this).symm, (fupn this).symm⟩
  · have hk : (k : Int) < s.2.2.2.2.1 + 1 := hk
    show (0 ≤ fup s.2.2.2.1 s.2.2.2.2.1.toNat (t : Int) k ∧ fup s.2.2.2.1 s.2.2.2.2.1.toNat (t : Int) k < S 13 0 0) ∧ fup s.2.2.1 t 1 (fup s.2.2.2.1 s.2.2.2.2.1.toNat (t : Int) k).toNat = 1
    by_cases hkc : k = s.2.2.2.2.1.toNat
    · subst hkc
      rw [fupe, Int.toNat_natCast, fupe]
      exact ⟨⟨by omega, ht⟩, rfl⟩
    · rw [fupn hkc]
      have q := p2 k (by omega)
      rw [fupn (hne _ q.2)]
      exact q
  · have hk : (k : Int) < s.2.2.2.2.1 + 1 := hk
    have hq : (q : Int) < s.2.2.2.2.1 + 1 := hq
    have he : fup s.2.2.2.1 s.2.2.2.2.1.toNat (t : Int) k = fup s.2.2.2.1 s.2.2.2.2.1.toNat (t : Int) q := he
    by_cases hkc : k = s.2.2.2.2.1.toNat
    · by_cases hqc : q = s.2.2.2.2.1.toNat
      · omega
      · rw [hkc, fupe, fupn hqc] at he
        have a := (p2 q (by omega)).2
        rw [← he, Int.toNat_natCast, h0] at a
        omega
    · by_cases hqc : q = s.2.2.2.2.1.toNat
      · rw [hqc, fupe, fupn hkc] at he
        have a := (p2 k (by omega)).2
        rw [he, Int.toNat_natCast, h0] at a
        omega
      · rw [fupn hkc, fupn hqc] at he
        exact p3 k q (by omega) (by omega) he
theorem LVX.i0 (od : Nat → Int) : LVX S (lv0 od) := ⟨fun _ _ h => absurd (show (0 : Int) = 1 from h) (by decide), fun p h => absurd (show (p : Int) < 0 from h) (by omega), fun p _ h => absurd (show (p : Int) < 0 from h) (by omega)⟩
theorem LVX_D (w : WF S) : ∀ (m i : Nat) (s : LState), ((i + m : Nat) : Int) ≤ S 13 0 0 → LV9 S s → LVX S s → (∀ x, i ≤ x → s.2.2.1 x = 0) → LVX S (lvD S m i s)
  | 0, _, _, _, _, p, _ => p
  | m + 1, i, s, hi, lv, p, q => by
    have wT := w.nT
    have wt := w.task (t := i) (by omega)
    rw [lvD]
    by_cases h9 : S 9 i 0 = 0
    · rw [if_pos h9]
      exact LVX_D w m (i + 1) s (by omega) lv p (fun x hx => q x (by omega))
    · rw [if_neg h9]
      have c := lv.2.2.2.1
      exact LVX_D w m (i + 1) _ (by omega) (lv.put w (by omega) (q i (Nat.le_refl _)) (by omega) (by omega) (fun z => absurd z h9)) (p.put w lv (by omega) (q i (Nat.le_refl _)) (fun _ => ⟨rfl, rfl⟩) (fun z => absurd z h9) (fun z => absurd z h9)) (fun x hx => by
        show fup s.2.2.1 i 1 x = 0
        rw [fupn (by omega)]
        exact q x (by omega))
/-- what is done is in -/
def DIN (S : ST) (s : LState) : Prop := ∀ t : Nat, (t : Int) < S 13 0 0 → S 9 t 0 ≠ 0 → s.2.2.1 t = 1
theorem DIN.put {s : LState} (p : DIN S s) (t : Nat) (x y : Int) : DIN S (putS s t x y) := fun u hu h9 => by
  show fup s.2.2.1 t 1 u = 1
  by_cases hut : u = t
  · rw [hut, fupe]
  · rw [fupn hut]; exact p u hu h9
theorem DIN_D : ∀ (m i : Nat) (s : LState), (∀ x, x < i → S 9 x 0 ≠ 0 → s.2.2.1 x = 1) → ∀ x, x < i + m → S 9 x 0 ≠ 0 → (lvD S m i s).2.2.1 x = 1
  | 0, _, _, q => q
  | m + 1, i, s, q => fun x hx h9 => by
    rw [lvD]
    by_cases hi9 : S 9 i 0 = 0
    · rw [if_pos hi9]
      refine DIN_D m (i + 1) s (fun z hz z9 => ?_) x (by omega) h9
      by_cases hzi : z = i
      · rw [hzi] at z9; exact absurd hi9 z9
      · exact q z (by omega) z9
    · rw [if_neg hi9]
      refine DIN_D m (i + 1) _ (fun z hz z9 => ?_) x (by omega) h9
      show fup s.2.2.1 i 1 z = 1
      by_cases hzi : z = i
      · rw [hzi, fupe]
      · rw [fupn hzi]; exact q z (by omega) z9
theorem lvR_ind (w : WF S) {lb rm : Nat → Int} {rl : Int} {P : LState → Prop} (hs : ∀ (s : LState) (t z : Nat), LV9 S s → DIN S s → P s → (t : Int) < S 13 0 0 → s.2.2.1 t = 0 → S 9 t 0 = 0 → (∀ j : Nat, (j : Int) < S 14 0 0 → lT S j = (t : Int) → s.2.2.1 (lF S j).toNat = 1) → z < 5000 → EN (wkS S (S 6 t 0).toNat) (S 5 t 0).toNat z < 20000 → GDP S (ldg S s.1 s.2.1 s.2.2.1) t z → FDP S s.1 s.2.1 t z → P (putS s t (z : Int) (EN (wkS S (S 6 t 0).toNat) (S 5 t 0).toNat z : Int))) :
    ∀ (m : Nat) (s : LState), LV9 S s → DIN S s → P s → DIN S (lvR S lb rm rl m s) ∧ P (lvR S lb rm rl m s)
  | 0, _, _, d, p => ⟨d, p⟩
  | m + 1, s, lv, d, p => by
    rw [lvR]
    by_cases hn : nxtL S lb rm rl s < 0
    · rw [if_pos hn]; exact ⟨d, p⟩
    · rw [if_neg hn]
      have wT := w.nT
      have wL := w.nL
      obtain ⟨t, et⟩ : ∃ t : Nat, nxtL S lb rm rl s = (t : Int) := ⟨(nxtL S lb rm rl s).toNat, by omega⟩
      obtain ⟨⟨q1, q2, q3, q4⟩, qb, y0, zz, ⟨fy, fy2, fy3⟩, ⟨z1, z2, z3, z4, z5⟩, ⟨e0, e1⟩, q⟩ := lv.step w et
      rw [et, Int.toNat_natCast, z1, e1]
      have hct := lv.lt w q1 q2
      have hct0 := lv.2.2.2.1
      have h9 : S 9 t 0 = 0 := by
        refine Classical.byContradiction fun hc => ?_
        have := d t q1 hc
        omega
      have hl : ∀ j : Nat, (j : Int) < S 14 0 0 → lT S j = (t : Int) → s.2.2.1 (lF S j).toNat = 1 := fun j hj hl => by
        rcases chs_spec (S := S) (lb := lb) (rm := rm) (rl := rl) (inn := s.2.2.1) (S 13 0 0).toNat 0 (-1) 0 with g | ⟨x, x1, x2, x3, x4, x5, x6⟩
        · have g : nxtL S lb rm rl s = -1 := g
          omega
        · have x3 : nxtL S lb rm rl s = (x : Int) := x3
          have hxt : x = t := by omega
          subst hxt
          have o := (opn_iff (S := S) (g := s.2.2.1) (t := (x : Int)) (S 14 0 0).toNat 0).mp x6 j (by omega) (by omega) hl
          have := lv.1 (lF S j).toNat
          omega
      obtain ⟨y1, g1, g2, g3⟩ := fday_LB w (t := t) (by omega) (b := s.1) (e := s.2.1) (M := 4818) (by omega) (fun j h1 h2 => by have := qb j h1 h2; omega)
      have hf : FDP S s.1 s.2.1 t zz := (g3.2 zz (by omega) z4.1).mp (by omega)
      exact lvR_ind w hs m _ q (d.put t _ _) (hs s t zz lv d p q1 q2 h9 hl (by omega) (by omega) z4 hf)
theorem lvAll_ind (w : WF S) {lb rm : Nat → Int} {rl : Int} (od : Nat → Int) {P : LState → Prop} (h0 : P (lvD S (S 13 0 0).toNat 0 (lv0 od))) (hs : ∀ (s : LState) (t z : Nat), LV9 S s → DIN S s → P s → (t : Int) < S 13 0 0 → s.2.2.1 t = 0 → S 9 t 0 = 0 → (∀ j : Nat, (j : Int) < S 14 0 0 → lT S j = (t : Int) → s.2.2.1 (lF S j).toNat = 1) → z < 5000 → EN (wkS S (S 6 t 0).toNat) (S 5 t 0).toNat z < 20000 → GDP S (ldg S s.1 s.2.1 s.2.2.1) t z → FDP S s.1 s.2.1 t z → P (putS s t (z : Int) (EN (wkS S (S 6 t 0).toNat) (S 5 t 0).toNat z : Int))) : DIN S (lvAll S lb rm rl od) ∧ P (lvAll S lb rm rl od) := by
  have wT := w.nT
  have lv := LV9_D w (S 13 0 0).toNat 0 (lv0 od) (by omega) (LV9.i0 w od) (fun _ _ => rfl)
  refine lvR_ind w hs _ _ lv.1 (fun t ht h9 => ?_) h0
  exact DIN_D (S 13 0 0).toNat 0 (lv0 od) (fun x hx => absurd hx (by omega)) t (by omega) h9
theorem LVX_all (w : WF S) {lb rm : Nat → Int} {rl : Int} (od : Nat → Int) : DIN S (lvAll S lb rm rl od) ∧ LVX S (lvAll S lb rm rl od) := by
  have wT := w.nT
  refine lvAll_ind w od (LVX_D w _ 0 _ (by omega) (LV9.i0 w od) (LVX.i0 od) (fun _ _ => rfl)) ?_
  intro s t z lv d p ht h0 h9 hl hz he hg hf
  exact p.put w lv ht h0 (fun q => absurd h9 q) (fun _ => ⟨z, rfl, hz, rfl, he, hg.1, hf⟩) (fun _ => hl)
/-! crews: by no more than there are, if nothing is done -/
theorem suf_at {g : Nat → Nat → Int} {t : Nat} {d : Int} : ∀ m c, suf S g t d m c = true → ∀ k, c ≤ k → k < c + m → ¬ (S 12 t k > 0 ∧ S 12 t k > S 3 k 0 - onF g k d)
  | 0, c, _, k, h1, h2 => by omega
  | m + 1, c, h, k, h1, h2 => by
    rw [suf] at h
    by_cases hc : S 12 t c > 0 ∧ S 12 t c > S 3 c 0 - onF g c d
    · rw [if_pos hc] at h; cases h
    · rw [if_neg hc] at h
      by_cases hk : k = c
      · rw [hk]; exact hc
      · exact suf_at m (c + 1) h k (by omega) (by omega)
def CRW (S : ST) (s : LState) : Prop := ∀ c, c < 4 → ∀ d, ldg S s.1 s.2.1 s.2.2.1 c d ≤ S 3 c 0
theorem lvD_id : ∀ (m i : Nat) (s : LState), (∀ x, i ≤ x → x < i + m → S 9 x 0 = 0) → lvD S m i s = s
  | 0, _, _, _ => rfl
  | m + 1, i, s, h => by
    rw [lvD, if_pos (h i (Nat.le_refl _) (by omega))]
    exact lvD_id m (i + 1) s (fun x h1 h2 => h x (by omega) (by omega))
theorem CRW_all (w : WF S) {lb rm : Nat → Int} {rl : Int} (od : Nat → Int) (hd : ∀ t : Nat, (t : Int) < S 13 0 0 → S 9 t 0 = 0) : CRW S (lvAll S lb rm rl od) := by
  have wT := w.nT
  refine (lvAll_ind w od (P := CRW S) ?_ ?_).2
  · rw [lvD_id _ _ _ (fun x _ hx => hd x (by omega))]
    intro c hc d
    have wc := w.crew hc
    show ldg S (fun _ => -1) (fun _ => -1) (fun _ => 0) c d ≤ S 3 c 0
    rw [ldg_0]
    omega
  · intro s t z lv d p ht h0 h9 hl hz he hg hf c hc dd
    show ldg S (fup s.1 t (z : Int)) (fup s.2.1 t _) (fup s.2.2.1 t 1) c dd ≤ S 3 c 0
    rw [ldg_put (by omega) h0]
    have q := p c hc dd
    by_cases hq : (z : Int) ≤ (dd : Int) ∧ (dd : Int) < min (EN (wkS S (S 6 t 0).toNat) (S 5 t 0).toNat z : Int) 5000 ∧ wkS S (S 6 t 0).toNat dd = true
    · rw [if_pos hq]
      have r := suf_at 4 0 (hg.2 dd (by omega) (by omega) hq.2.2) c (Nat.zero_le _) (by omega)
      rw [onF_ldg (by omega), Int.toNat_natCast] at r
      have n := w.need t c
      omega
    · rw [if_neg hq]; exact q
end Pr

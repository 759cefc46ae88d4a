/-! ===== levelling: what holds all along, with bounds ===== -/
section Li
variable {S : ST}
def LV9 (S : ST) (s : LState) : Prop := (∀ x, s.2.2.1 x = 0 ∨ s.2.2.1 x = 1) ∧ (∀ x : Nat, S 13 0 0 ≤ (x : Int) → s.2.2.1 x = 0) ∧ wsum s.2.2.1 24 = s.2.2.2.2.1 ∧ 0 ≤ s.2.2.2.2.1 ∧ (∀ x : Nat, x < 24 → s.2.2.1 x = 1 → (0 ≤ s.1 x ∧ s.1 x ≤ 1000 + 166 * s.2.2.2.2.1) ∧ 0 ≤ s.2.1 x ∧ s.2.1 x ≤ 1000 + 166 * s.2.2.2.2.1) ∧ LO S s ∧ (0 ≤ s.2.2.2.2.2 ∧ s.2.2.2.2.2 ≤ 1000 + 166 * s.2.2.2.2.1) ∧ (∀ x : Nat, s.2.2.1 x = 0 → s.1 x = -1 ∧ s.2.1 x = -1) ∧ (∀ x : Nat, x < 24 → s.2.2.1 x = 1 → s.2.1 x ≤ s.2.2.2.2.2)
theorem wsum_n {f : Nat → Int} {n : Int} (hn : 0 ≤ n) (h1 : ∀ x, f x ≤ 1) (h2 : ∀ x : Nat, n ≤ (x : Int) → f x = 0) : ∀ k : Nat, wsum f k ≤ n ∧ wsum f k ≤ (k : Int)
  | 0 => ⟨hn, Int.le_refl _⟩
  | k + 1 => by
    have ih := wsum_n hn h1 h2 k
    have a := h1 k
    rw [wsum]
    by_cases hk : n ≤ (k : Int)
    · have := h2 k hk
      omega
    · omega
theorem LV9.ct (w : WF S) {s : LState} (p : LV9 S s) : s.2.2.2.2.1 ≤ S 13 0 0 := by
  have := (wsum_n (f := s.2.2.1) w.nT.1 (fun x => by have := p.1 x; omega) p.2.1 24).1
  have := p.2.2.1
  omega
theorem LV9.lt (w : WF S) {s : LState} (p : LV9 S s) {t : Nat} (ht : (t : Int) < S 13 0 0) (h0 : s.2.2.1 t = 0) : s.2.2.2.2.1 < S 13 0 0 := by
  have wT := w.nT
  have a := wsum_up (f := s.2.2.1) (f' := fup s.2.2.1 t 1) 24 (by omega) (fun x _ hx => fupn hx)
  rw [fupe, h0] at a
  have b := (wsum_n (f := fup s.2.2.1 t 1) wT.1 (fun x => by
    unfold fup
    split
    · omega
    · have := p.1 x; omega) (fun x hx => by rw [fupn (by omega)]; exact p.2.1 x hx) 24).1
  have := p.2.2.1
  omega
theorem LV9.put (w : WF S) {s : LState} (p : LV9 S s) {t : Nat} {x y : Int} (ht : (t : Int) < S 13 0 0) (h0 : s.2.2.1 t = 0) (hx : 0 ≤ x ∧ x ≤ 1000 + 166 * (s.2.2.2.2.1 + 1)) (hy : 0 ≤ y ∧ y ≤ 1000 + 166 * (s.2.2.2.2.1 + 1)) (hd : S 9 t 0 = 0 → ∀ j : Nat, (j : Int) < S 14 0 0 → lT S j = (t : Int) → s.2.2.1 (lF S j).toNat = 1) : LV9 S (putS s t x y) := by
  have wT := w.nT
  have a := wsum_up (f := s.2.2.1) (f' := fup s.2.2.1 t 1) 24 (by omega) (fun x _ hx => fupn hx)
  rw [fupe, h0] at a
  obtain ⟨p1, p2, p3, p4, p5, p6, p7, p8, p9⟩ := p
  refine ⟨fun z => ?_, fun z hz => ?_, ?_, ?_, fun z hz hi => ?_, p6.put hx.1 hy.1 hd, ?_, fun z hi => ?_, fun z hz hi => ?_⟩
  · show fup s.2.2.1 t 1 z = 0 ∨ fup s.2.2.1 t 1 z = 1
    unfold fup
    split
    · exact Or.inr rfl
    · exact p1 z
  · show fup s.2.2.1 t 1 z = 0
    rw [fupn (by omega)]
    exact p2 z hz
  · show wsum (fup s.2.2.1 t 1) 24 = s.2.2.2.2.1 + 1
    omega
  · show 0 ≤ s.2.2.2.2.1 + 1
    omega
  · show (0 ≤ fup s.1 t x z ∧ fup s.1 t x z ≤ 1000 + 166 * (s.2.2.2.2.1 + 1)) ∧ 0 ≤ fup s.2.1 t y z ∧ fup s.2.1 t y z ≤ 1000 + 166 * (s.2.2.2.2.1 + 1)
    by_cases hzt : z = t
    · subst hzt
      rw [fupe, fupe]
      exact ⟨hx, hy⟩
    · have hi : fup s.2.2.1 t 1 z = 1 := hi
      rw [fupn hzt] at hi
      rw [fupn hzt, fupn hzt]
      have := p5 z hz hi
      omega
  · show 0 ≤ max s.2.2.2.2.2 y ∧ max s.2.2.2.2.2 y ≤ 1000 + 166 * (s.2.2.2.2.1 + 1)
    omega
  · have hi : fup s.2.2.1 t 1 z = 0 := hi
    show fup s.1 t x z = -1 ∧ fup s.2.1 t y z = -1
    by_cases hzt : z = t
    · rw [hzt, fupe] at hi; omega
    · rw [fupn hzt] at hi
      rw [fupn hzt, fupn hzt]
      exact p8 z hi
  · have hi : fup s.2.2.1 t 1 z = 1 := hi
    show fup s.2.1 t y z ≤ max s.2.2.2.2.2 y
    by_cases hzt : z = t
    · rw [hzt, fupe]; omega
    · rw [fupn hzt] at hi ⊢
      have := p9 z hz hi
      omega
theorem LV9.i0 (w : WF S) (od : Nat → Int) : LV9 S (lv0 od) := by
  have z : wsum (fun _ => 0) 24 = 0 := rfl
  exact ⟨fun _ => Or.inl rfl, fun _ _ => rfl, z, Int.le_refl _, fun x _ h => absurd (show (0 : Int) = 1 from h) (by decide), ⟨fun t _ h => absurd (show (0 : Int) = 1 from h) (by decide), fun t _ h => absurd (show (0 : Int) = 1 from h) (by decide)⟩, by show (0 : Int) ≤ 0 ∧ (0 : Int) ≤ 1000 + 166 * 0; omega, fun _ _ => ⟨rfl, rfl⟩, fun x _ h => absurd (show (0 : Int) = 1 from h) (by decide)⟩
/-- done ones put in: what is behind i is not in yet -/
theorem LV9_D (w : WF S) : ∀ (m i : Nat) (s : LState), ((i + m : Nat) : Int) ≤ S 13 0 0 → LV9 S s → (∀ x, i ≤ x → s.2.2.1 x = 0) → LV9 S (lvD S m i s) ∧ ∀ x, i + m ≤ x → (lvD S m i s).2.2.1 x = 0
  | 0, i, s, _, p, q => ⟨p, q⟩
  | m + 1, i, s, hi, p, q => by
    have wT := w.nT
    have wt := w.task (t := i) (by omega)
    rw [lvD]
    by_cases h9 : S 9 i 0 = 0
    · rw [if_pos h9]
      have a := LV9_D w m (i + 1) s (by omega) p (fun x hx => q x (by omega))
      exact ⟨a.1, fun x hx => a.2 x (by omega)⟩
    · rw [if_neg h9]
      have c := p.2.2.2.1
      have a := LV9_D w m (i + 1) (putS s i (S 10 i 0) (S 11 i 0)) (by omega) (p.put w (by omega) (q i (Nat.le_refl _)) (by omega) (by omega) (fun z => absurd z h9)) (fun x hx => by
        show fup s.2.2.1 i 1 x = 0
        rw [fupn (by omega)]
        exact q x (by omega))
      exact ⟨a.1, fun x hx => a.2 x (by omega)⟩
/-- one step of the levelling -/
theorem LV9.step (w : WF S) {lb rm : Nat → Int} {rl : Int} {s : LState} (p : LV9 S s) {t : Nat} (hn : nxtL S lb rm rl s = (t : Int)) :
    ((t : Int) < S 13 0 0 ∧ s.2.2.1 t = 0 ∧ tooL S t = false ∧ s.2.2.2.2.1 ≤ 23) ∧
    (∀ j : Nat, (j : Int) < S 14 0 0 → lT S j = (t : Int) → (-1 ≤ s.1 (lF S j).toNat ∧ s.1 (lF S j).toNat ≤ 1000 + 166 * s.2.2.2.2.1) ∧ -1 ≤ s.2.1 (lF S j).toNat ∧ s.2.1 (lF S j).toNat ≤ 1000 + 166 * s.2.2.2.2.1) ∧
    ∃ y0 z : Nat, (fday S s.1 s.2.1 t = (y0 : Int) ∧ y0 ≤ 4890 ∧ ((S 5 t 0).toNat = 0 ∨ wkS S (S 6 t 0).toNat y0 = true)) ∧ (begL S s t = (z : Int) ∧ y0 ≤ z ∧ z ≤ 4850 ∧ GDP S (ldg S s.1 s.2.1 s.2.2.1) t z ∧ ∀ b, y0 ≤ b → b < 20000 → GDP S (ldg S s.1 s.2.1 s.2.2.1) t b → z ≤ b) ∧
      ((EN (wkS S (S 6 t 0).toNat) (S 5 t 0).toNat z : Int) ≤ 1000 + 166 * (s.2.2.2.2.1 + 1) ∧ endS S t (z : Int) = (EN (wkS S (S 6 t 0).toNat) (S 5 t 0).toNat z : Int)) ∧ LV9 S (putS s t (z : Int) (EN (wkS S (S 6 t 0).toNat) (S 5 t 0).toNat z : Int)) := by
  have wT := w.nT
  have wL := w.nL
  rcases chs_spec (S := S) (lb := lb) (rm := rm) (rl := rl) (inn := s.2.2.1) (S 13 0 0).toNat 0 (-1) 0 with g | ⟨x, x1, x2, x3, x4, x5, x6⟩
  · have g : nxtL S lb rm rl s = -1 := g
    omega
  · have x3 : nxtL S lb rm rl s = (x : Int) := x3
    have hx : x = t := by omega
    subst hx
    have hxn : (x : Int) < S 13 0 0 := by omega
    have hct := p.lt w hxn x4
    have hct0 := p.2.2.2.1
    have wt := w.task (t := x) (by omega)
    have hin : ∀ j : Nat, (j : Int) < S 14 0 0 → lT S j = (x : Int) → s.2.2.1 (lF S j).toNat = 1 := fun j hj hl => by
      have o := (opn_iff (S := S) (g := s.2.2.1) (t := (x : Int)) (S 14 0 0).toNat 0).mp x6 j (by omega) (by omega) hl
      have := p.1 (lF S j).toNat
      omega
    have hpre : ∀ j : Nat, (j : Int) < S 14 0 0 → lT S j = (x : Int) → (0 ≤ s.1 (lF S j).toNat ∧ s.1 (lF S j).toNat ≤ 1000 + 166 * s.2.2.2.2.1) ∧ 0 ≤ s.2.1 (lF S j).toNat ∧ s.2.1 (lF S j).toNat ≤ 1000 + 166 * s.2.2.2.2.1 := fun j hj hl => by
      have wj := w.at (i := j) (by omega)
      exact p.2.2.2.2.1 _ (by show (S 19 (S 18 j 0).toNat 0).toNat < 24; omega) (hin j hj hl)
    obtain ⟨B, eB⟩ : ∃ B : Nat, 1000 + 166 * s.2.2.2.2.1 = (B : Int) := ⟨(1000 + 166 * s.2.2.2.2.1).toNat, by omega⟩
    have hB : B ≤ 4818 := by omega
    obtain ⟨y0, a1, a2, a3⟩ := fday_LB w (t := x) (by omega) (b := s.1) (e := s.2.1) (M := (B : Int)) (by omega) (fun j h1 h2 => by have := hpre j h1 h2; omega)
    have hfree : ∀ c, c < 4 → ∀ d : Nat, B ≤ d → ldg S s.1 s.2.1 s.2.2.1 c d = 0 := fun c _ d hd => by
      unfold ldg
      rw [wsum_congr (f' := fun _ => 0) 24 (fun z hz => if_neg (fun q => by have := p.2.2.2.2.1 z hz q.1; omega))]
      rfl
    obtain ⟨z, z1, z2, z3, z4, z5⟩ := begL_spec w (s := s) (t := x) (u := B) (by omega) hfree x5 a1 a3.1 (by omega)
    have k := wkS_WK w (c := (S 6 x 0).toNat) (by omega)
    have r := EN_r k (l := (S 5 x 0).toNat) (b := z) (by omega) (by omega)
    have g := EN_ge (wk := wkS S (S 6 x 0).toNat) (l := (S 5 x 0).toNat) (b := z)
    refine ⟨⟨hxn, x4, x5, by omega⟩, fun j h1 h2 => by have := hpre j h1 h2; omega, y0, z, ⟨a1, by omega, a3.1⟩, ⟨z1, z2, by omega, z4, z5⟩, ⟨by omega, endS_EN (by omega)⟩, p.put w hxn x4 (by omega) (by omega) (fun _ => hin)⟩
theorem LV9_R (w : WF S) {lb rm : Nat → Int} {rl : Int} : ∀ (m : Nat) (s : LState), LV9 S s → LV9 S (lvR S lb rm rl m s)
  | 0, _, p => p
  | m + 1, s, p => by
    rw [lvR]
    by_cases hn : nxtL S lb rm rl s < 0
    · rw [if_pos hn]; exact p
    · rw [if_neg hn]
      obtain ⟨t, et⟩ : ∃ t : Nat, nxtL S lb rm rl s = (t : Int) := ⟨(nxtL S lb rm rl s).toNat, by omega⟩
      obtain ⟨_, _, y0, z, _, ⟨z1, _⟩, ⟨_, e1⟩, q⟩ := p.step w et
      rw [et, Int.toNat_natCast, z1, e1]
      exact LV9_R w m _ q
theorem LV9_all (w : WF S) {lb rm : Nat → Int} {rl : Int} (od : Nat → Int) : LV9 S (lvAll S lb rm rl od) := by
  have wT := w.nT
  exact LV9_R w _ _ (LV9_D w (S 13 0 0).toNat 0 (lv0 od) (by omega) (LV9.i0 w od) (fun _ _ => rfl)).1
theorem chs_cg {lb rm lb' rm' : Nat → Int} {rl : Int} {inn : Nat → Int} (h : ∀ t : Nat, (t : Int) < S 13 0 0 → lb t = lb' t ∧ rm t = rm' t) : ∀ (m i : Nat) (y z : Int), ((i + m : Nat) : Int) ≤ S 13 0 0 → chs S lb rm rl inn m i y z = chs S lb' rm' rl inn m i y z
  | 0, _, _, _, _ => rfl
  | m + 1, i, y, z, hi => by
    have q := h i (by omega)
    have e : keyF S lb rm rl i = keyF S lb' rm' rl i := by unfold keyF; rw [q.1, q.2]
    rw [chs, chs, e, chs_cg h m (i + 1) _ _ (by omega), chs_cg h m (i + 1) _ _ (by omega)]
/-- the levelling goes by the late begins and rooms of the tasks that there are -/
theorem lvR_cg (w : WF S) {lb rm lb' rm' : Nat → Int} {rl : Int} (h : ∀ t : Nat, (t : Int) < S 13 0 0 → lb t = lb' t ∧ rm t = rm' t) : ∀ (m : Nat) (s : LState), lvR S lb rm rl m s = lvR S lb' rm' rl m s
  | 0, _ => rfl
  | m + 1, s => by
    have wT := w.nT
    have e : nxtL S lb rm rl s = nxtL S lb' rm' rl s := chs_cg h (S 13 0 0).toNat 0 (-1) 0 (by omega)
    rw [lvR, lvR, e]
    split
    · rfl
    · exact lvR_cg w h m _
theorem lvAll_cg (w : WF S) {lb rm lb' rm' : Nat → Int} {rl : Int} {od : Nat → Int} (h : ∀ t : Nat, (t : Int) < S 13 0 0 → lb t = lb' t ∧ rm t = rm' t) : lvAll S lb rm rl od = lvAll S lb' rm' rl od := lvR_cg w h _ _
end Li

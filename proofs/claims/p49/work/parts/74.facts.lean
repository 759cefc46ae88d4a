/-! ===== what the law says of the plans, as numbers: early, late, levelled, links, crews; there is but one answer ===== -/
section Fa
variable {S : ST} {eb ee lb le rm eb' ee' lb' le' rm' : Nat → Int} {ld ld' : Int} {od od' : Nat → Int} {s s' : LState} {K : KTup}
theorem FV.un (tp : TOP S) (fv : FV S eb ee lb le rm ld od) (fv' : FV S eb' ee' lb' le' rm' ld' od') : (∀ t : Nat, (t : Int) < S 13 0 0 → (eb t = eb' t ∧ ee t = ee' t) ∧ lb t = lb' t ∧ le t = le' t ∧ rm t = rm' t) ∧ ld = ld' := by
  obtain ⟨-, ⟨e1, e2, e3⟩, ⟨t1, t2⟩, -⟩ := fv
  obtain ⟨-, ⟨f1, f2, f3⟩, ⟨u1, u2⟩, -⟩ := fv'
  have h1 : ∀ t : Nat, (t : Int) < S 13 0 0 → eb t = eb' t ∧ ee t = ee' t := fun t ht => EP_uniq tp e1 f1 ht
  have h2 : ld = ld' := LDY_uniq (fun t ht => (h1 t ht).2) e3 f3
  rw [← h2] at u1
  exact ⟨fun t ht => ⟨h1 t ht, LATE_uniq tp (fun t ht => (h1 t ht).1) t1 u1 ht⟩, h2⟩
theorem FV.lq (w : WF S) (tp : TOP S) (fv : FV S eb ee lb le rm ld od) (fv' : FV S eb' ee' lb' le' rm' ld' od') : LEq (lvAll S lb rm (S 15 0 0) od) (lvAll S lb' rm' (S 15 0 0) od') := by
  have q := (fv.un tp fv').1
  rw [lvAll_cg w (lb' := lb') (rm' := rm') (fun t ht => ⟨(q t ht).2.1, (q t ht).2.2.2⟩)]
  exact LEq_all od od'
/-- the plans of a table -/
def PL (S : ST) (eb ee lb le rm : Nat → Int) (ld : Int) (s : LState) : Prop := ∃ od, FV S eb ee lb le rm ld od ∧ s = lvAll S lb rm (S 15 0 0) od
theorem PL.un (w : WF S) (tp : TOP S) (p : PL S eb ee lb le rm ld s) (fv' : FV S eb' ee' lb' le' rm' ld' od') : (∀ t : Nat, (t : Int) < S 13 0 0 → (eb t = eb' t ∧ ee t = ee' t) ∧ lb t = lb' t ∧ le t = le' t ∧ rm t = rm' t) ∧ ld = ld' ∧ LEq s (lvAll S lb' rm' (S 15 0 0) od') := by
  obtain ⟨od, fv, e⟩ := p
  rw [e]
  exact ⟨(fv.un tp fv').1, (fv.un tp fv').2, fv.lq w tp fv'⟩
theorem PL.lv (w : WF S) (p : PL S eb ee lb le rm ld s) : (LV9 S s ∧ LFD S s) ∧ DIN S s ∧ LVX S s := by
  obtain ⟨od, fv, e⟩ := p
  rw [e]
  exact ⟨⟨LV9_all w od, LFD_all w od⟩, LVX_all w od⟩
theorem bAsk_mono {b e b' e' : Nat → Int} {f k g : Int} (h1 : b f.toNat ≤ b' f.toNat) (h2 : e f.toNat ≤ e' f.toNat) : bAsk b e f k g ≤ bAsk b' e' f k g := by
  unfold bAsk
  split
  · omega
  · split <;> omega
theorem eAsk_mono {e e' : Nat → Int} {f k g : Int} (h2 : e f.toNat ≤ e' f.toNat) : eAsk e f k g ≤ eAsk e' f k g := by
  unfold eAsk
  split
  · omega
  · split <;> omega
theorem FDP_mono {b e b' e' : Nat → Int} {t x : Nat} (h : ∀ j : Nat, (j : Int) < S 14 0 0 → lT S j = (t : Int) → b (lF S j).toNat ≤ b' (lF S j).toNat ∧ e (lF S j).toNat ≤ e' (lF S j).toNat) (p : FDP S b' e' t x) : FDP S b e t x := by
  refine ⟨p.1, fun j h1 h2 => ?_⟩
  have q := h j h1 h2
  have r := p.2 j h1 h2
  have a := bAsk_mono (b := b) (e := e) (b' := b') (e' := e') (f := lF S j) (k := lK S j) (g := lG S j) q.1 q.2
  have c := eAsk_mono (e := e) (e' := e') (f := lF S j) (k := lK S j) (g := lG S j) q.2
  omega
/-- levelled isn't ahead of early -/
theorem lev_ge (w : WF S) (tp : TOP S) (ep : EP S eb ee) (lv : LV9 S s) (x : LVX S s) : ∀ k : Nat, (k : Int) ≤ S 13 0 0 → ∀ i, i < k → s.2.2.1 (S 16 i 0).toNat = 1 → eb (S 16 i 0).toNat ≤ s.1 (S 16 i 0).toNat ∧ ee (S 16 i 0).toNat ≤ s.2.1 (S 16 i 0).toNat
  | 0, _, i, hi => absurd hi (by omega)
  | k + 1, hk, i, hi => by
    have ih := lev_ge w tp ep lv x k (by omega)
    by_cases hik : i = k
    · subst hik
      intro hin
      have wT := w.nT
      have q0 := tp.2.1 i (by omega)
      obtain ⟨t, et⟩ : ∃ t : Nat, S 16 i 0 = (t : Int) := ⟨(S 16 i 0).toNat, by omega⟩
      rw [et, Int.toNat_natCast] at hin ⊢
      have ht : (t : Int) < S 13 0 0 := by omega
      have e1 := ep t ht
      have x1 := x.1 t (by omega) hin
      by_cases h9 : S 9 t 0 = 0
      · obtain ⟨z, z1, z2, z3, z4, z5, z6⟩ := x1.2 h9
        obtain ⟨y, y1, y2, y3⟩ := (EP_all w tp ep ht).2 h9
        have hf : FDP S eb ee t z := FDP_mono (fun j hj hl => by
          obtain ⟨i2, i3, i4⟩ := tp.2.2.2.2 i j (by omega) hj (by rw [hl, et])
          have hp := lv.2.2.2.2.2.1.2 t (by omega) hin h9 j hj hl
          rw [← i4] at hp ⊢
          exact ih i2 i3 hp) z6
        have hyz := (y3.2 z (by omega) z5).mpr hf
        have hm := EN_mono (wk := wkS S (S 6 t 0).toNat) (l := (S 5 t 0).toNat) hyz z4
        omega
      · have a := e1.1 h9
        have b := x1.1 h9
        omega
    · exact ih i (by omega)
theorem PL.ge (w : WF S) (tp : TOP S) (p : PL S eb ee lb le rm ld s) {t : Nat} (ht : (t : Int) < S 13 0 0) (hin : s.2.2.1 t = 1) : eb t ≤ s.1 t ∧ ee t ≤ s.2.1 t := by
  have wT := w.nT
  obtain ⟨⟨lv, lf⟩, dn, lx⟩ := p.lv w
  obtain ⟨od, ⟨_, ⟨e1, _⟩, _⟩, _⟩ := p
  obtain ⟨k, k1, k2⟩ := tp.2.2.2.1 t (by omega) ht
  have q := lev_ge w tp e1 lv lx (k + 1) (by omega) k (by omega)
  rw [k2, Int.toNat_natCast] at q
  exact q hin
theorem lth_r {b e : Nat → Int} {t : Nat} : ∀ m i, lth S b e t m i = -1 ∨ ∃ j, i ≤ j ∧ j < i + m ∧ lth S b e t m i = (j : Int)
  | 0, i => Or.inl rfl
  | m + 1, i => by
    rw [lth]
    by_cases hc : lT S i = (t : Int) ∧ b t ≤ fdayBy S b e i
    · rw [if_pos hc]
      exact Or.inr ⟨i, Nat.le_refl _, by omega, rfl⟩
    · rw [if_neg hc]
      rcases lth_r (b := b) (e := e) (t := t) m (i + 1) with h | ⟨j, h1, h2, h3⟩
      · exact Or.inl h
      · exact Or.inr ⟨j, by omega, by omega, h3⟩
theorem lth_e {b e : Nat → Int} {t k : Nat} : ∀ m i, i ≤ k → k < i + m → lT S k = (t : Int) → b t ≤ fdayBy S b e k → 0 ≤ lth S b e t m i
  | 0, i, h1, h2, _, _ => by omega
  | m + 1, i, h1, h2, h3, h4 => by
    rw [lth]
    by_cases hc : lT S i = (t : Int) ∧ b t ≤ fdayBy S b e i
    · rw [if_pos hc]; omega
    · rw [if_neg hc]
      refine lth_e m (i + 1) ?_ (by omega) h3 h4
      rcases Nat.lt_or_ge i k with q | q
      · exact q
      · exact absurd ⟨by rw [show i = k by omega]; exact h3, by rw [show i = k by omega]; exact h4⟩ hc
/-- of a task -/
def TF (S : ST) (eb ee lb le rm : Nat → Int) (ld : Int) (s : LState) (t : Nat) : Prop :=
  ((0 ≤ eb t ∧ eb t ≤ ee t ∧ eb t ≤ lb t ∧ ee t ≤ ld) ∧ (lb t ≤ 20000 ∧ -1 ≤ le t ∧ le t ≤ 20000) ∧ 0 ≤ rm t ∧ rm t ≤ 1000000) ∧
  ((s.2.2.1 t = 0 ∨ s.2.2.1 t = 1) ∧ (S 9 t 0 = 0 ∨ S 9 t 0 = 1) ∧ (s.2.2.1 t = 1 → 0 ≤ s.1 t ∧ 0 ≤ s.2.1 t) ∧ (s.2.2.1 t = 0 → s.1 t = -1 ∧ s.2.1 t = -1) ∧ s.1 t ≤ 20000 ∧ s.2.1 t ≤ s.2.2.2.2.2) ∧
  ((S 9 t 0 = 0 → 0 ≤ S 8 t 0 ∧ S 8 t 0 ≤ eb t) ∧ (S 9 t 0 ≠ 0 → s.2.2.1 t = 1 ∧ s.1 t = eb t ∧ le t = s.2.1 t ∧ rm t = 0) ∧ (s.2.2.1 t = 1 → eb t ≤ s.1 t ∧ ee t ≤ s.2.1 t)) ∧
  ((-1 ≤ holdF S s.1 s.2.1 s.2.2.1 t ∧ holdF S s.1 s.2.1 s.2.2.1 t ≤ 2) ∧ (holdF S s.1 s.2.1 s.2.2.1 t = -1 ↔ ¬ (S 9 t 0 = 0 ∧ s.2.2.1 t = 1)) ∧ (0 ≤ lthF S s.1 s.2.1 s.2.2.1 t ↔ holdF S s.1 s.2.1 s.2.2.1 t = 1) ∧ -1 ≤ lthF S s.1 s.2.1 s.2.2.1 t ∧ lthF S s.1 s.2.1 s.2.2.1 t < S 14 0 0 ∨ lthF S s.1 s.2.1 s.2.2.1 t = -1 ∧ (-1 ≤ holdF S s.1 s.2.1 s.2.2.1 t ∧ holdF S s.1 s.2.1 s.2.2.1 t ≤ 2) ∧ (holdF S s.1 s.2.1 s.2.2.1 t = -1 ↔ ¬ (S 9 t 0 = 0 ∧ s.2.2.1 t = 1)) ∧ holdF S s.1 s.2.1 s.2.2.1 t ≠ 1)
theorem cnt_0 {wk : Nat → Bool} : ∀ n d, 0 ≤ cnt wk n d
  | 0, _ => Int.le_refl _
  | n + 1, d => by
    have a := cnt_0 (wk := wk) n (d + 1)
    have b : 0 ≤ bI (wk d) := by cases wk d <;> decide
    rw [cnt]
    omega
theorem PL.tf (w : WF S) (tp : TOP S) (db : DBE S) (p : PL S eb ee lb le rm ld s) {t : Nat} (ht : (t : Int) < S 13 0 0) : TF S eb ee lb le rm ld s t := by
  have wT := w.nT
  have wL := w.nL
  have wt := w.task (t := t) (by omega)
  have ge := fun h => p.ge w tp ht h
  obtain ⟨⟨lv, lf⟩, dn, lx⟩ := p.lv w
  obtain ⟨od, ⟨⟨p1, p2, p3⟩, ⟨e1, e2, e3⟩, ⟨t1, t2⟩, li⟩, es⟩ := p
  clear es li
  have ept := e1 t ht
  have lpt := t1 t ht
  have rg := e2 t ht
  have rl := t2 t ht
  have rr := p3 t
  have hle := e3.1 t ht
  have hin := lv.1 t
  have b1 := lv.2.2.2.2.1 t (by omega)
  have b0 := lv.2.2.2.2.2.2.2.1 t
  have bl := lv.2.2.2.2.2.2.2.2 t (by omega)
  have bL := lv.2.2.2.2.2.2.1
  have hct := lv.ct w
  have d1 := dn t ht
  have db1 := db t (by omega)
  refine ⟨⟨⟨by omega, ?_, ?_, hle⟩, by omega, ?_, by omega⟩, ⟨hin, by omega, fun h => by have := b1 h; omega, b0, ?_, ?_⟩, ⟨fun h9 => ⟨by omega, ?_⟩, fun h9 => ?_, ge⟩, ?_⟩
  · by_cases h9 : S 9 t 0 = 0
    · obtain ⟨y, y1, y2, y3⟩ := (EP_all w tp e1 ht).2 h9
      have g := EN_ge (wk := wkS S (S 6 t 0).toNat) (l := (S 5 t 0).toNat) (b := y)
      omega
    · have a := ept.1 h9
      have b := db1 h9
      omega
  · by_cases h9 : S 9 t 0 = 0
    · rw [(lpt.2 h9).1]
      unfold lday
      omega
    · have a := ept.1 h9
      have b := lpt.1 h9
      omega
  · by_cases h9 : S 9 t 0 = 0
    · rw [(lpt.2 h9).2.2]
      have hb : eb t ≤ lb t := by
        rw [(lpt.2 h9).1]
        unfold lday
        omega
      unfold roomF
      split
      · omega
      · exact cnt_0 _ _
    · have b := lpt.1 h9
      omega
  · rcases hin with h | h
    · have := b0 h; omega
    · have := b1 h; omega
  · rcases hin with h | h
    · have := b0 h; omega
    · exact bl h
  · rw [(ept.2 h9).1]
    exact fday_ge
  · have a := ept.1 h9
    have b := lpt.1 h9
    have c := d1 h9
    have d := (lx.1 t (by omega) c).1 h9
    exact ⟨c, by omega, by omega, by omega⟩
  · have hr : -1 ≤ holdF S s.1 s.2.1 s.2.2.1 t ∧ holdF S s.1 s.2.1 s.2.2.1 t ≤ 2 := by
      unfold holdF
      split
      · split
        · omega
        · split <;> omega
      · omega
    have hm : holdF S s.1 s.2.1 s.2.2.1 t = -1 ↔ ¬ (S 9 t 0 = 0 ∧ s.2.2.1 t = 1) := by
      unfold holdF
      by_cases hc : S 9 t 0 = 0 ∧ s.2.2.1 t = 1
      · rw [if_pos hc]
        constructor
        · intro q
          exfalso
          revert q
          split
          · omega
          · split <;> omega
        · intro q; exact absurd hc q
      · rw [if_neg hc]
        exact ⟨fun _ => hc, fun _ => rfl⟩
    by_cases h1 : holdF S s.1 s.2.1 s.2.2.1 t = 1
    · have hc : S 9 t 0 = 0 ∧ s.2.2.1 t = 1 := Classical.byContradiction fun q => by have := hm.mpr q; omega
      have e9 : lthF S s.1 s.2.1 s.2.2.1 t = lth S s.1 s.2.1 t (S 14 0 0).toNat 0 := if_pos h1
      have hh : ¬ s.1 t > fday S s.1 s.2.1 t ∧ s.1 t > fbeg (wkS S (S 6 t 0).toNat) (S 5 t 0) (S 8 t 0) 0 := by
        unfold holdF at h1
        rw [if_pos hc] at h1
        by_cases c1 : s.1 t > fday S s.1 s.2.1 t
        · rw [if_pos c1] at h1; omega
        · rw [if_neg c1] at h1
          by_cases c2 : s.1 t > fbeg (wkS S (S 6 t 0).toNat) (S 5 t 0) (S 8 t 0) 0
          · exact ⟨c1, c2⟩
          · rw [if_neg c2] at h1; omega
      obtain ⟨k, k1, k2, k3⟩ := holder_ex w (b := s.1) (e := s.2.1) (t := t) (by omega) (B := 4818) (by omega) (fun j hj hl => by
        have q := lv.2.2.2.2.1 _ (lF_lt w (j := j) (by omega)) (lv.2.2.2.2.2.1.2 t (by omega) hc.2 hc.1 j hj hl)
        have q3 := (lf t (by omega) hc.2 hc.1).2 j hj hl
        omega) (d := s.1 t) (by omega) (by omega)
      have g0 := lth_e (S := S) (b := s.1) (e := s.2.1) (t := t) (k := k) (S 14 0 0).toNat 0 (Nat.zero_le _) (by omega) k2 k3
      rcases lth_r (S := S) (b := s.1) (e := s.2.1) (t := t) (S 14 0 0).toNat 0 with g | ⟨j, j1, j2, j3⟩
      · omega
      · exact Or.inl ⟨hr, hm, ⟨fun _ => h1, fun _ => by omega⟩, by omega, by omega⟩
    · have e9 : lthF S s.1 s.2.1 s.2.2.1 t = -1 := if_neg h1
      exact Or.inr ⟨e9, hr, hm, h1⟩
/-- of the whole -/
theorem PL.gf (w : WF S) (tp : TOP S) (p : PL S eb ee lb le rm ld s) : (0 ≤ ld ∧ ld ≤ 5500) ∧ (0 ≤ s.2.2.2.2.2 ∧ s.2.2.2.2.2 ≤ 4984) ∧ (0 ≤ s.2.2.2.2.1 ∧ s.2.2.2.2.1 ≤ S 13 0 0) ∧ wsum s.2.2.1 (S 13 0 0).toNat = s.2.2.2.2.1 ∧ (s.2.2.2.2.1 = S 13 0 0 → ld ≤ s.2.2.2.2.2) := by
  have wT := w.nT
  have ge := fun (t : Nat) (ht : (t : Int) < S 13 0 0) h => p.ge w tp ht h
  obtain ⟨⟨lv, lf⟩, dn, lx⟩ := p.lv w
  obtain ⟨od, ⟨⟨p1, p2, p3⟩, ⟨e1, e2, e3⟩, ⟨t1, t2⟩, li⟩, es⟩ := p
  clear es li
  have l5 := lv.l5 w
  have hct := lv.ct w
  have hsum : ∀ k : Nat, (S 13 0 0).toNat ≤ k → wsum s.2.2.1 k = wsum s.2.2.1 (S 13 0 0).toNat := fun k => by
    induction k with
    | zero => intro h; rw [show (S 13 0 0).toNat = 0 by omega]
    | succ k ih =>
      intro h
      by_cases hk : (S 13 0 0).toNat = k + 1
      · rw [hk]
      · rw [wsum, ih (by omega), lv.2.1 k (by omega)]
        omega
  have hs := hsum 24 (by omega)
  rw [lv.2.2.1] at hs
  refine ⟨e3.2.2, l5, ⟨lv.2.2.2.1, hct⟩, hs.symm, fun he => ?_⟩
  have hall : ∀ k : Nat, wsum s.2.2.1 k = (k : Int) → ∀ t, t < k → s.2.2.1 t = 1 := fun k => by
    induction k with
    | zero => intro _ t ht; exact absurd ht (by omega)
    | succ k ih =>
      intro h t ht
      rw [wsum] at h
      have a := wsum_r (f := s.2.2.1) (M := 1) k (fun x _ => by have := lv.1 x; omega)
      have b := lv.1 k
      by_cases htk : t = k
      · subst htk; omega
      · exact ih (by omega) t (by omega)
  have h1 := hall (S 13 0 0).toNat (by omega)
  rcases e3.2.1 with h | ⟨t, h2, h3⟩
  · omega
  · have a := ge t h2 (h1 t (by omega))
    have b := lv.2.2.2.2.2.2.2.2 t (by omega) (h1 t (by omega))
    omega
/-- of a link to a task that isn't done -/
theorem PL.lf (w : WF S) (tp : TOP S) (p : PL S eb ee lb le rm ld s) {k f t : Nat} (hk : (k : Int) < S 14 0 0) (hf : lF S k = (f : Int)) (ht : lT S k = (t : Int)) (h9 : S 9 t 0 = 0) :
    ((0 ≤ lK S k ∧ lK S k ≤ 2) ∧ 0 ≤ lG S k ∧ lG S k ≤ 20) ∧
    (S 9 f 0 = 0 → eb f < lb f → (if lK S k = 1 then lb f else le f) + lG S k ≤ (if lK S k = 2 then le t else lb t)) ∧
    ((if lK S k = 1 then eb f else ee f) + lG S k ≤ (if lK S k = 2 then ee t else eb t)) ∧
    (s.2.2.1 t = 1 → s.2.2.1 f = 1 ∧ (if lK S k = 1 then s.1 f else s.2.1 f) + lG S k ≤ (if lK S k = 2 then s.2.1 t else s.1 t)) := by
  have wT := w.nT
  have wL := w.nL
  have wk := w.at (i := k) (by omega)
  have t0 := tp.1 k hk
  rw [hf, ht] at t0
  have hld := fun ep ldy => LDY_4984 (ee := ee) (eb := eb) (ld := ld) w tp ep ldy
  obtain ⟨⟨lv, lfd⟩, dn, lx⟩ := p.lv w
  obtain ⟨od, ⟨⟨p1, p2, p3⟩, ⟨e1, e2, e3⟩, ⟨t1, t2⟩, li⟩, es⟩ := p
  clear es li
  have hld := hld e1 e3
  have hK : 0 ≤ lK S k ∧ lK S k ≤ 2 := wk.2.2.2.1
  have hG : 0 ≤ lG S k ∧ lG S k ≤ 20 := wk.2.2.2.2
  have ask : ∀ {b e : Nat → Int} {x : Nat}, FDP S b e t x → (if lK S k = 1 then b f else e f) + lG S k ≤ (if lK S k = 2 then (EN (wkS S (S 6 t 0).toNat) (S 5 t 0).toNat x : Int) else (x : Int)) := fun {b e x} hp => by
    have q := hp.2 k hk ht
    unfold bAsk eAsk at q
    rw [hf, Int.toNat_natCast] at q
    by_cases k0 : lK S k = 0
    · rw [if_pos k0, if_pos k0] at q
      rw [if_neg (by omega), if_neg (by omega)]
      omega
    · by_cases k1 : lK S k = 1
      · rw [if_neg k0, if_pos k1, if_neg k0, if_pos k1] at q
        rw [if_pos k1, if_neg (by omega)]
        omega
      · rw [if_neg k0, if_neg k1, if_neg k0, if_neg k1] at q
        rw [if_neg k1, if_pos (by omega)]
        omega
  refine ⟨⟨hK, hG⟩, fun f9 hlt => ?_, ?_, fun hin => ?_⟩
  · have lp := (t1 f (by omega)).2 f9
    have eb0 := (e2 f (by omega)).1
    rcases lday_w w (eb := eb) (lb := lb) (le := le) (ld := ld) (t := f) (by omega) (by omega) with h | ⟨q, q1, q2, q3⟩
    · omega
    · have hb : lb f = (q : Int) := lp.1.trans q1
      have pl := t2 f (by omega)
      have hL : LTP S lb le ld f q := by
        rcases (lday_iff w (eb := eb) (lb := lb) (le := le) (ld := ld) (t := f) (by omega) (by omega) (x := q) (by omega) q3).mp (Int.le_of_eq q1.symm) with z | z
        · omega
        · exact z
      have he : le f = (EN (wkS S (S 6 f 0).toNat) (S 5 f 0).toNat q : Int) := by
        rw [lp.2.1, hb]
        exact endS_EN (by have := hL.1; omega)
      have r := hL.2 k hk hf (by rw [ht, Int.toNat_natCast]; exact h9)
      rw [ht, Int.toNat_natCast, ← he, ← hb] at r
      by_cases k2 : lK S k = 2
      · rw [if_neg (by omega), if_neg (by omega)] at r
        rw [if_neg (by omega), if_pos k2]
        exact r
      · rw [if_pos (show lK S k ≤ 1 by omega)] at r
        rw [if_neg k2]
        exact r
  · obtain ⟨y, y1, y2, y3⟩ := (EP_all w tp e1 (t := t) (by omega)).2 h9
    have hyb := (EP_all w tp e1 (t := t) (by omega)).1
    have r := ask ((y3.2 y (by omega) y3.1).mp (Nat.le_refl _))
    rw [← y1, ← y2] at r
    exact r
  · obtain ⟨z, z1, z2, z3, z4, z5, z6⟩ := (lx.1 t (by omega) hin).2 h9
    have hp := lv.2.2.2.2.2.1.2 t (by omega) hin h9 k hk ht
    rw [hf, Int.toNat_natCast] at hp
    have r := ask z6
    rw [← z1, ← z3] at r
    exact ⟨hp, r⟩
/-! sums over the days -/
theorem grt_lb {f : Nat → Int} : ∀ m i x, x ≤ grt f m i x ∧ ∀ d, i ≤ d → d < i + m → f d ≤ grt f m i x
  | 0, i, x => ⟨Int.le_refl _, fun d h1 h2 => by omega⟩
  | m + 1, i, x => by
    rw [grt]
    have q := grt_lb (f := f) m (i + 1) (max x (f i))
    refine ⟨by omega, fun d h1 h2 => ?_⟩
    by_cases hd : d = i
    · rw [hd]; omega
    · exact q.2 d (by omega) (by omega)
theorem grt_ub {f : Nat → Int} {M : Int} : ∀ m i x, x ≤ M → (∀ d, i ≤ d → d < i + m → f d ≤ M) → grt f m i x ≤ M
  | 0, _, _, h, _ => h
  | m + 1, i, x, h, k => by
    rw [grt]
    have := k i (Nat.le_refl _) (by omega)
    exact grt_ub m (i + 1) _ (by omega) (fun d h1 h2 => k d (by omega) (by omega))
theorem lov_r {g : Nat → Nat → Int} {c : Nat} {x : Int} (hx : 0 ≤ x) (hg : ∀ d : Nat, 0 ≤ onF g c (d : Int)) : ∀ m i, 0 ≤ lov g c x m i ∧ lov g c x m i ≤ x * (m : Int)
  | 0, _ => ⟨Int.le_refl _, by show (0 : Int) ≤ x * 0; omega⟩
  | m + 1, i => by
    have q := lov_r (g := g) (c := c) hx hg m (i + 1)
    have r := hg i
    have e : x * ((m + 1 : Nat) : Int) = x * (m : Int) + x := by
      rw [show ((m + 1 : Nat) : Int) = (m : Int) + 1 by omega, Int.mul_add, Int.mul_one]
    rw [lov]
    omega
theorem dab_r {f : Nat → Int} {x : Int} : ∀ m i, 0 ≤ dab f x m i ∧ dab f x m i ≤ (m : Int)
  | 0, _ => ⟨Int.le_refl _, Int.le_refl _⟩
  | m + 1, i => by
    have q := dab_r (f := f) (x := x) m (i + 1)
    rw [dab]
    split <;> omega
/-- of a crew -/
theorem PL.cf (w : WF S) (tp : TOP S) (p : PL S eb ee lb le rm ld s) {c : Nat} (hc : c < 4) :
    (∀ d : Int, 0 ≤ d → 0 ≤ onF (ldg S s.1 s.2.1 s.2.2.1) c d ∧ onF (ldg S s.1 s.2.1 s.2.2.1) c d ≤ grt (ldg S s.1 s.2.1 s.2.2.1 c) 5000 0 0) ∧
    (0 ≤ grt (ldg S s.1 s.2.1 s.2.2.1 c) 5000 0 0 ∧ grt (ldg S s.1 s.2.1 s.2.2.1 c) 5000 0 0 ≤ 216) ∧
    ((∀ t : Nat, (t : Int) < S 13 0 0 → S 9 t 0 = 0) → grt (ldg S s.1 s.2.1 s.2.2.1 c) 5000 0 0 ≤ S 3 c 0) ∧
    (0 ≤ lov (ldg S s.1 s.2.1 s.2.2.1) c (S 3 c 0) s.2.2.2.2.2.toNat 0 ∧ lov (ldg S s.1 s.2.1 s.2.2.1) c (S 3 c 0) s.2.2.2.2.2.toNat 0 ≤ S 3 c 0 * s.2.2.2.2.2) ∧
    (0 ≤ dab (ldg S eb ee (inT S) c) (S 3 c 0) 5000 0 ∧ dab (ldg S eb ee (inT S) c) (S 3 c 0) 5000 0 ≤ ld) := by
  have wc := w.crew hc
  obtain ⟨_, l5, _⟩ := p.gf w tp
  have hld := fun ep ldy => LDY_4984 (ee := ee) (eb := eb) (ld := ld) w tp ep ldy
  obtain ⟨od, ⟨⟨p1, p2, p3⟩, ⟨e1, e2, e3⟩, ⟨t1, t2⟩, li⟩, es⟩ := p
  have hld := hld e1 e3
  have lr := fun d => ldg_r w (b := s.1) (e := s.2.1) (inn := s.2.2.1) c d
  have on0 : ∀ d : Int, 0 ≤ d → 0 ≤ onF (ldg S s.1 s.2.1 s.2.2.1) c d := fun d hd => by
    rw [onF_ldg hd]
    exact (lr _).1
  have gl := grt_lb (f := ldg S s.1 s.2.1 s.2.2.1 c) 5000 0 0
  refine ⟨fun d hd => ⟨on0 d hd, ?_⟩, ⟨gl.1, grt_ub _ _ _ (by omega) (fun d _ _ => (lr d).2)⟩, fun h9 => ?_, ?_, ?_⟩
  · by_cases h5 : d ≤ 4999
    · rw [onF_ldg hd]
      exact gl.2 d.toNat (Nat.zero_le _) (by omega)
    · rw [onF_ldg hd, ldg_5000 (by omega)]
      exact gl.1
  · have q := CRW_all w (lb := lb) (rm := rm) (rl := S 15 0 0) od h9
    rw [← es] at q
    exact grt_ub _ _ _ wc.1.1 (fun d _ _ => q c hc d)
  · have q := lov_r (g := ldg S s.1 s.2.1 s.2.2.1) (c := c) (x := S 3 c 0) wc.1.1 (fun d => on0 d (by omega)) s.2.2.2.2.2.toNat 0
    rw [show ((s.2.2.2.2.2.toNat : Nat) : Int) = s.2.2.2.2.2 by omega] at q
    exact q
  · have e := dab_e (f := ldg S eb ee (inT S) c) (s := S 3 c 0) (m := ld.toNat) (by omega) (fun d hd => by
      rw [ldg_wz (wu := ld) (fun t ht => by have := e3.1 t ht; omega) c d (by omega)]
      exact wc.1.1)
    rw [← e]
    have q := dab_r (f := ldg S eb ee (inT S) c) (x := S 3 c 0) ld.toNat 0
    omega
/-- what is put in, in its order -/
theorem PL.of (w : WF S) (p : PL S eb ee lb le rm ld s) : (∀ k : Nat, (k : Int) < s.2.2.2.2.1 → 0 ≤ s.2.2.2.1 k ∧ s.2.2.2.1 k < S 13 0 0) ∧ ∀ k q : Nat, (k : Int) < s.2.2.2.2.1 → (q : Int) < s.2.2.2.2.1 → s.2.2.2.1 k = s.2.2.2.1 q → k = q := by
  obtain ⟨_, _, lx⟩ := p.lv w
  exact ⟨fun k hk => (lx.2.1 k hk).1, lx.2.2⟩
/-- there is one digest -/
theorem PL.dig (w : WF S) (tp : TOP S) (p : PL S eb ee lb le rm ld s) (fv' : FV S eb' ee' lb' le' rm' ld' od') : dgA S K eb' ee' lb' le' rm' ld' (lvAll S lb' rm' (S 15 0 0) od') = dgA S K eb ee lb le rm ld s := by
  have wT := w.nT
  have gf := p.gf w tp
  obtain ⟨q, ql, lq⟩ := p.un w tp fv'
  generalize lvAll S lb' rm' (S 15 0 0) od' = s' at *
  obtain ⟨l1, l2, l3, l4, l5⟩ := lq
  have e2 : s'.2.2.2.2.1 = s.2.2.2.2.1 := by rw [l4]
  have e1 : s'.2.2.2.2.2 = s.2.2.2.2.2 := by rw [l4]
  have e3 : tgt S rm' (S 13 0 0).toNat 0 = tgt S rm (S 13 0 0).toNat 0 := tgt_cg _ _ fun x _ hx => ((q x (by omega)).2.2.2).symm
  unfold dgA
  rw [e1, e2, e3, ← ql]
  rw [dgr_cg (f := dgT S K eb' ee' lb' le' rm' s') (g := dgT S K eb ee lb le rm s) _ _ _ (fun x _ hx => by
    have qx := q x (by omega)
    unfold dgT
    rw [qx.1.1, qx.1.2, qx.2.1, qx.2.2.1, qx.2.2.2, l1, l2, l3])]
  rw [dgr_cg (f := dgC S eb' ee' s') (g := dgC S eb ee s) _ _ _ (fun x _ hx => by
    unfold dgC
    rw [e1, l1, l2, l3, ldg_cgT (b := eb') (e := ee') (b' := eb) (e' := ee) (fun t ht => ⟨(q t ht).1.1.symm, (q t ht).1.2.symm⟩)])]
  rw [dgr_cg (f := fun t => [s'.2.2.2.1 t]) (g := fun t => [s.2.2.2.1 t]) _ _ _ (fun x _ hx => by
    show [s'.2.2.2.1 x] = [s.2.2.2.1 x]
    rw [l5 x (by omega)])]
/-! kept plans: grow by the day; what is earned is no more than all is worth -/
theorem cnt_m (wk : Nat → Bool) : ∀ (n m d : Nat), n ≤ m → cnt wk n d ≤ cnt wk m d := cnt_mono wk
theorem partF_m {b e ws kw : Nat → Int} {kr : Nat → Nat → Int} {t : Nat} (h0 : 0 ≤ ws t) {d d' : Int} (hd : d ≤ d') : partF S b e ws kw kr t d ≤ partF S b e ws kw kr t d' := by
  unfold partF
  obtain ⟨A, eA⟩ : ∃ A, cnt (wkd (kw (S 6 t 0).toNat) (kr (S 6 t 0).toNat)) (e t - b t).toNat (b t).toNat = A := ⟨_, rfl⟩
  have c0 := cnt_0 (wk := wkd (kw (S 6 t 0).toNat) (kr (S 6 t 0).toNat)) (e t - b t).toNat (b t).toNat
  have m := cnt_mono (wkd (kw (S 6 t 0).toNat) (kr (S 6 t 0).toNat)) (min (e t) d - b t).toNat (min (e t) d' - b t).toNat (b t).toNat (by omega)
  rw [eA] at c0 ⊢
  by_cases hA : A = 0
  · rw [if_pos hA, if_pos hA]
    exact Int.le_refl _
  · rw [if_neg hA, if_neg hA]
    exact Int.ediv_le_ediv (by omega) (Int.mul_le_mul_of_nonneg_left m h0)
theorem planF_m {b e inn ws kw : Nat → Int} {kr : Nat → Nat → Int} (kq : KR b e inn ws) {d d' : Int} (hd : d ≤ d') : ∀ m i, i + m ≤ 24 → planF S b e inn ws kw kr d m i ≤ planF S b e inn ws kw kr d' m i
  | 0, _, _ => Int.le_refl _
  | m + 1, i, hi => by
    have a := planF_m (kw := kw) (kr := kr) kq hd m (i + 1) (by omega)
    have b := partF_m (S := S) (b := b) (e := e) (ws := ws) (kw := kw) (kr := kr) (t := i) ((kq.2 i (by omega)).2.2.1.1) hd
    rw [planF, planF]
    split <;> omega
theorem earn_le (w : WF S) {K K' : KTup} (k : KEPT S K K' s) : ∀ m i, ((i + m : Nat) : Int) ≤ S 13 0 0 → earnF S K'.2.2.2.1 K'.2.2.2.2.1 m i ≤ worF S m i
  | 0, _, _ => Int.le_refl _
  | m + 1, i, hi => by
    have wT := w.nT
    have a := earn_le w k m (i + 1) (by omega)
    have b := worth_r w (x := i) (by omega)
    have c := (k.1 i (by omega)).2.2.2
    rw [earnF, worF]
    split <;> omega
theorem earn_r {inn ws b e : Nat → Int} (kq : KR b e inn ws) : ∀ m i, i + m ≤ 24 → 0 ≤ earnF S inn ws m i ∧ earnF S inn ws m i ≤ 71280 * (m : Int)
  | 0, _, _ => ⟨Int.le_refl _, Int.le_refl _⟩
  | m + 1, i, hi => by
    have a := earn_r kq m (i + 1) (by omega)
    have b := (kq.2 i (by omega)).2.2.1
    rw [earnF]
    split <;> omega
theorem wor_r (w : WF S) : ∀ m i, ((i + m : Nat) : Int) ≤ S 13 0 0 → 0 ≤ worF S m i ∧ worF S m i ≤ 71280 * (m : Int)
  | 0, _, _ => ⟨Int.le_refl _, Int.le_refl _⟩
  | m + 1, i, hi => by
    have wT := w.nT
    have a := wor_r w m (i + 1) (by omega)
    have b := worth_r w (x := i) (by omega)
    rw [worF]
    omega
end Fa

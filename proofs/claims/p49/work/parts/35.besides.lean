/-! ===== what stands besides: order of links, free days counted, levelling keeps links ===== -/
section Besides
variable {G : Ctx} {S : ST}
theorem FRESH.frame {h h' : AH} (f : FRESH G h S) (k : ∀ q, cB G + 108 ≤ q → q < cB G + 134 → h' q = h q) : FRESH G h' S := by
  obtain ⟨eb, ee, lb, le, rm, ld, wu, od, u, W, fa, fb, fc, fd, V, li⟩ := f
  exact ⟨eb, ee, lb, le, rm, ld, wu, od, u, W.frame (fun q h1 h2 => k q (by omega) (by omega)), fa, fb, fc, ⟨fd.1.frame (fun q h1 h2 => k q (by omega) (by omega)), fd.2⟩, V.frame (fun q h1 h2 => k q (by omega) (by omega)), li⟩
/-- counts of free days, each link object at one place -/
def XI (S : ST) : Prop := (∀ c, c < 4 → S 1 c 0 = wsum (fun d => S 2 c d) 1000) ∧ ∀ i j : Nat, i < 40 → j < 40 → S 18 i 0 = S 18 j 0 → i = j
theorem XI.same {S' : ST} (x : XI S) (h1 : S' 1 = S 1) (h2 : S' 2 = S 2) (h3 : S' 18 = S 18) : XI S' := by
  unfold XI
  rw [h1, h2, h3]
  exact x
theorem tkO_inj {g : Nat → Int} {l n : Nat} (hl : l < n) (hn : n ≤ 40) (hg : ∀ i j : Nat, i < 40 → j < 40 → g i = g j → i = j) : ∀ i j : Nat, i < 40 → j < 40 → tkO g l n i = tkO g l n j → i = j := by
  intro i j hi hj h
  unfold tkO at h
  split at h
  · split at h
    · have := hg _ _ (by omega) (by omega) h; omega
    · split at h
      · have := hg _ _ (by omega) (by omega) h; omega
      · have := hg _ _ (by omega) (by omega) h; omega
  · split at h
    · split at h
      · have := hg _ _ (by omega) (by omega) h; omega
      · split at h
        · omega
        · have := hg _ _ (by omega) (by omega) h; omega
    · split at h
      · have := hg _ _ (by omega) (by omega) h; omega
      · split at h
        · have := hg _ _ (by omega) (by omega) h; omega
        · exact hg _ _ hi hj h
theorem ptB_tkO {g : Nat → Int} {l n : Nat} (hl : l < n) (i : Nat) : ptB (tkO g l n) l (n - 1) i = g i := by
  unfold ptB
  split
  · subst_vars
    unfold tkO
    rw [if_neg (by omega), if_pos (by omega)]
  · split
    · unfold tkO
      rw [if_pos (by omega)]
      congr 1
      omega
    · unfold tkO
      rw [if_neg (by omega), if_neg (by omega)]
theorem HP.ext {h : AH} {S' : ST} (H : HP G S' h) (h0 : ∀ f, f ≠ 14 → f ≠ 18 → S' f = S f) (h14 : S' 14 0 0 = S 14 0 0) (h18 : ∀ i, S' 18 i 0 = S 18 i 0) : HP G S h := by
  unfold HP cProj cCal cCrew cTask cLink at *
  rw [h14, show (fun i => S' 18 i 0) = (fun i => S 18 i 0) from funext h18] at H
  simp only [h0 0 (by decide) (by decide), h0 1 (by decide) (by decide), h0 2 (by decide) (by decide), h0 3 (by decide) (by decide), h0 4 (by decide) (by decide), h0 5 (by decide) (by decide), h0 6 (by decide) (by decide), h0 7 (by decide) (by decide), h0 8 (by decide) (by decide), h0 9 (by decide) (by decide), h0 10 (by decide) (by decide), h0 11 (by decide) (by decide), h0 12 (by decide) (by decide), h0 13 (by decide) (by decide), h0 15 (by decide) (by decide), h0 16 (by decide) (by decide), h0 17 (by decide) (by decide), h0 19 (by decide) (by decide), h0 20 (by decide) (by decide), h0 21 (by decide) (by decide), h0 22 (by decide) (by decide)] at H
  exact H
/-- all that a task follows is in, with begins and ends -/
def LO (S : ST) (s : LState) : Prop := (∀ t : Nat, t < 24 → s.2.2.1 t = 1 → 0 ≤ s.1 t ∧ 0 ≤ s.2.1 t) ∧ ∀ t : Nat, t < 24 → s.2.2.1 t = 1 → S 9 t 0 = 0 → ∀ j : Nat, (j : Int) < S 14 0 0 → lT S j = (t : Int) → s.2.2.1 (lF S j).toNat = 1
theorem LO.put {s : LState} (p : LO S s) {t : Nat} {x y : Int} (hx : 0 ≤ x) (hy : 0 ≤ y) (hd : S 9 t 0 = 0 → ∀ j : Nat, (j : Int) < S 14 0 0 → lT S j = (t : Int) → s.2.2.1 (lF S j).toNat = 1) : LO S (putS s t x y) := by
  have hup : ∀ z, s.2.2.1 z = 1 → fup s.2.2.1 t 1 z = 1 := fun z hz => by
    unfold fup
    split
    · rfl
    · exact hz
  refine ⟨fun z hz hi => ?_, fun z hz hi h9 j hj hl => ?_⟩
  · by_cases hzt : z = t
    · subst hzt
      show 0 ≤ fup s.1 z x z ∧ 0 ≤ fup s.2.1 z y z
      rw [fupe, fupe]
      exact ⟨hx, hy⟩
    · have hi : fup s.2.2.1 t 1 z = 1 := hi
      show 0 ≤ fup s.1 t x z ∧ 0 ≤ fup s.2.1 t y z
      rw [fupn hzt] at hi
      rw [fupn hzt, fupn hzt]
      exact p.1 z hz hi
  · show fup s.2.2.1 t 1 (lF S j).toNat = 1
    refine hup _ ?_
    by_cases hzt : z = t
    · subst hzt
      exact hd h9 j hj hl
    · have hi : fup s.2.2.1 t 1 z = 1 := hi
      rw [fupn hzt] at hi
      exact p.2 z hz hi h9 j hj hl
theorem LO_lvD (w : WF S) : ∀ (m i : Nat) (s : LState), i + m ≤ 24 → LO S s → (∀ x, s.2.2.1 x = 0 ∨ s.2.2.1 x = 1) → LO S (lvD S m i s) ∧ ∀ x, (lvD S m i s).2.2.1 x = 0 ∨ (lvD S m i s).2.2.1 x = 1
  | 0, _, _, _, p, q => ⟨p, q⟩
  | m + 1, i, s, hi, p, q => by
    have wt := w.task (t := i) (by omega)
    rw [lvD]
    by_cases h9 : S 9 i 0 = 0
    · rw [if_pos h9]
      exact LO_lvD w m (i + 1) s (by omega) p q
    · rw [if_neg h9]
      refine LO_lvD w m (i + 1) _ (by omega) (p.put (by omega) (by omega) (fun z => absurd z h9)) (fun x => ?_)
      show fup s.2.2.1 i 1 x = 0 ∨ fup s.2.2.1 i 1 x = 1
      unfold fup
      split
      · exact Or.inr rfl
      · exact q x
theorem askL_ge {b e : Nat → Int} {t : Nat} : ∀ (m i : Nat) (x y : Int), x ≤ (askL S b e t m i x y).1
  | 0, _, _, _ => Int.le_refl _
  | m + 1, i, x, y => by
    rw [askL]
    split
    · exact Int.le_trans (by omega) (askL_ge m (i + 1) _ _)
    · exact askL_ge m (i + 1) x y
theorem fbeg_ge {wk : Nat → Bool} {l fr ef : Int} : fr ≤ fbeg wk l fr ef := by
  unfold fbeg
  split
  · omega
  · have := (nxt_le wk (5000 - (max fr 0).toNat) (max fr 0).toNat).2
    omega
theorem fday_ge {b e : Nat → Int} {t : Nat} : S 8 t 0 ≤ fday S b e t := Int.le_trans (askL_ge (S 14 0 0).toNat 0 (S 8 t 0) 0) fbeg_ge
theorem begL_0 (w : WF S) {s : LState} {t : Nat} (ht : t < 24) : 0 ≤ begL S s t := by
  have wt := w.task ht
  have f := fday_ge (S := S) (b := s.1) (e := s.2.1) (t := t)
  exact (fwc_r (M := max 5000 (fday S s.1 s.2.1 t)) (by omega) (5000 - (fday S s.1 s.2.1 t).toNat) (fday S s.1 s.2.1 t).toNat 0 _ (by omega) (by omega) (by omega)).1
theorem LO_lvR (w : WF S) {lb rm : Nat → Int} {rl : Int} : ∀ (m : Nat) (s : LState), LO S s → (∀ x, s.2.2.1 x = 0 ∨ s.2.2.1 x = 1) → LO S (lvR S lb rm rl m s)
  | 0, _, p, _ => p
  | m + 1, s, p, q => by
    rw [lvR]
    by_cases hn : nxtL S lb rm rl s < 0
    · rw [if_pos hn]
      exact p
    · rw [if_neg hn]
      have wT := w.nT
      have wL := w.nL
      rcases chs_spec (S := S) (lb := lb) (rm := rm) (rl := rl) (inn := s.2.2.1) (S 13 0 0).toNat 0 (-1) 0 with g | ⟨x, x1, x2, x3, x4, x5, x6⟩
      · have g : nxtL S lb rm rl s = -1 := g
        omega
      · have x3 : nxtL S lb rm rl s = (x : Int) := x3
        rw [x3, Int.toNat_natCast]
        have hb := begL_0 w (s := s) (t := x) (by omega)
        have he := (endS_r (S := S) (t := x) (d := begL S s x) hb).1
        refine LO_lvR w m _ (p.put hb (by omega) (fun _ j hj hl => ?_)) (fun z => ?_)
        · have o := (opn_iff (S := S) (g := s.2.2.1) (t := (x : Int)) (S 14 0 0).toNat 0).mp x6 j (by omega) (by omega) hl
          have := q (lF S j).toNat
          omega
        · show fup s.2.2.1 x 1 z = 0 ∨ fup s.2.2.1 x 1 z = 1
          unfold fup
          split
          · exact Or.inr rfl
          · exact q z
theorem LO_all (w : WF S) {lb rm : Nat → Int} {rl : Int} {od : Nat → Int} : LO S (lvAll S lb rm rl od) := by
  have wT := w.nT
  have a := LO_lvD w (S 13 0 0).toNat 0 (lv0 od) (by omega) ⟨fun t _ h => absurd (show (0 : Int) = 1 from h) (by decide), fun t _ h => absurd (show (0 : Int) = 1 from h) (by decide)⟩ (fun x => Or.inl rfl)
  exact LO_lvR w _ _ a.1 a.2
/-- the order of what is not in yet makes no difference -/
def LEq (s s' : LState) : Prop := s.1 = s'.1 ∧ s.2.1 = s'.2.1 ∧ s.2.2.1 = s'.2.2.1 ∧ s.2.2.2.2 = s'.2.2.2.2 ∧ ∀ i : Nat, (i : Int) < s.2.2.2.2.1 → s.2.2.2.1 i = s'.2.2.2.1 i
theorem LEq.put {s s' : LState} (p : LEq s s') (h0 : 0 ≤ s.2.2.2.2.1) (t : Nat) (x y : Int) : LEq (putS s t x y) (putS s' t x y) := by
  obtain ⟨p1, p2, p3, p4, p5⟩ := p
  unfold putS
  refine ⟨by rw [p1], by rw [p2], by rw [p3], by rw [p4], fun i hi => ?_⟩
  have hi : (i : Int) < s.2.2.2.2.1 + 1 := hi
  show fup s.2.2.2.1 s.2.2.2.2.1.toNat (t : Int) i = fup s'.2.2.2.1 s'.2.2.2.2.1.toNat (t : Int) i
  rw [← p4]
  unfold fup
  split
  · rfl
  · exact p5 i (by omega)
theorem LEq_lvD : ∀ (m i : Nat) (s s' : LState), LEq s s' → 0 ≤ s.2.2.2.2.1 → LEq (lvD S m i s) (lvD S m i s') ∧ 0 ≤ (lvD S m i s).2.2.2.2.1
  | 0, _, _, _, p, h => ⟨p, h⟩
  | m + 1, i, s, s', p, h => by
    rw [lvD, lvD]
    by_cases h9 : S 9 i 0 = 0
    · rw [if_pos h9, if_pos h9]
      exact LEq_lvD m (i + 1) s s' p h
    · rw [if_neg h9, if_neg h9]
      exact LEq_lvD m (i + 1) _ _ (p.put h i _ _) (by show 0 ≤ s.2.2.2.2.1 + 1; omega)
theorem LEq_lvR {lb rm : Nat → Int} {rl : Int} : ∀ (m : Nat) (s s' : LState), LEq s s' → 0 ≤ s.2.2.2.2.1 → LEq (lvR S lb rm rl m s) (lvR S lb rm rl m s')
  | 0, _, _, p, _ => p
  | m + 1, s, s', p, h => by
    have e1 : nxtL S lb rm rl s' = nxtL S lb rm rl s := by unfold nxtL; rw [p.2.2.1]
    have e2 : ∀ t, begL S s' t = begL S s t := fun t => by unfold begL; rw [p.1, p.2.1, p.2.2.1]
    rw [lvR, lvR, e1]
    by_cases hn : nxtL S lb rm rl s < 0
    · rw [if_pos hn, if_pos hn]
      exact p
    · rw [if_neg hn, if_neg hn, e2]
      exact LEq_lvR m _ _ (p.put h _ _ _) (by show 0 ≤ s.2.2.2.2.1 + 1; omega)
theorem LEq_all {lb rm : Nat → Int} {rl : Int} (od od' : Nat → Int) : LEq (lvAll S lb rm rl od) (lvAll S lb rm rl od') := by
  have a := LEq_lvD (S := S) (S 13 0 0).toNat 0 (lv0 od) (lv0 od') ⟨rfl, rfl, rfl, rfl, fun i hi => absurd (show (i : Int) < 0 from hi) (by omega)⟩ (Int.le_refl _)
  exact LEq_lvR _ _ _ a.1 a.2
/-- the levelled last day -/
def LL (S : ST) (lb rm : Nat → Int) (rl : Int) : Int := (lvAll S lb rm rl (fun _ => 0)).2.2.2.2.2
theorem LL_od {lb rm : Nat → Int} {rl : Int} (od : Nat → Int) : (lvAll S lb rm rl od).2.2.2.2.2 = LL S lb rm rl := congrArg (·.2) (LEq_all od (fun _ => 0)).2.2.2.1
theorem n64_div {a b : Int32} (hb : b ≠ 0) : vf_n64 (FP.ddiv (FP.i2d a) (FP.i2d b)) := by
  have h := Jvm.FP.Core.ddiv_out (Jvm.FP.Core.DFin.notNaN (Jvm.FP.Core.i2d_fin a)) (Jvm.FP.Core.i2d_fin b) (fun z => Jvm.FP.Core.i2d_ne_zero hb ((Jvm.FP.Core.zero_bits2 _).mp z))
  have h2 : ¬ 9218868437227405312 < (FP.ddiv (FP.i2d a) (FP.i2d b)).toNat % 2 ^ 63 := fun z => by
    have := (Jvm.FP.Core.isNaN_bits _).mpr z
    rw [show Jvm.FP.Core.dIsNaN (FP.ddiv (FP.i2d a) (FP.i2d b)) = false from h] at this
    cases this
  unfold vf_n64
  rw [UInt64.le_iff_toNat_le, UInt64.toNat_and]
  have h3 : (0x7fffffffffffffff : UInt64).toNat = 2 ^ 63 - 1 := by decide
  have h4 : (0x7ff0000000000000 : UInt64).toNat = 9218868437227405312 := by decide
  rw [h3, h4, Nat.and_two_pow_sub_one_eq_mod]
  omega
/-- a rank for the tasks when a link is added that does not come back -/
theorem TOP.acy {S5 : ST} (tp : TOP S) (w : WF S) (x : XI S) {fr to ki lg : Int} (a : AL S fr to ki lg S5) (hn : S 14 0 0 < 40) (hf : 0 ≤ fr ∧ fr < S 13 0 0) (ht : 0 ≤ to ∧ to < S 13 0 0) (hr : ¬ Rch S to.toNat fr.toNat) : ACY S5 := by
  obtain ⟨a0, a14, a19, a20, a21, a22⟩ := a
  have wL := w.nL
  have wT := w.nT
  have e18 : S5 18 = S 18 := a0 18 (by decide) (by decide) (by decide) (by decide) (by decide)
  have e13 : S5 13 = S 13 := a0 13 (by decide) (by decide) (by decide) (by decide) (by decide)
  have hold : ∀ j : Nat, (j : Int) < S 14 0 0 → lF S5 j = lF S j ∧ lT S5 j = lT S j := fun j hj => by
    have hne : ¬ (S 18 j 0).toNat = (S 18 (S 14 0 0).toNat 0).toNat := fun z => by
      have p1 := w.perm (i := j) (by omega)
      have p2 := w.perm (i := (S 14 0 0).toNat) (by omega)
      have := x.2 j (S 14 0 0).toNat (by omega) (by omega) (by omega)
      omega
    unfold lF lT
    rw [e18, a19, a20, if_neg hne, if_neg hne]
    exact ⟨rfl, rfl⟩
  have hnew : lF S5 (S 14 0 0).toNat = fr ∧ lT S5 (S 14 0 0).toNat = to := by
    unfold lF lT
    rw [e18, a19, a20, if_pos rfl, if_pos rfl]
    exact ⟨rfl, rfl⟩
  have hcase : ∀ j : Nat, (j : Int) < S5 14 0 0 → (j : Int) < S 14 0 0 ∨ j = (S 14 0 0).toNat := fun j hj => by rw [a14] at hj; omega
  refine ⟨fun j hj => ?_, ?_⟩
  · rw [e13]
    rcases hcase j hj with h | h
    · rw [(hold j h).1, (hold j h).2]
      exact tp.1 j h
    · rw [h, hnew.1, hnew.2]
      exact ⟨hf, ht⟩
  · have hp : ∀ z : Nat, ∃ k : Nat, (z : Int) < S 13 0 0 → (k : Int) < S 13 0 0 ∧ S 16 k 0 = (z : Int) := fun z => by
      by_cases hz : (z : Int) < S 13 0 0
      · obtain ⟨k, k1, k2⟩ := tp.2.2.2.1 z (by omega) hz
        exact ⟨k, fun _ => ⟨k1, k2⟩⟩
      · exact ⟨0, fun q => absurd q hz⟩
    obtain ⟨p, hp⟩ := Classical.axiomOfChoice hp
    have hlt : ∀ j : Nat, (j : Int) < S 14 0 0 → p (lF S j).toNat < p (lT S j).toNat := fun j hj => by
      have r := tp.1 j hj
      have q1 := hp (lF S j).toNat (by omega)
      have q2 := hp (lT S j).toNat (by omega)
      obtain ⟨i, i1, i2⟩ := tp.2.2.2.2 (p (lT S j).toNat) j q2.1 hj (by rw [q2.2]; omega)
      have := tp.2.2.1 i (p (lF S j).toNat) (by omega) q1.1 (by rw [q1.2, i2]; omega)
      omega
    have hb : ∀ z : Nat, (z : Int) < S 13 0 0 → p z < 24 := fun z hz => by have := (hp z hz).1; omega
    have hdec : ∀ z : Nat, ∃ v : Nat, (Rch S to.toNat z → v = 24) ∧ (¬ Rch S to.toNat z → v = 0) := fun z => by
      rcases Classical.em (Rch S to.toNat z) with q | q
      · exact ⟨24, fun _ => rfl, fun z => absurd q z⟩
      · exact ⟨0, fun z => absurd z q, fun _ => rfl⟩
    obtain ⟨v, hv⟩ := Classical.axiomOfChoice hdec
    refine ⟨fun z => p z + v z, fun j hj => ?_⟩
    rcases hcase j hj with h | h
    · rw [(hold j h).1, (hold j h).2]
      have r := tp.1 j h
      have l := hlt j h
      have b1 := hb (lF S j).toNat (by omega)
      show p (lF S j).toNat + v (lF S j).toNat < p (lT S j).toNat + v (lT S j).toNat
      rcases Classical.em (Rch S to.toNat (lF S j).toNat) with q | q
      · have q2 : Rch S to.toNat (lT S j).toNat := fun M m0 m1 => m1 j h (q M m0 m1)
        rw [(hv _).1 q, (hv _).1 q2]
        omega
      · rw [(hv _).2 q]
        omega
    · rw [h, hnew.1, hnew.2]
      have b1 := hb fr.toNat (by omega)
      show p fr.toNat + v fr.toNat < p to.toNat + v to.toNat
      rw [(hv _).2 hr, (hv to.toNat).1 (fun M m0 _ => m0)]
      omega
end Besides

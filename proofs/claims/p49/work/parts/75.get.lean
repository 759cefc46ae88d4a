/-! ===== the class's answers, by one set of plans ===== -/
section Gt
variable {G : Ctx} {h : AH} {N : Nat} {S : ST} {st : Int} {K : KTup} {eb ee lb le rm : Nat → Int} {ld : Int} {s : LState}
/-- an answer: the value, and the planner as it was -/
abbrev GQ (G : Ctx) (S : ST) (K : KTup) (N : Nat) (v : Value) : PQ := fun r h' N' => r = some v ∧ N' = N ∧ SPI G h' S 0 K
theorem g_earlyBegin (pl : PL S eb ee lb le rm ld s) (sp : SPI G h S st K) {t : Nat} (ht : (t : Int) < S 13 0 0) : CT G mX10_earlyBegin [.ref (cB G), JV (t : Int)] h N 0 0 (GQ G S K N (JV (eb t))) :=
  (c_earlyBegin sp ht).weak fun r h' N' q => by
    obtain ⟨q1, q2, v, q3, eb', ee', lb', le', rm', ld', od', fv, q4⟩ := q
    have w := sp.2.2.1
    have tp := sp.2.2.2.1
    have u := pl.un w tp fv
    refine ⟨?_, q1, q2⟩
    rw [q3, q4]
    rw [(u.1 t ht).1.1]
theorem g_earlyEnd (pl : PL S eb ee lb le rm ld s) (sp : SPI G h S st K) {t : Nat} (ht : (t : Int) < S 13 0 0) : CT G mX10_earlyEnd [.ref (cB G), JV (t : Int)] h N 0 0 (GQ G S K N (JV (ee t))) :=
  (c_earlyEnd sp ht).weak fun r h' N' q => by
    obtain ⟨q1, q2, v, q3, eb', ee', lb', le', rm', ld', od', fv, q4⟩ := q
    have w := sp.2.2.1
    have tp := sp.2.2.2.1
    have u := pl.un w tp fv
    refine ⟨?_, q1, q2⟩
    rw [q3, q4]
    rw [(u.1 t ht).1.2]
theorem g_lateBegin (pl : PL S eb ee lb le rm ld s) (sp : SPI G h S st K) {t : Nat} (ht : (t : Int) < S 13 0 0) : CT G mX10_lateBegin [.ref (cB G), JV (t : Int)] h N 0 0 (GQ G S K N (JV (lb t))) :=
  (c_lateBegin sp ht).weak fun r h' N' q => by
    obtain ⟨q1, q2, v, q3, eb', ee', lb', le', rm', ld', od', fv, q4⟩ := q
    have w := sp.2.2.1
    have tp := sp.2.2.2.1
    have u := pl.un w tp fv
    refine ⟨?_, q1, q2⟩
    rw [q3, q4]
    rw [(u.1 t ht).2.1]
theorem g_lateEnd (pl : PL S eb ee lb le rm ld s) (sp : SPI G h S st K) {t : Nat} (ht : (t : Int) < S 13 0 0) : CT G mX10_lateEnd [.ref (cB G), JV (t : Int)] h N 0 0 (GQ G S K N (JV (le t))) :=
  (c_lateEnd sp ht).weak fun r h' N' q => by
    obtain ⟨q1, q2, v, q3, eb', ee', lb', le', rm', ld', od', fv, q4⟩ := q
    have w := sp.2.2.1
    have tp := sp.2.2.2.1
    have u := pl.un w tp fv
    refine ⟨?_, q1, q2⟩
    rw [q3, q4]
    rw [(u.1 t ht).2.2.1]
theorem g_room (pl : PL S eb ee lb le rm ld s) (sp : SPI G h S st K) {t : Nat} (ht : (t : Int) < S 13 0 0) : CT G mX10_room [.ref (cB G), JV (t : Int)] h N 0 0 (GQ G S K N (JV (rm t))) :=
  (c_room sp ht).weak fun r h' N' q => by
    obtain ⟨q1, q2, v, q3, eb', ee', lb', le', rm', ld', od', fv, q4⟩ := q
    have w := sp.2.2.1
    have tp := sp.2.2.2.1
    have u := pl.un w tp fv
    refine ⟨?_, q1, q2⟩
    rw [q3, q4]
    rw [(u.1 t ht).2.2.2]
theorem g_last (pl : PL S eb ee lb le rm ld s) (sp : SPI G h S st K) : CT G mX10_last [.ref (cB G)] h N 0 0 (GQ G S K N (JV (ld))) :=
  (c_last sp).weak fun r h' N' q => by
    obtain ⟨q1, q2, v, q3, eb', ee', lb', le', rm', ld', od', fv, q4⟩ := q
    have w := sp.2.2.1
    have tp := sp.2.2.2.1
    have u := pl.un w tp fv
    refine ⟨?_, q1, q2⟩
    rw [q3, q4]
    rw [u.2.1]
theorem g_tight (pl : PL S eb ee lb le rm ld s) (sp : SPI G h S st K) : CT G mX10_tight [.ref (cB G)] h N 0 0 (GQ G S K N (JV (tgt S rm (S 13 0 0).toNat 0))) :=
  (c_tight sp).weak fun r h' N' q => by
    obtain ⟨q1, q2, v, q3, eb', ee', lb', le', rm', ld', od', fv, q4⟩ := q
    have w := sp.2.2.1
    have tp := sp.2.2.2.1
    have u := pl.un w tp fv
    refine ⟨?_, q1, q2⟩
    rw [q3, q4]
    rw [tgt_cg (rm := rm) (rm' := rm') _ _ (fun x _ hx => (u.1 x (by omega)).2.2.2)]
theorem g_begin (pl : PL S eb ee lb le rm ld s) (sp : SPI G h S st K) {t : Nat} (ht : (t : Int) < S 13 0 0) : CT G mX10_begin [.ref (cB G), JV (t : Int)] h N 0 0 (GQ G S K N (JV (s.1 t))) :=
  (c_begin sp ht).weak fun r h' N' q => by
    obtain ⟨q1, q2, v, q3, eb', ee', lb', le', rm', ld', od', fv, q4⟩ := q
    have w := sp.2.2.1
    have tp := sp.2.2.2.1
    have u := pl.un w tp fv
    refine ⟨?_, q1, q2⟩
    rw [q3, q4]
    rw [← u.2.2.1]
theorem g_end (pl : PL S eb ee lb le rm ld s) (sp : SPI G h S st K) {t : Nat} (ht : (t : Int) < S 13 0 0) : CT G mX10_end [.ref (cB G), JV (t : Int)] h N 0 0 (GQ G S K N (JV (s.2.1 t))) :=
  (c_end sp ht).weak fun r h' N' q => by
    obtain ⟨q1, q2, v, q3, eb', ee', lb', le', rm', ld', od', fv, q4⟩ := q
    have w := sp.2.2.1
    have tp := sp.2.2.2.1
    have u := pl.un w tp fv
    refine ⟨?_, q1, q2⟩
    rw [q3, q4]
    rw [← u.2.2.2.1]
theorem g_levelledLast (pl : PL S eb ee lb le rm ld s) (sp : SPI G h S st K) : CT G mX10_levelledLast [.ref (cB G)] h N 0 0 (GQ G S K N (JV (s.2.2.2.2.2))) :=
  (c_levelledLast sp).weak fun r h' N' q => by
    obtain ⟨q1, q2, v, q3, eb', ee', lb', le', rm', ld', od', fv, q4⟩ := q
    have w := sp.2.2.1
    have tp := sp.2.2.2.1
    have u := pl.un w tp fv
    refine ⟨?_, q1, q2⟩
    rw [q3, q4]
    rw [← congrArg Prod.snd u.2.2.2.2.2.1]
theorem g_stuck (pl : PL S eb ee lb le rm ld s) (sp : SPI G h S st K) : CT G mX10_stuck [.ref (cB G)] h N 0 0 (GQ G S K N (JV (S 13 0 0 - s.2.2.2.2.1))) :=
  (c_stuck sp).weak fun r h' N' q => by
    obtain ⟨q1, q2, v, q3, eb', ee', lb', le', rm', ld', od', fv, q4⟩ := q
    have w := sp.2.2.1
    have tp := sp.2.2.2.1
    have u := pl.un w tp fv
    refine ⟨?_, q1, q2⟩
    rw [q3, q4]
    rw [← congrArg Prod.fst u.2.2.2.2.2.1]
theorem g_used (pl : PL S eb ee lb le rm ld s) (sp : SPI G h S st K) {c : Nat} (hc : c < 4) {d : Int} (hd : 0 ≤ d ∧ d ≤ 9999) : CT G mX10_used [.ref (cB G), JV (c : Int), JV d] h N 0 0 (GQ G S K N (JV (onF (ldg S s.1 s.2.1 s.2.2.1) c d))) :=
  (c_used sp hc hd).weak fun r h' N' q => by
    obtain ⟨q1, q2, v, q3, eb', ee', lb', le', rm', ld', od', fv, q4⟩ := q
    have w := sp.2.2.1
    have tp := sp.2.2.2.1
    have u := pl.un w tp fv
    refine ⟨?_, q1, q2⟩
    rw [q3, q4]
    rw [← u.2.2.1, ← u.2.2.2.1, ← u.2.2.2.2.1]
theorem g_holds (pl : PL S eb ee lb le rm ld s) (sp : SPI G h S st K) {t : Nat} (ht : (t : Int) < S 13 0 0) : CT G mX10_holds [.ref (cB G), JV (t : Int)] h N 0 0 (GQ G S K N (JV (holdF S s.1 s.2.1 s.2.2.1 t))) :=
  (c_holds sp ht).weak fun r h' N' q => by
    obtain ⟨q1, q2, v, q3, eb', ee', lb', le', rm', ld', od', fv, q4⟩ := q
    have w := sp.2.2.1
    have tp := sp.2.2.2.1
    have u := pl.un w tp fv
    refine ⟨?_, q1, q2⟩
    rw [q3, q4]
    rw [← u.2.2.1, ← u.2.2.2.1, ← u.2.2.2.2.1]
theorem g_heldBy (pl : PL S eb ee lb le rm ld s) (sp : SPI G h S st K) {t : Nat} (ht : (t : Int) < S 13 0 0) : CT G mX10_heldBy [.ref (cB G), JV (t : Int)] h N 0 0 (GQ G S K N (JV (lthF S s.1 s.2.1 s.2.2.1 t))) :=
  (c_heldBy sp ht).weak fun r h' N' q => by
    obtain ⟨q1, q2, v, q3, eb', ee', lb', le', rm', ld', od', fv, q4⟩ := q
    have w := sp.2.2.1
    have tp := sp.2.2.2.1
    have u := pl.un w tp fv
    refine ⟨?_, q1, q2⟩
    rw [q3, q4]
    rw [← u.2.2.1, ← u.2.2.2.1, ← u.2.2.2.2.1]
theorem g_overloaded (pl : PL S eb ee lb le rm ld s) (sp : SPI G h S st K) {c : Nat} (hc : c < 4) : CT G mX10_overloaded [.ref (cB G), JV (c : Int)] h N 0 0 (GQ G S K N (JV (dab (ldg S eb ee (inT S) c) (S 3 c 0) 5000 0))) :=
  (c_overloaded sp hc).weak fun r h' N' q => by
    obtain ⟨q1, q2, v, q3, eb', ee', lb', le', rm', ld', od', fv, q4⟩ := q
    have w := sp.2.2.1
    have tp := sp.2.2.2.1
    have u := pl.un w tp fv
    refine ⟨?_, q1, q2⟩
    rw [q3, q4]
    rw [ldg_cgT (b := eb) (e := ee) (b' := eb') (e' := ee') (fun t ht => (u.1 t ht).1)]
theorem g_peak (pl : PL S eb ee lb le rm ld s) (sp : SPI G h S st K) {c : Nat} (hc : c < 4) : CT G mX10_peak [.ref (cB G), JV (c : Int)] h N 0 0 (GQ G S K N (JV (grt (ldg S s.1 s.2.1 s.2.2.1 c) 5000 0 0))) :=
  (c_peak sp hc).weak fun r h' N' q => by
    obtain ⟨q1, q2, v, q3, eb', ee', lb', le', rm', ld', od', fv, q4⟩ := q
    have w := sp.2.2.1
    have tp := sp.2.2.2.1
    have u := pl.un w tp fv
    refine ⟨?_, q1, q2⟩
    rw [q3, q4]
    rw [← u.2.2.1, ← u.2.2.2.1, ← u.2.2.2.2.1]
theorem g_idle (pl : PL S eb ee lb le rm ld s) (sp : SPI G h S st K) {c : Nat} (hc : c < 4) : CT G mX10_idle [.ref (cB G), JV (c : Int)] h N 0 0 (GQ G S K N (JV (lov (ldg S s.1 s.2.1 s.2.2.1) c (S 3 c 0) s.2.2.2.2.2.toNat 0))) :=
  (c_idle sp hc).weak fun r h' N' q => by
    obtain ⟨q1, q2, v, q3, eb', ee', lb', le', rm', ld', od', fv, q4⟩ := q
    have w := sp.2.2.1
    have tp := sp.2.2.2.1
    have u := pl.un w tp fv
    refine ⟨?_, q1, q2⟩
    rw [q3, q4]
    rw [← u.2.2.1, ← u.2.2.2.1, ← u.2.2.2.2.1, ← congrArg Prod.snd u.2.2.2.2.2.1]
theorem g_digest (pl : PL S eb ee lb le rm ld s) (sp : SPI G h S st K) : CT G mX10_digest [.ref (cB G)] h N 0 0 (GQ G S K N (.long (dgA S K eb ee lb le rm ld s))) :=
  (c_digest sp).weak fun r h' N' q => by
    obtain ⟨q1, q2, v, q3, eb', ee', lb', le', rm', ld', od', fv, q4⟩ := q
    have w := sp.2.2.1
    have tp := sp.2.2.2.1
    have u := pl.un w tp fv
    refine ⟨?_, q1, q2⟩
    rw [q3, q4]
    rw [pl.dig w tp fv]
theorem CX.ct {μ : MI} {args : List Value} {k n : Nat} {Q Q' : PQ} {X : PX} (c : CX G μ args h N k n Q X) (i : ∀ r h' N', Q r h' N' → Q' r h' N') (hx : ∀ E h' N', ¬ X E h' N') : CT G μ args h N k n Q' := by
  unfold CX vx_Met at c
  unfold CT Met
  refine MetFree.mono c (fun _ _ q => q) (fun _ _ _ _ _ q => q) fun a s o s' _ q => ?_
  rcases q with q | ⟨q, -, E, ce, L9, ⟨⟨h', q1, -⟩, -⟩, -⟩
  · obtain ⟨⟨⟨r, h', q1, q2, q3⟩, q4⟩, q5⟩ := q
    exact ⟨⟨⟨r, h', q1, i _ _ _ q2, q3⟩, q4⟩, q5⟩
  · exact absurd q1 (hx _ _ _)
theorem g_orderAt (pl : PL S eb ee lb le rm ld s) (sp : SPI G h S st K) {p : Nat} (hp : (p : Int) < s.2.2.2.2.1) (hp24 : p ≤ 24) : CT G mX10_orderAt [.ref (cB G), JV (p : Int)] h N 1 6 (GQ G S K N (JV (s.2.2.2.1 p))) :=
  (c_orderAt sp (p := (p : Int)) ⟨by omega, by omega⟩).ct (fun r h' N' q => by
    obtain ⟨q1, q2, v, q3, eb', ee', lb', le', rm', ld', od', fv, hr, q4⟩ := q
    have w := sp.2.2.1
    have tp := sp.2.2.2.1
    have u := pl.un w tp fv
    refine ⟨?_, q1, q2⟩
    rw [q3, q4, Int.toNat_natCast, u.2.2.2.2.2.2 p hp]) (fun E h' N' q => by
    obtain ⟨q1, q2, q3, eb', ee', lb', le', rm', ld', od', fv, hr⟩ := q
    have u := pl.un sp.2.2.1 sp.2.2.2.1 fv
    refine hr ⟨by omega, ?_⟩
    rw [← congrArg Prod.fst u.2.2.2.2.2.1]
    exact hp)
/-- what a task can be: done, in, stuck -/
theorem TF.tc {t : Nat} (f : TF S eb ee lb le rm ld s t) :
    (S 9 t 0 = 1 ∧ s.2.2.1 t = 1 ∧ (0 ≤ s.1 t ∧ 0 ≤ s.2.1 t) ∧ s.1 t = eb t ∧ le t = s.2.1 t ∧ rm t = 0 ∧ holdF S s.1 s.2.1 s.2.2.1 t = -1 ∧ lthF S s.1 s.2.1 s.2.2.1 t = -1) ∨
    (S 9 t 0 = 0 ∧ s.2.2.1 t = 1 ∧ (0 ≤ s.1 t ∧ 0 ≤ s.2.1 t) ∧ eb t ≤ s.1 t ∧ S 8 t 0 ≤ eb t ∧ (0 ≤ holdF S s.1 s.2.1 s.2.2.1 t ∧ holdF S s.1 s.2.1 s.2.2.1 t ≤ 2) ∧ (holdF S s.1 s.2.1 s.2.2.1 t = 1 ∧ 0 ≤ lthF S s.1 s.2.1 s.2.2.1 t ∧ lthF S s.1 s.2.1 s.2.2.1 t < S 14 0 0 ∨ holdF S s.1 s.2.1 s.2.2.1 t ≠ 1 ∧ lthF S s.1 s.2.1 s.2.2.1 t = -1)) ∨
    (S 9 t 0 = 0 ∧ s.2.2.1 t = 0 ∧ (s.1 t = -1 ∧ s.2.1 t = -1) ∧ S 8 t 0 ≤ eb t ∧ holdF S s.1 s.2.1 s.2.2.1 t = -1 ∧ lthF S s.1 s.2.1 s.2.2.1 t = -1) := by
  obtain ⟨-, ⟨a1, a2, a3, a4, -, -⟩, ⟨b1, b2, b3⟩, f4⟩ := f
  generalize holdF S s.1 s.2.1 s.2.2.1 t = hv at *
  generalize lthF S s.1 s.2.1 s.2.2.1 t = lv at *
  rcases a2 with h9 | h9
  · have b1 := b1 h9
    rcases a1 with hi | hi
    · have a4 := a4 hi
      have hm : hv = -1 := by
        rcases f4 with ⟨_, c2, _⟩ | ⟨_, _, c2, _⟩ <;> exact c2.mpr (fun q => by omega)
      have hl : lv = -1 := by
        rcases f4 with ⟨_, _, c3, c4, _⟩ | ⟨c1, _⟩
        · have : ¬ 0 ≤ lv := fun q => by have := c3.mp q; omega
          omega
        · exact c1
      exact Or.inr (Or.inr ⟨h9, hi, a4, b1.2, hm, hl⟩)
    · have a3 := a3 hi
      have b3 := b3 hi
      have hm : hv ≠ -1 := by
        rcases f4 with ⟨_, c2, _⟩ | ⟨_, _, c2, _⟩ <;> exact fun q => c2.mp q ⟨h9, hi⟩
      refine Or.inr (Or.inl ⟨h9, hi, a3, b3.1, b1.2, ?_, ?_⟩)
      · rcases f4 with ⟨c1, _⟩ | ⟨_, c1, _⟩ <;> omega
      · rcases f4 with ⟨_, _, c3, c4, c5⟩ | ⟨c1, _, _, c4⟩
        · by_cases h1 : hv = 1
          · exact Or.inl ⟨h1, c3.mpr h1, c5⟩
          · have : ¬ 0 ≤ lv := fun q => h1 (c3.mp q)
            exact Or.inr ⟨h1, by omega⟩
        · exact Or.inr ⟨c4, c1⟩
  · have b2 := b2 (by omega)
    have a3 := a3 b2.1
    have hm : hv = -1 := by
      rcases f4 with ⟨_, c2, _⟩ | ⟨_, _, c2, _⟩ <;> exact c2.mpr (fun q => by omega)
    have hl : lv = -1 := by
      rcases f4 with ⟨_, _, c3, c4, _⟩ | ⟨c1, _⟩
      · have : ¬ 0 ≤ lv := fun q => by have := c3.mp q; omega
        omega
      · exact c1
    exact Or.inl ⟨h9, b2.1, a3, b2.2.1, b2.2.2.1, b2.2.2.2, hm, hl⟩
end Gt

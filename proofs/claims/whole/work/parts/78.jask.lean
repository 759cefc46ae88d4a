/-! ===== each method, further ===== -/
section Jq
variable {G : Ctx} {h : AH} {N : Nat} {t0 : Int}
theorem jq_holds {a1 : Int} (I0 : INVt G h N t0) (i1 : InR a1) : CH G mL_holds [.ref (cB G), JV a1, .ref (cB G + 281)] h N 1 6 (JQ G mX11_holds [JV a1] false) := by
  obtain ⟨S, st, K, M, L, z, I, ou⟩ := I0
  have sp := I.sp
  have w := I.wf
  have tp := I.tp
  have wT := w.nT
  have wL := w.nL
  have nN := I.nN
  by_cases c0 : 0 ≤ a1 ∧ a1 < S 13 0 0
  · skip
    obtain ⟨na1, rfl⟩ := Int.eq_ofNat_of_zero_le (c0.1)
    refine L_holds (k1 := 0) (n1 := 0) (by omega) (by omega) sp.1 (CT.cx (X := noX) (c_holds (t := na1) sp (by omega))) (fun r h1 N1 q => ?_) (fun _ _ _ q => False.elim q)
    obtain ⟨rfl, sp1, v, rfl, eb, ee, lb, le, rm, ld, od, fv, rfl⟩ := q
    refine ⟨_, rfl, JQ.good I ou sp1 rfl (fun q => by cases q) fun h2 sp2 P2 ou2 => MCT.mk (by omega) (by omega) (m_holds P2 I.rs w tp I.hl i1) fun r h3 N3 q => ?_⟩
    obtain ⟨M', g, od9, ml, e⟩ := q
    rw [if_pos c0] at g e
    have la := g.2.2.2.2.2.2.1
    have lq := fv.leq w tp la od9
    exact ⟨by rw [e]; exact congrArg (fun x : Int => some (JV x)) (hold_eq w lq ml (t := na1) (by omega)).symm, fin_E sp2 I.xi I.km ou2 I.nN g⟩
  · refine L_holds (k1 := 1) (n1 := 6) (by omega) (by omega) sp.1 (x_holds0 sp i1 c0) (fun _ _ _ q => q.elim) (fun E h1 N1 q => ?_)
    obtain ⟨rfl, rfl, hN⟩ := q
    refine ⟨rfl, JQ.bad I (c := 1) (by omega) sp rfl hN ou fun h2 sp2 P2 ou2 => MCT.mk (by omega) (by omega) (m_holds P2 I.rs w tp I.hl i1) fun r h3 N3 q => ?_⟩
    obtain ⟨M', g, od9, ml, e⟩ := q
    rw [if_neg c0] at g e
    exact ⟨⟨_, e⟩, fin_E sp2 I.xi I.km ou2 (by omega) g⟩
theorem jq_heldBy {a1 : Int} (I0 : INVt G h N t0) (i1 : InR a1) : CH G mL_heldBy [.ref (cB G), JV a1, .ref (cB G + 281)] h N 1 6 (JQ G mX11_heldBy [JV a1] false) := by
  obtain ⟨S, st, K, M, L, z, I, ou⟩ := I0
  have sp := I.sp
  have w := I.wf
  have tp := I.tp
  have wT := w.nT
  have wL := w.nL
  have nN := I.nN
  by_cases c0 : 0 ≤ a1 ∧ a1 < S 13 0 0
  · skip
    obtain ⟨na1, rfl⟩ := Int.eq_ofNat_of_zero_le (c0.1)
    refine L_heldBy (k1 := 0) (n1 := 0) (by omega) (by omega) sp.1 (CT.cx (X := noX) (c_heldBy (t := na1) sp (by omega))) (fun r h1 N1 q => ?_) (fun _ _ _ q => False.elim q)
    obtain ⟨rfl, sp1, v, rfl, eb, ee, lb, le, rm, ld, od, fv, rfl⟩ := q
    refine ⟨_, rfl, JQ.good I ou sp1 rfl (fun q => by cases q) fun h2 sp2 P2 ou2 => MCT.mk (by omega) (by omega) (m_heldBy P2 I.rs w tp I.hl i1) fun r h3 N3 q => ?_⟩
    obtain ⟨M', g, od9, ml, e⟩ := q
    rw [if_pos c0] at g e
    have la := g.2.2.2.2.2.2.1
    have lq := fv.leq w tp la od9
    exact ⟨by rw [e]; exact congrArg (fun x : Int => some (JV x)) (held_eq w lq ml (t := na1) (by omega)).symm, fin_E sp2 I.xi I.km ou2 I.nN g⟩
  · refine L_heldBy (k1 := 1) (n1 := 6) (by omega) (by omega) sp.1 (x_heldBy0 sp i1 c0) (fun _ _ _ q => q.elim) (fun E h1 N1 q => ?_)
    obtain ⟨rfl, rfl, hN⟩ := q
    refine ⟨rfl, JQ.bad I (c := 1) (by omega) sp rfl hN ou fun h2 sp2 P2 ou2 => MCT.mk (by omega) (by omega) (m_heldBy P2 I.rs w tp I.hl i1) fun r h3 N3 q => ?_⟩
    obtain ⟨M', g, od9, ml, e⟩ := q
    rw [if_neg c0] at g e
    exact ⟨⟨_, e⟩, fin_E sp2 I.xi I.km ou2 (by omega) g⟩
theorem jq_behind {a1 : Int} (I0 : INVt G h N t0) (i1 : InR a1) : CH G mL_behind [.ref (cB G), JV a1, .ref (cB G + 281)] h N 1 6 (JQ G mX11_behind [JV a1] false) := by
  obtain ⟨S, st, K, M, L, z, I, ou⟩ := I0
  have sp := I.sp
  have w := I.wf
  have tp := I.tp
  have wT := w.nT
  have wL := w.nL
  have nN := I.nN
  by_cases c0 : 0 ≤ a1 ∧ a1 < S 13 0 0
  · skip
    obtain ⟨na1, rfl⟩ := Int.eq_ofNat_of_zero_le (c0.1)
    refine L_behind (k1 := 0) (n1 := 0) (by omega) (by omega) sp.1 (CT.cx (X := noX) (c_behind (t := na1) sp (by omega))) (fun r h1 N1 q => ?_) (fun _ _ _ q => False.elim q)
    obtain ⟨rfl, sp1, v, rfl, eb, ee, lb, le, rm, ld, od, fv, rfl⟩ := q
    refine ⟨_, rfl, JQ.good I ou sp1 rfl (fun q => by cases q) fun h2 sp2 P2 ou2 => MCT.mk (by omega) (by omega) (m_behind P2 I.rs w tp I.hl I.km I.kc i1) fun r h3 N3 q => ?_⟩
    obtain ⟨M', g, od9, ml, e⟩ := q
    rw [if_pos c0] at g e
    have la := g.2.2.2.2.2.2.1
    have lq := fv.leq w tp la od9
    exact ⟨by rw [e]; exact congrArg (fun x : Int => some (JV x)) (dly_eq lq ml (t := na1) (by omega)).symm, fin_E sp2 I.xi I.km ou2 I.nN g⟩
  · refine L_behind (k1 := 1) (n1 := 6) (by omega) (by omega) sp.1 (x_behind0 sp i1 c0) (fun _ _ _ q => q.elim) (fun E h1 N1 q => ?_)
    obtain ⟨rfl, rfl, hN⟩ := q
    refine ⟨rfl, JQ.bad I (c := 1) (by omega) sp rfl hN ou fun h2 sp2 P2 ou2 => MCT.mk (by omega) (by omega) (m_behind P2 I.rs w tp I.hl I.km I.kc i1) fun r h3 N3 q => ?_⟩
    obtain ⟨M', g, od9, ml, e⟩ := q
    rw [if_neg c0] at g e
    exact ⟨⟨_, e⟩, fin_E sp2 I.xi I.km ou2 (by omega) g⟩
theorem jq_wanted {a1 a2 : Int} (I0 : INVt G h N t0) (i1 : InR a1) (i2 : InR a2) : CH G mL_wanted [.ref (cB G), JV a1, JV a2, .ref (cB G + 281)] h N 1 6 (JQ G mX11_wanted [JV a1, JV a2] false) := by
  obtain ⟨S, st, K, M, L, z, I, ou⟩ := I0
  have sp := I.sp
  have w := I.wf
  have tp := I.tp
  have wT := w.nT
  have wL := w.nL
  have nN := I.nN
  by_cases c0 : 0 ≤ a1 ∧ a1 < 4
  · skip
    by_cases c1 : 0 ≤ a2 ∧ a2 ≤ 9999
    · skip
      obtain ⟨na1, rfl⟩ := Int.eq_ofNat_of_zero_le (c0.1)
      refine L_wanted (k1 := 0) (n1 := 0) (by omega) (by omega) sp.1 (CT.cx (X := noX) (c_wanted (t := na1) sp (by omega) c1)) (fun r h1 N1 q => ?_) (fun _ _ _ q => False.elim q)
      obtain ⟨rfl, sp1, v, rfl, eb, ee, lb, le, rm, ld, od, fv, rfl⟩ := q
      refine ⟨_, rfl, JQ.good I ou sp1 rfl (fun q => by cases q) fun h2 sp2 P2 ou2 => MCT.mk (by omega) (by omega) (m_wanted P2 I.rs w tp I.hl i1 i2) fun r h3 N3 q => ?_⟩
      obtain ⟨M', q⟩ := q
      rcases q with ⟨cq, g, e⟩ | ⟨cq, g, e⟩ | ⟨cq, g, e⟩
      · have q := (fv.same tp g.2.2.2.2.2.2.1).1
        refine ⟨?_, fin_E sp2 I.xi I.km ou2 I.nN g⟩
        rw [e, onF_ldg c1.1, ldg_cgT (fun t ht => (q t ht).1)]
        rfl
      · exfalso; omega
      · exfalso; omega
    · refine L_wanted (k1 := 1) (n1 := 6) (by omega) (by omega) sp.1 (x_wanted1 sp i1 i2 c0 c1) (fun _ _ _ q => q.elim) (fun E h1 N1 q => ?_)
      obtain ⟨rfl, rfl, hN⟩ := q
      refine Or.inr ⟨rfl, JQ.bad I (c := 2) (by omega) sp rfl hN ou fun h2 sp2 P2 ou2 => MCT.mk (by omega) (by omega) (m_wanted P2 I.rs w tp I.hl i1 i2) fun r h3 N3 q => ?_⟩
      obtain ⟨M', q⟩ := q
      rcases q with ⟨cq, g, e⟩ | ⟨cq, g, e⟩ | ⟨cq, g, e⟩
      · exfalso; omega
      · exfalso; omega
      · exact ⟨⟨_, e⟩, fin_E sp2 I.xi I.km ou2 (by omega) g⟩
  · refine L_wanted (k1 := 1) (n1 := 6) (by omega) (by omega) sp.1 (x_wanted0 sp i1 i2 c0) (fun _ _ _ q => q.elim) (fun E h1 N1 q => ?_)
    obtain ⟨rfl, rfl, hN⟩ := q
    refine Or.inl ⟨rfl, JQ.bad I (c := 1) (by omega) sp rfl hN ou fun h2 sp2 P2 ou2 => MCT.mk (by omega) (by omega) (m_wanted P2 I.rs w tp I.hl i1 i2) fun r h3 N3 q => ?_⟩
    obtain ⟨M', q⟩ := q
    rcases q with ⟨cq, g, e⟩ | ⟨cq, g, e⟩ | ⟨cq, g, e⟩
    · exfalso; omega
    · exact ⟨⟨_, e⟩, fin_E sp2 I.xi I.km ou2 (by omega) g⟩
    · exfalso; omega
theorem jq_used {a1 a2 : Int} (I0 : INVt G h N t0) (i1 : InR a1) (i2 : InR a2) : CH G mL_used [.ref (cB G), JV a1, JV a2, .ref (cB G + 281)] h N 1 6 (JQ G mX11_used [JV a1, JV a2] false) := by
  obtain ⟨S, st, K, M, L, z, I, ou⟩ := I0
  have sp := I.sp
  have w := I.wf
  have tp := I.tp
  have wT := w.nT
  have wL := w.nL
  have nN := I.nN
  by_cases c0 : 0 ≤ a1 ∧ a1 < 4
  · skip
    by_cases c1 : 0 ≤ a2 ∧ a2 ≤ 9999
    · skip
      obtain ⟨na1, rfl⟩ := Int.eq_ofNat_of_zero_le (c0.1)
      refine L_used (k1 := 0) (n1 := 0) (by omega) (by omega) sp.1 (CT.cx (X := noX) (c_used (t := na1) sp (by omega) c1)) (fun r h1 N1 q => ?_) (fun _ _ _ q => False.elim q)
      obtain ⟨rfl, sp1, v, rfl, eb, ee, lb, le, rm, ld, od, fv, rfl⟩ := q
      refine ⟨_, rfl, JQ.good I ou sp1 rfl (fun q => by cases q) fun h2 sp2 P2 ou2 => MCT.mk (by omega) (by omega) (m_used P2 I.rs w tp I.hl i1 i2) fun r h3 N3 q => ?_⟩
      obtain ⟨M', q⟩ := q
      rcases q with ⟨cq, g, e⟩ | ⟨cq, g, e⟩ | ⟨cq, g, e⟩
      · have la := g.2.2.2.2.2.2.1
        obtain ⟨od9, ml⟩ := la.2.2.2
        have lq := fv.leq w tp la od9
        refine ⟨?_, fin_E sp2 I.xi I.km ou2 I.nN g⟩
        rw [e, onF_ldg c1.1, lq.1, lq.2.1, lq.2.2.1]
        exact congrArg (fun x : Int => some (JV x)) (ml.2.2.2.2 na1 (by omega) a2.toNat (by omega))
      · exfalso; omega
      · exfalso; omega
    · refine L_used (k1 := 1) (n1 := 6) (by omega) (by omega) sp.1 (x_used1 sp i1 i2 c0 c1) (fun _ _ _ q => q.elim) (fun E h1 N1 q => ?_)
      obtain ⟨rfl, rfl, hN⟩ := q
      refine Or.inr ⟨rfl, JQ.bad I (c := 2) (by omega) sp rfl hN ou fun h2 sp2 P2 ou2 => MCT.mk (by omega) (by omega) (m_used P2 I.rs w tp I.hl i1 i2) fun r h3 N3 q => ?_⟩
      obtain ⟨M', q⟩ := q
      rcases q with ⟨cq, g, e⟩ | ⟨cq, g, e⟩ | ⟨cq, g, e⟩
      · exfalso; omega
      · exfalso; omega
      · exact ⟨⟨_, e⟩, fin_E sp2 I.xi I.km ou2 (by omega) g⟩
  · refine L_used (k1 := 1) (n1 := 6) (by omega) (by omega) sp.1 (x_used0 sp i1 i2 c0) (fun _ _ _ q => q.elim) (fun E h1 N1 q => ?_)
    obtain ⟨rfl, rfl, hN⟩ := q
    refine Or.inl ⟨rfl, JQ.bad I (c := 1) (by omega) sp rfl hN ou fun h2 sp2 P2 ou2 => MCT.mk (by omega) (by omega) (m_used P2 I.rs w tp I.hl i1 i2) fun r h3 N3 q => ?_⟩
    obtain ⟨M', q⟩ := q
    rcases q with ⟨cq, g, e⟩ | ⟨cq, g, e⟩ | ⟨cq, g, e⟩
    · exfalso; omega
    · exact ⟨⟨_, e⟩, fin_E sp2 I.xi I.km ou2 (by omega) g⟩
    · exfalso; omega
set_option maxRecDepth 40000 in
theorem jq_overloaded {a1 : Int} (I0 : INVt G h N t0) (i1 : InR a1) : CH G mL_overloaded [.ref (cB G), JV a1, .ref (cB G + 281)] h N 1 6 (JQ G mX11_overloaded [JV a1] false) := by
  obtain ⟨S, st, K, M, L, z, I, ou⟩ := I0
  have sp := I.sp
  have w := I.wf
  have tp := I.tp
  have wT := w.nT
  have wL := w.nL
  have nN := I.nN
  by_cases c0 : 0 ≤ a1 ∧ a1 < 4
  · skip
    obtain ⟨na1, rfl⟩ := Int.eq_ofNat_of_zero_le (c0.1)
    refine L_overloaded (k1 := 0) (n1 := 0) (by omega) (by omega) sp.1 (CT.cx (X := noX) (c_overloaded (t := na1) sp (by omega))) (fun r h1 N1 q => ?_) (fun _ _ _ q => False.elim q)
    obtain ⟨rfl, sp1, v, rfl, eb, ee, lb, le, rm, ld, od, fv, rfl⟩ := q
    refine ⟨_, rfl, JQ.good I ou sp1 rfl (fun q => by cases q) fun h2 sp2 P2 ou2 => MCT.mk (by omega) (by omega) (m_overloaded P2 I.rs w tp I.hl i1) fun r h3 N3 q => ?_⟩
    obtain ⟨M', q⟩ := q
    rcases q with ⟨cq, g, e⟩ | ⟨cq, g, e⟩
    · have la := g.2.2.2.2.2.2.1
      obtain ⟨od9, ml⟩ := la.2.2.2
      have lq := fv.leq w tp la od9
      have lv := LV9_all w (lb := M' 20 0) (rm := fun x => M' 21 x 0) (rl := S 15 0 0) od9
      exact ⟨by rw [e]; exact congrArg (fun x : Int => some (JV x)) (over_eq w tp fv la (c := na1) (by omega)).symm, fin_E sp2 I.xi I.km ou2 I.nN g⟩
    · exfalso; omega
  · refine L_overloaded (k1 := 1) (n1 := 6) (by omega) (by omega) sp.1 (x_overloaded0 sp i1 c0) (fun _ _ _ q => q.elim) (fun E h1 N1 q => ?_)
    obtain ⟨rfl, rfl, hN⟩ := q
    refine ⟨rfl, JQ.bad I (c := 1) (by omega) sp rfl hN ou fun h2 sp2 P2 ou2 => MCT.mk (by omega) (by omega) (m_overloaded P2 I.rs w tp I.hl i1) fun r h3 N3 q => ?_⟩
    obtain ⟨M', q⟩ := q
    rcases q with ⟨cq, g, e⟩ | ⟨cq, g, e⟩
    · exfalso; omega
    · exact ⟨⟨_, e⟩, fin_E sp2 I.xi I.km ou2 (by omega) g⟩
set_option maxRecDepth 40000 in
theorem jq_peak {a1 : Int} (I0 : INVt G h N t0) (i1 : InR a1) : CH G mL_peak [.ref (cB G), JV a1, .ref (cB G + 281)] h N 1 6 (JQ G mX11_peak [JV a1] false) := by
  obtain ⟨S, st, K, M, L, z, I, ou⟩ := I0
  have sp := I.sp
  have w := I.wf
  have tp := I.tp
  have wT := w.nT
  have wL := w.nL
  have nN := I.nN
  by_cases c0 : 0 ≤ a1 ∧ a1 < 4
  · skip
    obtain ⟨na1, rfl⟩ := Int.eq_ofNat_of_zero_le (c0.1)
    refine L_peak (k1 := 0) (n1 := 0) (by omega) (by omega) sp.1 (CT.cx (X := noX) (c_peak (t := na1) sp (by omega))) (fun r h1 N1 q => ?_) (fun _ _ _ q => False.elim q)
    obtain ⟨rfl, sp1, v, rfl, eb, ee, lb, le, rm, ld, od, fv, rfl⟩ := q
    refine ⟨_, rfl, JQ.good I ou sp1 rfl (fun q => by cases q) fun h2 sp2 P2 ou2 => MCT.mk (by omega) (by omega) (m_peak P2 I.rs w tp I.hl i1) fun r h3 N3 q => ?_⟩
    obtain ⟨M', q⟩ := q
    rcases q with ⟨cq, g, e⟩ | ⟨cq, g, e⟩
    · have la := g.2.2.2.2.2.2.1
      obtain ⟨od9, ml⟩ := la.2.2.2
      have lq := fv.leq w tp la od9
      have lv := LV9_all w (lb := M' 20 0) (rm := fun x => M' 21 x 0) (rl := S 15 0 0) od9
      exact ⟨by rw [e]; exact congrArg (fun x : Int => some (JV x)) (peak_eq w lq lv ml (c := na1) (by omega)).symm, fin_E sp2 I.xi I.km ou2 I.nN g⟩
    · exfalso; omega
  · refine L_peak (k1 := 1) (n1 := 6) (by omega) (by omega) sp.1 (x_peak0 sp i1 c0) (fun _ _ _ q => q.elim) (fun E h1 N1 q => ?_)
    obtain ⟨rfl, rfl, hN⟩ := q
    refine ⟨rfl, JQ.bad I (c := 1) (by omega) sp rfl hN ou fun h2 sp2 P2 ou2 => MCT.mk (by omega) (by omega) (m_peak P2 I.rs w tp I.hl i1) fun r h3 N3 q => ?_⟩
    obtain ⟨M', q⟩ := q
    rcases q with ⟨cq, g, e⟩ | ⟨cq, g, e⟩
    · exfalso; omega
    · exact ⟨⟨_, e⟩, fin_E sp2 I.xi I.km ou2 (by omega) g⟩
set_option maxRecDepth 40000 in
theorem jq_idle {a1 : Int} (I0 : INVt G h N t0) (i1 : InR a1) : CH G mL_idle [.ref (cB G), JV a1, .ref (cB G + 281)] h N 1 6 (JQ G mX11_idle [JV a1] false) := by
  obtain ⟨S, st, K, M, L, z, I, ou⟩ := I0
  have sp := I.sp
  have w := I.wf
  have tp := I.tp
  have wT := w.nT
  have wL := w.nL
  have nN := I.nN
  by_cases c0 : 0 ≤ a1 ∧ a1 < 4
  · skip
    obtain ⟨na1, rfl⟩ := Int.eq_ofNat_of_zero_le (c0.1)
    refine L_idle (k1 := 0) (n1 := 0) (by omega) (by omega) sp.1 (CT.cx (X := noX) (c_idle (t := na1) sp (by omega))) (fun r h1 N1 q => ?_) (fun _ _ _ q => False.elim q)
    obtain ⟨rfl, sp1, v, rfl, eb, ee, lb, le, rm, ld, od, fv, rfl⟩ := q
    refine ⟨_, rfl, JQ.good I ou sp1 rfl (fun q => by cases q) fun h2 sp2 P2 ou2 => MCT.mk (by omega) (by omega) (m_idle P2 I.rs w tp I.hl i1) fun r h3 N3 q => ?_⟩
    obtain ⟨M', q⟩ := q
    rcases q with ⟨cq, g, e⟩ | ⟨cq, g, e⟩
    · have la := g.2.2.2.2.2.2.1
      obtain ⟨od9, ml⟩ := la.2.2.2
      have lq := fv.leq w tp la od9
      have lv := LV9_all w (lb := M' 20 0) (rm := fun x => M' 21 x 0) (rl := S 15 0 0) od9
      exact ⟨by rw [e]; exact congrArg (fun x : Int => some (JV x)) (idle_eq w lq lv ml (c := na1) (by omega)).symm, fin_E sp2 I.xi I.km ou2 I.nN g⟩
    · exfalso; omega
  · refine L_idle (k1 := 1) (n1 := 6) (by omega) (by omega) sp.1 (x_idle0 sp i1 c0) (fun _ _ _ q => q.elim) (fun E h1 N1 q => ?_)
    obtain ⟨rfl, rfl, hN⟩ := q
    refine ⟨rfl, JQ.bad I (c := 1) (by omega) sp rfl hN ou fun h2 sp2 P2 ou2 => MCT.mk (by omega) (by omega) (m_idle P2 I.rs w tp I.hl i1) fun r h3 N3 q => ?_⟩
    obtain ⟨M', q⟩ := q
    rcases q with ⟨cq, g, e⟩ | ⟨cq, g, e⟩
    · exfalso; omega
    · exact ⟨⟨_, e⟩, fin_E sp2 I.xi I.km ou2 (by omega) g⟩
theorem jq_planned {a1 : Int} (I0 : INVt G h N t0) (i1 : InR a1) : CH G mL_planned [.ref (cB G), JV a1, .ref (cB G + 281)] h N 1 6 (JQ G mX11_planned [JV a1] false) := by
  obtain ⟨S, st, K, M, L, z, I, ou⟩ := I0
  have sp := I.sp
  have w := I.wf
  have tp := I.tp
  have wT := w.nT
  have wL := w.nL
  have nN := I.nN
  by_cases c0 : 0 ≤ a1 ∧ a1 ≤ 9999
  · skip
    refine L_planned (k1 := 0) (n1 := 0) (by omega) (by omega) sp.1 (CT.cx (X := noX) (c_planned sp c0)) (fun r h1 N1 q => ?_) (fun _ _ _ q => False.elim q)
    obtain ⟨rfl, rfl, rfl⟩ := q
    refine ⟨_, rfl, JQ.good I ou sp rfl (fun q => by cases q) fun h2 sp2 P2 ou2 => MCT.mk (by omega) (by omega) (m_planned P2 I.rs w I.km I.kc i1) fun r h3 N3 q => ?_⟩
    obtain ⟨M', q⟩ := q
    rcases q with ⟨cq, g, e⟩ | ⟨cq, g, e⟩
    · exact ⟨e, fin_B sp2 I.xi I.hl I.km ou2 I.nN g⟩
    · exfalso; omega
  · refine L_planned (k1 := 1) (n1 := 6) (by omega) (by omega) sp.1 (x_planned0 sp i1 c0) (fun _ _ _ q => q.elim) (fun E h1 N1 q => ?_)
    obtain ⟨rfl, rfl, hN⟩ := q
    refine ⟨rfl, JQ.bad I (c := 1) (by omega) sp rfl hN ou fun h2 sp2 P2 ou2 => MCT.mk (by omega) (by omega) (m_planned P2 I.rs w I.km I.kc i1) fun r h3 N3 q => ?_⟩
    obtain ⟨M', q⟩ := q
    rcases q with ⟨cq, g, e⟩ | ⟨cq, g, e⟩
    · exfalso; omega
    · exact ⟨⟨_, e⟩, fin_B sp2 I.xi I.hl I.km ou2 (by omega) g⟩
theorem jq_pace {a1 : Int} (I0 : INVt G h N t0) (i1 : InR a1) : CH G mL_pace [.ref (cB G), JV a1, .ref (cB G + 282)] h N 1 6 (JD G mX11_pace [JV a1]) := by
  obtain ⟨S, st, K, M, L, z, I, ou⟩ := I0
  have sp := I.sp
  have w := I.wf
  have tp := I.tp
  have wT := w.nT
  have wL := w.nL
  have nN := I.nN
  by_cases c0 : 0 ≤ a1 ∧ a1 ≤ 9999
  · skip
    refine L_pace (k1 := 0) (n1 := 0) (by omega) (by omega) sp.1 (CT.cx (X := noX) (c_pace sp c0)) (fun r h1 N1 q => ?_) (fun _ _ _ q => False.elim q)
    obtain ⟨rfl, rfl, rfl⟩ := q
    refine ⟨_, rfl, JD.good I ou sp rfl fun h2 sp2 P2 ou2 => MCT.mk (by omega) (by omega) (m_pace P2 I.rs w I.km I.kc i1) fun r h3 N3 q => ?_⟩
    obtain ⟨M', q⟩ := q
    rcases q with ⟨cq, g, e⟩ | ⟨cq, g, e⟩
    · exact ⟨e, fin_B sp2 I.xi I.hl I.km ou2 I.nN g⟩
    · exfalso; omega
  · refine L_pace (k1 := 1) (n1 := 6) (by omega) (by omega) sp.1 (x_pace0 sp i1 c0) (fun _ _ _ q => q.elim) (fun E h1 N1 q => ?_)
    obtain ⟨rfl, rfl, hN⟩ := q
    refine ⟨rfl, JD.bad I (c := 1) (by omega) sp rfl hN ou fun h2 sp2 P2 ou2 => MCT.mk (by omega) (by omega) (m_pace P2 I.rs w I.km I.kc i1) fun r h3 N3 q => ?_⟩
    obtain ⟨M', q⟩ := q
    rcases q with ⟨cq, g, e⟩ | ⟨cq, g, e⟩
    · exfalso; omega
    · exact ⟨⟨_, e⟩, fin_B sp2 I.xi I.hl I.km ou2 (by omega) g⟩
theorem jq_lastWith {a1 a2 : Int} (I0 : INVt G h N t0) (i1 : InR a1) (i2 : InR a2) : CH G mL_lastWith [.ref (cB G), JV a1, JV a2, .ref (cB G + 281)] h N 1 6 (JQ G mX11_lastWith [JV a1, JV a2] false) := by
  obtain ⟨S, st, K, M, L, z, I, ou⟩ := I0
  have sp := I.sp
  have w := I.wf
  have tp := I.tp
  have wT := w.nT
  have wL := w.nL
  have nN := I.nN
  by_cases c0 : 0 ≤ a1 ∧ a1 < S 13 0 0
  · skip
    by_cases c1 : 0 ≤ a2 ∧ a2 ≤ 20
    · skip
      obtain ⟨na1, rfl⟩ := Int.eq_ofNat_of_zero_le (c0.1)
      refine L_lastWith (k1 := 0) (n1 := 0) (by omega) (by omega) sp.1 (CT.cx (X := noX) (c_lastWith (t := na1) sp (by omega) c1)) (fun r h1 N1 q => ?_) (fun _ _ _ q => False.elim q)
      obtain ⟨rfl, sp1, v, rfl, lw⟩ := q
      refine ⟨_, rfl, JQ.good I ou sp1 rfl (fun q => by cases q) fun h2 sp2 P2 ou2 => MCT.mk (by omega) (by omega) (m_lastWith P2 I.rs w tp i1 i2) fun r h3 N3 q => ?_⟩
      obtain ⟨M', q⟩ := q
      rcases q with ⟨cq, g, e⟩ | ⟨cq, g, e⟩ | ⟨cq, g, e⟩
      · obtain ⟨v9, e, rv⟩ := e
        have ev : v9 = v := RV0_uniq tp.len rv lw.rv
        exact ⟨by rw [e, ev], fin_X sp2 I.xi I.km ou2 I.nN g⟩
      · exfalso; omega
      · exfalso; omega
    · refine L_lastWith (k1 := 1) (n1 := 6) (by omega) (by omega) sp.1 (x_lastWith1 sp i1 i2 c0 c1) (fun _ _ _ q => q.elim) (fun E h1 N1 q => ?_)
      obtain ⟨rfl, rfl, hN⟩ := q
      refine Or.inr ⟨rfl, JQ.bad I (c := 2) (by omega) sp rfl hN ou fun h2 sp2 P2 ou2 => MCT.mk (by omega) (by omega) (m_lastWith P2 I.rs w tp i1 i2) fun r h3 N3 q => ?_⟩
      obtain ⟨M', q⟩ := q
      rcases q with ⟨cq, g, e⟩ | ⟨cq, g, e⟩ | ⟨cq, g, e⟩
      · exfalso; omega
      · exfalso; omega
      · exact ⟨⟨_, e⟩, fin_B sp2 I.xi I.hl I.km ou2 (by omega) g⟩
  · refine L_lastWith (k1 := 1) (n1 := 6) (by omega) (by omega) sp.1 (x_lastWith0 sp i1 i2 c0) (fun _ _ _ q => q.elim) (fun E h1 N1 q => ?_)
    obtain ⟨rfl, rfl, hN⟩ := q
    refine Or.inl ⟨rfl, JQ.bad I (c := 1) (by omega) sp rfl hN ou fun h2 sp2 P2 ou2 => MCT.mk (by omega) (by omega) (m_lastWith P2 I.rs w tp i1 i2) fun r h3 N3 q => ?_⟩
    obtain ⟨M', q⟩ := q
    rcases q with ⟨cq, g, e⟩ | ⟨cq, g, e⟩ | ⟨cq, g, e⟩
    · exfalso; omega
    · exact ⟨⟨_, e⟩, fin_B sp2 I.xi I.hl I.km ou2 (by omega) g⟩
    · exfalso; omega
theorem jq_levelledWith {a1 a2 : Int} (I0 : INVt G h N t0) (i1 : InR a1) (i2 : InR a2) : CH G mL_levelledWith [.ref (cB G), JV a1, JV a2, .ref (cB G + 281)] h N 1 6 (JQ G mX11_levelledWith [JV a1, JV a2] false) := by
  obtain ⟨S, st, K, M, L, z, I, ou⟩ := I0
  have sp := I.sp
  have w := I.wf
  have tp := I.tp
  have wT := w.nT
  have wL := w.nL
  have nN := I.nN
  by_cases c0 : 0 ≤ a1 ∧ a1 < 4
  · skip
    by_cases c1 : 0 ≤ a2 ∧ a2 ≤ 9
    · skip
      obtain ⟨na1, rfl⟩ := Int.eq_ofNat_of_zero_le (c0.1)
      refine L_levelledWith (k1 := 0) (n1 := 0) (by omega) (by omega) sp.1 (CT.cx (X := noX) (c_levelledWith (t := na1) sp (by omega) c1)) (fun r h1 N1 q => ?_) (fun _ _ _ q => False.elim q)
      obtain ⟨rfl, sp1, v, rfl, eb, ee, lb, le, rm, ld, od, fv, rfl⟩ := q
      refine ⟨_, rfl, JQ.good I ou sp1 rfl (fun q => by cases q) fun h2 sp2 P2 ou2 => MCT.mk (by omega) (by omega) (m_levelledWith P2 I.rs w tp i1 i2) fun r h3 N3 q => ?_⟩
      obtain ⟨M', q⟩ := q
      rcases q with ⟨cq, g, e⟩ | ⟨cq, g, e⟩ | ⟨cq, g, e⟩
      · obtain ⟨v9, e, eb', ee', lb', le', rm', ld', k1, k2, k3, k4⟩ := e
        have rv : RV1 (su S 3 na1 0 a2) v9 := ⟨eb', ee', lb', le', rm', ld', k1, k2, k3, by rw [su_f (by decide)]; exact k4⟩
        have tp3 : TOP (su S 3 na1 0 a2) := tp.same (su_f (by decide)) (su_f (by decide)) (su_f (by decide)) (su_f (by decide)) (su_f (by decide)) (su_f (by decide))
        have ev := RV1_uniq (w.siz c1) tp3 rv (lwith_rv (c := na1) (x := a2) fv.2.1.1 fv.2.1.2.2 fv.2.2.1.1)
        exact ⟨by rw [e, ev], fin_X sp2 I.xi I.km ou2 I.nN g⟩
      · exfalso; omega
      · exfalso; omega
    · refine L_levelledWith (k1 := 1) (n1 := 6) (by omega) (by omega) sp.1 (x_levelledWith1 sp i1 i2 c0 c1) (fun _ _ _ q => q.elim) (fun E h1 N1 q => ?_)
      obtain ⟨rfl, rfl, hN⟩ := q
      refine Or.inr ⟨rfl, JQ.bad I (c := 2) (by omega) sp rfl hN ou fun h2 sp2 P2 ou2 => MCT.mk (by omega) (by omega) (m_levelledWith P2 I.rs w tp i1 i2) fun r h3 N3 q => ?_⟩
      obtain ⟨M', q⟩ := q
      rcases q with ⟨cq, g, e⟩ | ⟨cq, g, e⟩ | ⟨cq, g, e⟩
      · exfalso; omega
      · exfalso; omega
      · exact ⟨⟨_, e⟩, fin_B sp2 I.xi I.hl I.km ou2 (by omega) g⟩
  · refine L_levelledWith (k1 := 1) (n1 := 6) (by omega) (by omega) sp.1 (x_levelledWith0 sp i1 i2 c0) (fun _ _ _ q => q.elim) (fun E h1 N1 q => ?_)
    obtain ⟨rfl, rfl, hN⟩ := q
    refine Or.inl ⟨rfl, JQ.bad I (c := 1) (by omega) sp rfl hN ou fun h2 sp2 P2 ou2 => MCT.mk (by omega) (by omega) (m_levelledWith P2 I.rs w tp i1 i2) fun r h3 N3 q => ?_⟩
    obtain ⟨M', q⟩ := q
    rcases q with ⟨cq, g, e⟩ | ⟨cq, g, e⟩ | ⟨cq, g, e⟩
    · exfalso; omega
    · exact ⟨⟨_, e⟩, fin_B sp2 I.xi I.hl I.km ou2 (by omega) g⟩
    · exfalso; omega
theorem jq_levelledWithout {a1 : Int} (I0 : INVt G h N t0) (i1 : InR a1) : CH G mL_levelledWithout [.ref (cB G), JV a1, .ref (cB G + 281)] h N 1 6 (JQ G mX11_levelledWithout [JV a1] false) := by
  obtain ⟨S, st, K, M, L, z, I, ou⟩ := I0
  have sp := I.sp
  have w := I.wf
  have tp := I.tp
  have wT := w.nT
  have wL := w.nL
  have nN := I.nN
  by_cases c0 : 0 ≤ a1 ∧ a1 < S 14 0 0
  · skip
    obtain ⟨na1, rfl⟩ := Int.eq_ofNat_of_zero_le (c0.1)
    refine L_levelledWithout (k1 := 0) (n1 := 0) (by omega) (by omega) sp.1 (CT.cx (X := noX) (c_levelledWithout (l := na1) (n := (S 14 0 0).toNat) sp (by omega) (by omega))) (fun r h1 N1 q => ?_) (fun _ _ _ q => False.elim q)
    obtain ⟨rfl, sp1, v, rfl, S1, e0, e14, e18, lv⟩ := q
    have w1 : WF S1 := w.drop (by omega) (by omega) e0 e14 e18
    have t1 : TOP S1 := tp.drop (by omega) (by omega) (e0 13 (by decide) (by decide)) (e0 16 (by decide) (by decide)) (e0 19 (by decide) (by decide)) (e0 20 (by decide) (by decide)) e14 e18
    have e15 : S1 15 0 0 = S 15 0 0 := by rw [e0 15 (by decide) (by decide)]
    rw [← e15] at lv
    refine ⟨_, rfl, JQ.good I ou sp1 rfl (fun q => by cases q) fun h2 sp2 P2 ou2 => MCT.mk (by omega) (by omega) (m_levelledWithout (S' := S1) P2 I.rs w i1 (fun _ => ⟨⟨e0, e14, e18⟩, w1, t1⟩)) fun r h3 N3 q => ?_⟩
    obtain ⟨M', q⟩ := q
    rcases q with ⟨cq, g, e⟩ | ⟨cq, g, e⟩
    · obtain ⟨v9, e, rv⟩ := e
      have ev : v9 = v := RV1_uniq w1 t1 rv lv.rv
      exact ⟨by rw [e, ev], fin_X sp2 I.xi I.km ou2 I.nN g⟩
    · exfalso; omega
  · refine L_levelledWithout (k1 := 1) (n1 := 6) (by omega) (by omega) sp.1 (x_levelledWithout0 sp i1 c0) (fun _ _ _ q => q.elim) (fun E h1 N1 q => ?_)
    obtain ⟨rfl, rfl, hN⟩ := q
    refine ⟨rfl, JQ.bad I (c := 1) (by omega) sp rfl hN ou fun h2 sp2 P2 ou2 => MCT.mk (by omega) (by omega) (m_levelledWithout (S' := S) P2 I.rs w i1 (fun q => absurd q c0)) fun r h3 N3 q => ?_⟩
    obtain ⟨M', q⟩ := q
    rcases q with ⟨cq, g, e⟩ | ⟨cq, g, e⟩
    · exfalso; omega
    · exact ⟨⟨_, e⟩, fin_B sp2 I.xi I.hl I.km ou2 (by omega) g⟩
theorem jq_couldGrow {a1 : Int} (I0 : INVt G h N t0) (i1 : InR a1) : CH G mL_couldGrow [.ref (cB G), JV a1, .ref (cB G + 281)] h N 1 6 (JQ G mX11_couldGrow [JV a1] false) := by
  obtain ⟨S, st, K, M, L, z, I, ou⟩ := I0
  have sp := I.sp
  have w := I.wf
  have tp := I.tp
  have wT := w.nT
  have wL := w.nL
  have nN := I.nN
  by_cases c0 : 0 ≤ a1 ∧ a1 < S 13 0 0
  · skip
    obtain ⟨na1, rfl⟩ := Int.eq_ofNat_of_zero_le (c0.1)
    refine L_couldGrow (k1 := 0) (n1 := 0) (by omega) (by omega) sp.1 (CT.cx (X := noX) (c_couldGrow (t := na1) sp (by omega))) (fun r h1 N1 q => ?_) (fun _ _ _ q => False.elim q)
    obtain ⟨rfl, sp1, v, rfl, eb, ee, lb, le, rm, ld, od, fv, gr⟩ := q
    refine ⟨_, rfl, JQ.good I ou sp1 rfl (fun q => by cases q) fun h2 sp2 P2 ou2 => MCT.mk (by omega) (by omega) (m_couldGrow P2 I.rs w tp i1) fun r h3 N3 q => ?_⟩
    obtain ⟨M', q⟩ := q
    rcases q with ⟨cq, g, e⟩ | ⟨cq, g, e⟩
    · obtain ⟨k9, b0, e, k1, k2, k3, k4⟩ := e
      have ev := GROW_uniq tp gr ⟨eb, ee, fv.2.1.1, fv.2.1.2.2⟩ k1 k2 k3 k4
      exact ⟨by rw [e, ← ev], fin_X sp2 I.xi I.km ou2 I.nN g⟩
    · exfalso; omega
  · refine L_couldGrow (k1 := 1) (n1 := 6) (by omega) (by omega) sp.1 (x_couldGrow0 sp i1 c0) (fun _ _ _ q => q.elim) (fun E h1 N1 q => ?_)
    obtain ⟨rfl, rfl, hN⟩ := q
    refine ⟨rfl, JQ.bad I (c := 1) (by omega) sp rfl hN ou fun h2 sp2 P2 ou2 => MCT.mk (by omega) (by omega) (m_couldGrow P2 I.rs w tp i1) fun r h3 N3 q => ?_⟩
    obtain ⟨M', q⟩ := q
    rcases q with ⟨cq, g, e⟩ | ⟨cq, g, e⟩
    · exfalso; omega
    · exact ⟨⟨_, e⟩, fin_B sp2 I.xi I.hl I.km ou2 (by omega) g⟩
theorem jq_setFree {a1 a2 a3 : Int} (I0 : INVt G h N t0) (i1 : InR a1) (i2 : InR a2) (i3 : InR a3) (hb : a3 = 0 ∨ a3 = 1) : CH G mL_setFree [.ref (cB G), JV a1, JV a2, JV a3, .ref (cB G + 281)] h N 1 6 (JQ G mX11_setFree [JV a1, JV a2, JV a3] true) := by
  obtain ⟨S, st, K, M, L, z, I, ou⟩ := I0
  have sp := I.sp
  have w := I.wf
  have tp := I.tp
  have wT := w.nT
  have wL := w.nL
  have nN := I.nN
  by_cases c0 : 0 ≤ a1 ∧ a1 < 4
  · skip
    by_cases c1 : 0 ≤ a2 ∧ a2 ≤ 999
    · skip
      by_cases c2 : ¬ (a3 = 1 ∧ S 2 a1.toNat a2.toNat = 0 ∧ 12 ≤ S 1 a1.toNat 0)
      · skip
        obtain ⟨na1, rfl⟩ := Int.eq_ofNat_of_zero_le (c0.1)
        obtain ⟨na2, rfl⟩ := Int.eq_ofNat_of_zero_le (c1.1)
        have hc2 : ¬ (a3 = 1 ∧ S 2 na1 na2 = 0 ∧ 12 ≤ S 1 na1 0) := c2
        refine L_setFree (k1 := 0) (n1 := 0) (by omega) (by omega) sp.1 (CT.cx (X := noX) (c_setFree (t := na1) (d := na2) sp I.xi (by omega) (by omega) hb hc2)) (fun r h1 N1 q => ?_) (fun _ _ _ q => False.elim q)
        obtain ⟨rfl, rfl, S1, sp1, x1, e0, e2, e2s, e1⟩ := q
        have hv : S 2 na1 na2 = 0 ∨ S 2 na1 na2 = 1 := w.fr na1 na2
        have fr : FRS S S1 na1 na2 a3 := FRS.of I.xi x1 (by omega) (by omega) e0 e2 e2s e1
        refine ⟨_, rfl, hv, JQ.good I ou sp1 rfl (fun _ => hv) fun h2 sp2 P2 ou2 => MCT.mk (by omega) (by omega) (m_setFree (S' := S1) P2 I.rs w i1 i2 hb (fun _ _ _ => fr)) fun r h3 N3 q => ?_⟩
        obtain ⟨M', q⟩ := q
        rcases q with ⟨cq, g, e⟩ | ⟨cq, g, e⟩ | ⟨cq, g, e⟩ | ⟨cq, g, e⟩
        · exact ⟨e, fin_G sp2 x1 I.km (by rw [e0 13 (by decide) (by decide)]; exact Int.le_refl _) ou2 I.nN g⟩
        · exfalso; first | exact cq c0 | exact cq.2 c1 | exact cq.2.2 c2 | exact c0 cq.1 | exact c1 cq.2.1 | exact c2 cq.2.2 | exact c0 cq | exact c1 cq.2 
        · exfalso; first | exact cq c0 | exact cq.2 c1 | exact cq.2.2 c2 | exact c0 cq.1 | exact c1 cq.2.1 | exact c2 cq.2.2 | exact c0 cq | exact c1 cq.2 
        · exfalso; first | exact cq c0 | exact cq.2 c1 | exact cq.2.2 c2 | exact c0 cq.1 | exact c1 cq.2.1 | exact c2 cq.2.2 | exact c0 cq | exact c1 cq.2 
      · refine L_setFree (k1 := 1) (n1 := 6) (by omega) (by omega) sp.1 (x_setFree2 sp i1 i2 i3 c0 c1 (Classical.not_not.mp c2)) (fun _ _ _ q => q.elim) (fun E h1 N1 q => ?_)
        obtain ⟨rfl, rfl, hN⟩ := q
        refine Or.inr (Or.inr ⟨rfl, JQ.bad I (c := 3) (by omega) sp rfl hN ou fun h2 sp2 P2 ou2 => MCT.mk (by omega) (by omega) (m_setFree (S' := S) P2 I.rs w i1 i2 hb (fun p0 p1 p2 => by first | exact absurd p0 c0 | exact absurd p1 c1 | exact absurd p2 c2)) fun r h3 N3 q => ?_⟩)
        obtain ⟨M', q⟩ := q
        rcases q with ⟨cq, g, e⟩ | ⟨cq, g, e⟩ | ⟨cq, g, e⟩ | ⟨cq, g, e⟩
        · exfalso; first | exact cq c0 | exact cq.2 c1 | exact cq.2.2 c2 | exact c0 cq.1 | exact c1 cq.2.1 | exact c2 cq.2.2 | exact c0 cq | exact c1 cq.2 
        · exfalso; first | exact cq c0 | exact cq.2 c1 | exact cq.2.2 c2 | exact c0 cq.1 | exact c1 cq.2.1 | exact c2 cq.2.2 | exact c0 cq | exact c1 cq.2 
        · exfalso; first | exact cq c0 | exact cq.2 c1 | exact cq.2.2 c2 | exact c0 cq.1 | exact c1 cq.2.1 | exact c2 cq.2.2 | exact c0 cq | exact c1 cq.2 
        · exact ⟨⟨_, e⟩, fin_B sp2 I.xi I.hl I.km ou2 (by omega) g⟩
    · refine L_setFree (k1 := 1) (n1 := 6) (by omega) (by omega) sp.1 (x_setFree1 sp i1 i2 i3 c0 c1) (fun _ _ _ q => q.elim) (fun E h1 N1 q => ?_)
      obtain ⟨rfl, rfl, hN⟩ := q
      refine Or.inr (Or.inl ⟨rfl, JQ.bad I (c := 2) (by omega) sp rfl hN ou fun h2 sp2 P2 ou2 => MCT.mk (by omega) (by omega) (m_setFree (S' := S) P2 I.rs w i1 i2 hb (fun p0 p1 p2 => by first | exact absurd p0 c0 | exact absurd p1 c1 | exact absurd p2 c2)) fun r h3 N3 q => ?_⟩)
      obtain ⟨M', q⟩ := q
      rcases q with ⟨cq, g, e⟩ | ⟨cq, g, e⟩ | ⟨cq, g, e⟩ | ⟨cq, g, e⟩
      · exfalso; first | exact cq c0 | exact cq.2 c1 | exact cq.2.2 c2 | exact c0 cq.1 | exact c1 cq.2.1 | exact c2 cq.2.2 | exact c0 cq | exact c1 cq.2 
      · exfalso; first | exact cq c0 | exact cq.2 c1 | exact cq.2.2 c2 | exact c0 cq.1 | exact c1 cq.2.1 | exact c2 cq.2.2 | exact c0 cq | exact c1 cq.2 
      · exact ⟨⟨_, e⟩, fin_B sp2 I.xi I.hl I.km ou2 (by omega) g⟩
      · exfalso; first | exact cq c0 | exact cq.2 c1 | exact cq.2.2 c2 | exact c0 cq.1 | exact c1 cq.2.1 | exact c2 cq.2.2 | exact c0 cq | exact c1 cq.2 
  · refine L_setFree (k1 := 1) (n1 := 6) (by omega) (by omega) sp.1 (x_setFree0 sp i1 i2 i3 c0) (fun _ _ _ q => q.elim) (fun E h1 N1 q => ?_)
    obtain ⟨rfl, rfl, hN⟩ := q
    refine Or.inl ⟨rfl, JQ.bad I (c := 1) (by omega) sp rfl hN ou fun h2 sp2 P2 ou2 => MCT.mk (by omega) (by omega) (m_setFree (S' := S) P2 I.rs w i1 i2 hb (fun p0 p1 p2 => by first | exact absurd p0 c0 | exact absurd p1 c1 | exact absurd p2 c2)) fun r h3 N3 q => ?_⟩
    obtain ⟨M', q⟩ := q
    rcases q with ⟨cq, g, e⟩ | ⟨cq, g, e⟩ | ⟨cq, g, e⟩ | ⟨cq, g, e⟩
    · exfalso; first | exact cq c0 | exact cq.2 c1 | exact cq.2.2 c2 | exact c0 cq.1 | exact c1 cq.2.1 | exact c2 cq.2.2 | exact c0 cq | exact c1 cq.2 
    · exact ⟨⟨_, e⟩, fin_B sp2 I.xi I.hl I.km ou2 (by omega) g⟩
    · exfalso; first | exact cq c0 | exact cq.2 c1 | exact cq.2.2 c2 | exact c0 cq.1 | exact c1 cq.2.1 | exact c2 cq.2.2 | exact c0 cq | exact c1 cq.2 
    · exfalso; first | exact cq c0 | exact cq.2 c1 | exact cq.2.2 c2 | exact c0 cq.1 | exact c1 cq.2.1 | exact c2 cq.2.2 | exact c0 cq | exact c1 cq.2 
theorem jq_orderAt {a1 : Int} (I0 : INVt G h N t0) (i1 : InR a1) : CH G mL_orderAt [.ref (cB G), JV a1, .ref (cB G + 281)] h N 1 6 (JQ G mX11_orderAt [JV a1] false) := by
  obtain ⟨S, st, K, M, L, z, I, ou⟩ := I0
  have sp := I.sp
  have w := I.wf
  have tp := I.tp
  have nN := I.nN
  refine L_orderAt (k1 := 1) (n1 := 6) (by omega) (by omega) sp.1 (c_orderAt sp i1) (fun r h1 N1 q => ?_) (fun E h1 N1 q => ?_)
  · obtain ⟨rfl, sp1, v, rfl, eb, ee, lb, le, rm, ld, od, fv, hp, rfl⟩ := q
    refine ⟨_, rfl, JQ.good I ou sp1 rfl (fun q => by cases q) fun h2 sp2 P2 ou2 => MCT.mk (by omega) (by omega) (m_orderAt P2 I.rs w tp I.hl i1) fun r h3 N3 q => ?_⟩
    obtain ⟨M', q⟩ := q
    rcases q with ⟨cq, g, e⟩ | ⟨cq, g, e⟩
    · have la := g.2.2.2.2.2.2.1
      obtain ⟨od9, ml⟩ := la.2.2.2
      have lq := fv.leq w tp la od9
      exact ⟨by rw [e]; exact congrArg (fun x : Int => some (JV x)) ((ml.2.1 a1.toNat).trans (lq.2.2.2.2 a1.toNat (by omega)).symm), fin_E sp2 I.xi I.km ou2 I.nN g⟩
    · exfalso
      have la := g.2.2.2.2.2.2.1
      obtain ⟨od9, ml⟩ := la.2.2.2
      have lq := fv.leq w tp la od9
      have e4 : (lvAll S lb rm (S 15 0 0) od).2.2.2.2.1 = M' 24 0 0 := by rw [lq.2.2.2.1, ml.2.2.1]
      rw [e4] at hp
      exact cq hp
  · obtain ⟨rfl, hN, sp1, eb, ee, lb, le, rm, ld, od, fv, hp⟩ := q
    refine ⟨rfl, JQ.bad I (c := 1) (by omega) sp1 rfl hN ou fun h2 sp2 P2 ou2 => MCT.mk (by omega) (by omega) (m_orderAt P2 I.rs w tp I.hl i1) fun r h3 N3 q => ?_⟩
    obtain ⟨M', q⟩ := q
    rcases q with ⟨cq, g, e⟩ | ⟨cq, g, e⟩
    · exfalso
      have la := g.2.2.2.2.2.2.1
      obtain ⟨od9, ml⟩ := la.2.2.2
      have lq := fv.leq w tp la od9
      have e4 : (lvAll S lb rm (S 15 0 0) od).2.2.2.2.1 = M' 24 0 0 := by rw [lq.2.2.2.1, ml.2.2.1]
      rw [e4] at hp
      exact hp cq
    · exact ⟨⟨_, e⟩, fin_E sp2 I.xi I.km ou2 (by omega) g⟩
theorem jq_link {a1 a2 a3 a4 : Int} (I0 : INVt G h N t0) (i1 : InR a1) (i2 : InR a2) (i3 : InR a3) (i4 : InR a4) : CH G mL_link [.ref (cB G), JV a1, JV a2, JV a3, JV a4, .ref (cB G + 281)] h N 1 6 (JQ G mX11_link [JV a1, JV a2, JV a3, JV a4] false) := by
  obtain ⟨S, st, K, M, L, z, I, ou⟩ := I0
  have sp := I.sp
  have w := I.wf
  have tp := I.tp
  have wT := w.nT
  have wL := w.nL
  have nN := I.nN
  have hx : ∀ n : Nat, S 14 0 0 = (n : Int) → n < 40 → ∀ j : Nat, j < n → (S 18 j 0).toNat ≠ (S 18 n 0).toNat := fun n hn hn4 j hj hq => by
    have p1 := (w.perm (i := j) (by omega)).1
    have p2 := (w.perm (i := n) (by omega)).1
    have := I.xi.2 j n (by omega) (by omega) (by omega)
    omega
  by_cases c0 : 0 ≤ a1 ∧ a1 < S 13 0 0
  · skip
    by_cases c1 : 0 ≤ a2 ∧ a2 < S 13 0 0
    · skip
      by_cases c2 : (0 ≤ a3 ∧ a3 ≤ 2) ∧ 0 ≤ a4 ∧ a4 ≤ 20
      · skip
        by_cases c3 : S 14 0 0 < 40
        · skip
          by_cases c4 : Rch S a2.toNat a1.toNat
          · refine L_link (k1 := 1) (n1 := 6) (by omega) (by omega) sp.1 (x_link4 sp i1 i2 i3 i4 c0 c1 c2 c3 c4) (fun _ _ _ q => q.elim) (fun E h1 N1 q => ?_)
            obtain ⟨rfl, hN, S8, sp1, e8⟩ := q
            refine Or.inr (Or.inr ⟨rfl, JQ.bad I (c := 3) (by omega) sp1 rfl hN ou fun h2 sp2 P2 ou2 => MCT.mk (by omega) (by omega) (m_link (S' := S) P2 I.rs w tp i1 i2 i3 i4 hx (fun _ _ q3 => absurd c4 q3.2)) fun r h3 N3 q => ?_⟩)
            obtain ⟨M', L9, q⟩ := q
            rcases q with ⟨cq, g, e⟩ | ⟨cq, g, e⟩ | ⟨cq, g, e⟩ | ⟨cq, g, e⟩
            · exact absurd c4 cq.2.2.2
            · exfalso; omega
            · exfalso; omega
            · exact ⟨⟨_, e⟩, fin_B sp2 (I.xi.same (e8 1 (by decide)) (e8 2 (by decide)) (e8 18 (by decide))) (I.hl.imp_right fun q => ⟨q.1, q.2.cg e8⟩) (I.km.grow (by rw [e8 13 (by decide)]; exact Int.le_refl _)) ou2 (by omega) ⟨g.1, g.2.1, g.2.2.1, RS_cg17 g.2.2.2.1 e8, g.2.2.2.2⟩⟩
          · obtain ⟨n1, rfl⟩ := Int.eq_ofNat_of_zero_le c0.1
            obtain ⟨n2, rfl⟩ := Int.eq_ofNat_of_zero_le c1.1
            refine L_link (k1 := 0) (n1 := 0) (by omega) (by omega) sp.1 (CT.cx (X := noX) (c_link (fr := n1) (to := n2) sp I.xi c0.2 c1.2 c2.1 c2.2 c3 c4)) (fun r h1 N1 q => ?_) (fun _ _ _ q => False.elim q)
            obtain ⟨rfl, rfl, S1, sp1, al⟩ := q
            refine ⟨_, rfl, JQ.good I ou sp1 rfl (fun q => by cases q) fun h2 sp2 P2 ou2 => MCT.mk (by omega) (by omega) (m_link (S' := S1) P2 I.rs w tp i1 i2 i3 i4 hx (fun _ _ _ => al)) fun r h3 N3 q => ?_⟩
            obtain ⟨M', L9, q⟩ := q
            rcases q with ⟨cq, g, e⟩ | ⟨cq, g, e⟩ | ⟨cq, g, e⟩ | ⟨cq, g, e⟩
            · exact ⟨e, fin_G sp2 (I.xi.same (al.1 1 (by decide) (by decide) (by decide) (by decide) (by decide) (by decide) (by decide)) (al.1 2 (by decide) (by decide) (by decide) (by decide) (by decide) (by decide) (by decide)) (al.1 18 (by decide) (by decide) (by decide) (by decide) (by decide) (by decide) (by decide))) I.km (by rw [al.1 13 (by decide) (by decide) (by decide) (by decide) (by decide) (by decide) (by decide)]; exact Int.le_refl _) ou2 I.nN g⟩
            · exfalso; omega
            · exfalso; omega
            · exact absurd ⟨c3, c4⟩ cq.2.2
        · refine L_link (k1 := 1) (n1 := 6) (by omega) (by omega) sp.1 (x_link3 sp i1 i2 i3 i4 c0 c1 c2 c3) (fun _ _ _ q => q.elim) (fun E h1 N1 q => ?_)
          obtain ⟨rfl, rfl, hN⟩ := q
          refine Or.inr (Or.inr ⟨rfl, JQ.bad I (c := 3) (by omega) sp rfl hN ou fun h2 sp2 P2 ou2 => MCT.mk (by omega) (by omega) (m_link (S' := S) P2 I.rs w tp i1 i2 i3 i4 hx (fun q1 q2 q3 => by exfalso; exact c3 q3.1)) fun r h3 N3 q => ?_⟩)
          obtain ⟨M', L9, q⟩ := q
          rcases q with ⟨cq, g, e⟩ | ⟨cq, g, e⟩ | ⟨cq, g, e⟩ | ⟨cq, g, e⟩
          · exfalso; exact c3 cq.2.2.1
          · exfalso; omega
          · exfalso; omega
          · exact ⟨⟨_, e⟩, fin_B sp2 I.xi I.hl I.km ou2 (by omega) g⟩
      · refine L_link (k1 := 1) (n1 := 6) (by omega) (by omega) sp.1 (x_link2 sp i1 i2 i3 i4 c0 c1 c2) (fun _ _ _ q => q.elim) (fun E h1 N1 q => ?_)
        obtain ⟨rfl, rfl, hN⟩ := q
        refine Or.inr (Or.inl ⟨rfl, JQ.bad I (c := 2) (by omega) sp rfl hN ou fun h2 sp2 P2 ou2 => MCT.mk (by omega) (by omega) (m_link (S' := S) P2 I.rs w tp i1 i2 i3 i4 hx (fun q1 q2 q3 => by exfalso; omega)) fun r h3 N3 q => ?_⟩)
        obtain ⟨M', L9, q⟩ := q
        rcases q with ⟨cq, g, e⟩ | ⟨cq, g, e⟩ | ⟨cq, g, e⟩ | ⟨cq, g, e⟩
        · exfalso; omega
        · exfalso; omega
        · exact ⟨⟨_, e⟩, fin_B sp2 I.xi I.hl I.km ou2 (by omega) g⟩
        · exfalso; omega
    · refine L_link (k1 := 1) (n1 := 6) (by omega) (by omega) sp.1 (x_link1 sp i1 i2 i3 i4 c0 c1) (fun _ _ _ q => q.elim) (fun E h1 N1 q => ?_)
      obtain ⟨rfl, rfl, hN⟩ := q
      refine Or.inl ⟨rfl, JQ.bad I (c := 1) (by omega) sp rfl hN ou fun h2 sp2 P2 ou2 => MCT.mk (by omega) (by omega) (m_link (S' := S) P2 I.rs w tp i1 i2 i3 i4 hx (fun q1 q2 q3 => by exfalso; omega)) fun r h3 N3 q => ?_⟩
      obtain ⟨M', L9, q⟩ := q
      rcases q with ⟨cq, g, e⟩ | ⟨cq, g, e⟩ | ⟨cq, g, e⟩ | ⟨cq, g, e⟩
      · exfalso; omega
      · exact ⟨⟨_, e⟩, fin_B sp2 I.xi I.hl I.km ou2 (by omega) g⟩
      · exfalso; omega
      · exfalso; omega
  · refine L_link (k1 := 1) (n1 := 6) (by omega) (by omega) sp.1 (x_link0 sp i1 i2 i3 i4 c0) (fun _ _ _ q => q.elim) (fun E h1 N1 q => ?_)
    obtain ⟨rfl, rfl, hN⟩ := q
    refine Or.inl ⟨rfl, JQ.bad I (c := 1) (by omega) sp rfl hN ou fun h2 sp2 P2 ou2 => MCT.mk (by omega) (by omega) (m_link (S' := S) P2 I.rs w tp i1 i2 i3 i4 hx (fun q1 q2 q3 => by exfalso; omega)) fun r h3 N3 q => ?_⟩
    obtain ⟨M', L9, q⟩ := q
    rcases q with ⟨cq, g, e⟩ | ⟨cq, g, e⟩ | ⟨cq, g, e⟩ | ⟨cq, g, e⟩
    · exfalso; omega
    · exact ⟨⟨_, e⟩, fin_B sp2 I.xi I.hl I.km ou2 (by omega) g⟩
    · exfalso; omega
    · exfalso; omega
end Jq

/-! ===== each method: the class's answer is the reference's, and the invariant comes back ===== -/
section Jq
variable {G : Ctx} {h : AH} {N : Nat} {t0 : Int}
theorem LAID.cg {S S8 M : ST} (la : LAID S M) (e : ∀ f, f ≠ 17 → S8 f = S f) : LAID S8 M := by
  obtain ⟨p1, p2, p3, od, m1, m2, m3, m4, m5⟩ := la
  have cg : CGL S S8 := fun f _ h17 => (e f h17).symm
  have e15 := e 15 (by decide)
  have eg : ldg S8 = ldg S := (ldg_off cg).symm
  have ea : lvAll S8 (M 20 0) (fun x => M 21 x 0) (S8 15 0 0) od = lvAll S (M 20 0) (fun x => M 21 x 0) (S 15 0 0) od := by rw [e15]; exact (lvAll_off cg).symm
  refine ⟨EP_off cg.r p1, LDY_off cg.r p2, LATE_off cg.r p3, od, ?_⟩
  rw [ea]
  exact ⟨m1, m2, m3, m4, by rw [eg]; exact m5⟩
theorem RS_cg17 {S S8 M : ST} (r : RS S M) (e : ∀ f, f ≠ 17 → S8 f = S f) : RS S8 M := by
  unfold RS at *
  unfold lF lT lK lG at *
  simp only [e 0 (by decide), e 1 (by decide), e 2 (by decide), e 3 (by decide), e 4 (by decide), e 5 (by decide), e 6 (by decide), e 7 (by decide), e 8 (by decide), e 9 (by decide), e 10 (by decide), e 11 (by decide), e 12 (by decide), e 13 (by decide), e 14 (by decide), e 15 (by decide), e 16 (by decide), e 18 (by decide), e 19 (by decide), e 20 (by decide), e 21 (by decide), e 22 (by decide)]
  exact r
theorem jq_setWeek {a1 a2 : Int} (I0 : INVt G h N t0) (i1 : InR a1) (i2 : InR a2) : CH G mL_setWeek [.ref (cB G), JV a1, JV a2, .ref (cB G + 281)] h N 1 6 (JQ G mX11_setWeek [JV a1, JV a2] false) := by
  obtain ⟨S, st, K, M, L, z, I, ou⟩ := I0
  have sp := I.sp
  have w := I.wf
  have tp := I.tp
  have wT := w.nT
  have wL := w.nL
  have nN := I.nN
  by_cases c0 : 0 ≤ a1 ∧ a1 < 4
  · skip
    by_cases c1 : 1 ≤ a2 ∧ a2 ≤ 127
    · skip
      obtain ⟨na1, rfl⟩ := Int.eq_ofNat_of_zero_le (c0.1)
      refine L_setWeek (k1 := 0) (n1 := 0) (by omega) (by omega) sp.1 (CT.cx (X := noX) (c_setWeek (t := na1) sp (by omega) c1)) (fun r h1 N1 q => ?_) (fun _ _ _ q => False.elim q)
      obtain ⟨rfl, rfl, S1, sp1, rfl⟩ := q
      refine ⟨_, rfl, JQ.good I ou sp1 rfl (fun q => by cases q) fun h2 sp2 P2 ou2 => MCT.mk (by omega) (by omega) (m_setWeek P2 I.rs w i1 i2) fun r h3 N3 q => ?_⟩
      obtain ⟨M', q⟩ := q
      rcases q with ⟨cq, g, e⟩ | ⟨cq, g, e⟩ | ⟨cq, g, e⟩
      · try simp only [Int.toNat_natCast] at g e
        exact ⟨e, fin_G sp2 (I.xi.same (by funext i j; simp [su]) (by funext i j; simp [su]) (by funext i j; simp [su])) I.km (by simp [su]) ou2 I.nN g⟩
      · exfalso; omega
      · exfalso; omega
    · refine L_setWeek (k1 := 1) (n1 := 6) (by omega) (by omega) sp.1 (x_setWeek1 sp i1 i2 c0 c1) (fun _ _ _ q => q.elim) (fun E h1 N1 q => ?_)
      obtain ⟨rfl, rfl, hN⟩ := q
      refine Or.inr ⟨rfl, JQ.bad I (c := 2) (by omega) sp rfl hN ou fun h2 sp2 P2 ou2 => MCT.mk (by omega) (by omega) (m_setWeek P2 I.rs w i1 i2) fun r h3 N3 q => ?_⟩
      obtain ⟨M', q⟩ := q
      rcases q with ⟨cq, g, e⟩ | ⟨cq, g, e⟩ | ⟨cq, g, e⟩
      · exfalso; omega
      · exfalso; omega
      · exact ⟨⟨_, e⟩, fin_B sp2 I.xi I.hl I.km ou2 (by omega) g⟩
  · refine L_setWeek (k1 := 1) (n1 := 6) (by omega) (by omega) sp.1 (x_setWeek0 sp i1 i2 c0) (fun _ _ _ q => q.elim) (fun E h1 N1 q => ?_)
    obtain ⟨rfl, rfl, hN⟩ := q
    refine Or.inl ⟨rfl, JQ.bad I (c := 1) (by omega) sp rfl hN ou fun h2 sp2 P2 ou2 => MCT.mk (by omega) (by omega) (m_setWeek P2 I.rs w i1 i2) fun r h3 N3 q => ?_⟩
    obtain ⟨M', q⟩ := q
    rcases q with ⟨cq, g, e⟩ | ⟨cq, g, e⟩ | ⟨cq, g, e⟩
    · exfalso; omega
    · exact ⟨⟨_, e⟩, fin_B sp2 I.xi I.hl I.km ou2 (by omega) g⟩
    · exfalso; omega
theorem jq_setCrew {a1 a2 a3 : Int} (I0 : INVt G h N t0) (i1 : InR a1) (i2 : InR a2) (i3 : InR a3) : CH G mL_setCrew [.ref (cB G), JV a1, JV a2, JV a3, .ref (cB G + 281)] h N 1 6 (JQ G mX11_setCrew [JV a1, JV a2, JV a3] false) := by
  obtain ⟨S, st, K, M, L, z, I, ou⟩ := I0
  have sp := I.sp
  have w := I.wf
  have tp := I.tp
  have wT := w.nT
  have wL := w.nL
  have nN := I.nN
  by_cases c0 : 0 ≤ a1 ∧ a1 < 4
  · skip
    by_cases c1 : (0 ≤ a2 ∧ a2 ≤ 9) ∧ 0 ≤ a3 ∧ a3 ≤ 99
    · skip
      obtain ⟨na1, rfl⟩ := Int.eq_ofNat_of_zero_le (c0.1)
      refine L_setCrew (k1 := 0) (n1 := 0) (by omega) (by omega) sp.1 (CT.cx (X := noX) (c_setCrew (t := na1) sp (by omega) c1.1 c1.2)) (fun r h1 N1 q => ?_) (fun _ _ _ q => False.elim q)
      obtain ⟨rfl, rfl, S1, sp1, rfl⟩ := q
      refine ⟨_, rfl, JQ.good I ou sp1 rfl (fun q => by cases q) fun h2 sp2 P2 ou2 => MCT.mk (by omega) (by omega) (m_setCrew P2 I.rs w i1 i2 i3) fun r h3 N3 q => ?_⟩
      obtain ⟨M', q⟩ := q
      rcases q with ⟨cq, g, e⟩ | ⟨cq, g, e⟩ | ⟨cq, g, e⟩
      · try simp only [Int.toNat_natCast] at g e
        exact ⟨e, fin_G sp2 (I.xi.same (by funext i j; simp [su]) (by funext i j; simp [su]) (by funext i j; simp [su])) I.km (by simp [su]) ou2 I.nN g⟩
      · exfalso; omega
      · exfalso; omega
    · refine L_setCrew (k1 := 1) (n1 := 6) (by omega) (by omega) sp.1 (x_setCrew1 sp i1 i2 i3 c0 c1) (fun _ _ _ q => q.elim) (fun E h1 N1 q => ?_)
      obtain ⟨rfl, rfl, hN⟩ := q
      refine Or.inr ⟨rfl, JQ.bad I (c := 2) (by omega) sp rfl hN ou fun h2 sp2 P2 ou2 => MCT.mk (by omega) (by omega) (m_setCrew P2 I.rs w i1 i2 i3) fun r h3 N3 q => ?_⟩
      obtain ⟨M', q⟩ := q
      rcases q with ⟨cq, g, e⟩ | ⟨cq, g, e⟩ | ⟨cq, g, e⟩
      · exfalso; omega
      · exfalso; omega
      · exact ⟨⟨_, e⟩, fin_B sp2 I.xi I.hl I.km ou2 (by omega) g⟩
  · refine L_setCrew (k1 := 1) (n1 := 6) (by omega) (by omega) sp.1 (x_setCrew0 sp i1 i2 i3 c0) (fun _ _ _ q => q.elim) (fun E h1 N1 q => ?_)
    obtain ⟨rfl, rfl, hN⟩ := q
    refine Or.inl ⟨rfl, JQ.bad I (c := 1) (by omega) sp rfl hN ou fun h2 sp2 P2 ou2 => MCT.mk (by omega) (by omega) (m_setCrew P2 I.rs w i1 i2 i3) fun r h3 N3 q => ?_⟩
    obtain ⟨M', q⟩ := q
    rcases q with ⟨cq, g, e⟩ | ⟨cq, g, e⟩ | ⟨cq, g, e⟩
    · exfalso; omega
    · exact ⟨⟨_, e⟩, fin_B sp2 I.xi I.hl I.km ou2 (by omega) g⟩
    · exfalso; omega
theorem jq_setLength {a1 a2 : Int} (I0 : INVt G h N t0) (i1 : InR a1) (i2 : InR a2) : CH G mL_setLength [.ref (cB G), JV a1, JV a2, .ref (cB G + 281)] h N 1 6 (JQ G mX11_setLength [JV a1, JV a2] false) := by
  obtain ⟨S, st, K, M, L, z, I, ou⟩ := I0
  have sp := I.sp
  have w := I.wf
  have tp := I.tp
  have wT := w.nT
  have wL := w.nL
  have nN := I.nN
  by_cases c0 : 0 ≤ a1 ∧ a1 < S 13 0 0
  · skip
    by_cases c1 : 0 ≤ a2 ∧ a2 ≤ 20
    · skip
      obtain ⟨na1, rfl⟩ := Int.eq_ofNat_of_zero_le (c0.1)
      refine L_setLength (k1 := 0) (n1 := 0) (by omega) (by omega) sp.1 (CT.cx (X := noX) (c_setLength (t := na1) sp (by omega) c1)) (fun r h1 N1 q => ?_) (fun _ _ _ q => False.elim q)
      obtain ⟨rfl, rfl, S1, sp1, rfl⟩ := q
      refine ⟨_, rfl, JQ.good I ou sp1 rfl (fun q => by cases q) fun h2 sp2 P2 ou2 => MCT.mk (by omega) (by omega) (m_setLength P2 I.rs w i1 i2) fun r h3 N3 q => ?_⟩
      obtain ⟨M', q⟩ := q
      rcases q with ⟨cq, g, e⟩ | ⟨cq, g, e⟩ | ⟨cq, g, e⟩
      · try simp only [Int.toNat_natCast] at g e
        exact ⟨e, fin_G sp2 (I.xi.same (by funext i j; simp [su]) (by funext i j; simp [su]) (by funext i j; simp [su])) I.km (by simp [su]) ou2 I.nN g⟩
      · exfalso; omega
      · exfalso; omega
    · refine L_setLength (k1 := 1) (n1 := 6) (by omega) (by omega) sp.1 (x_setLength1 sp i1 i2 c0 c1) (fun _ _ _ q => q.elim) (fun E h1 N1 q => ?_)
      obtain ⟨rfl, rfl, hN⟩ := q
      refine Or.inr ⟨rfl, JQ.bad I (c := 2) (by omega) sp rfl hN ou fun h2 sp2 P2 ou2 => MCT.mk (by omega) (by omega) (m_setLength P2 I.rs w i1 i2) fun r h3 N3 q => ?_⟩
      obtain ⟨M', q⟩ := q
      rcases q with ⟨cq, g, e⟩ | ⟨cq, g, e⟩ | ⟨cq, g, e⟩
      · exfalso; omega
      · exfalso; omega
      · exact ⟨⟨_, e⟩, fin_B sp2 I.xi I.hl I.km ou2 (by omega) g⟩
  · refine L_setLength (k1 := 1) (n1 := 6) (by omega) (by omega) sp.1 (x_setLength0 sp i1 i2 c0) (fun _ _ _ q => q.elim) (fun E h1 N1 q => ?_)
    obtain ⟨rfl, rfl, hN⟩ := q
    refine Or.inl ⟨rfl, JQ.bad I (c := 1) (by omega) sp rfl hN ou fun h2 sp2 P2 ou2 => MCT.mk (by omega) (by omega) (m_setLength P2 I.rs w i1 i2) fun r h3 N3 q => ?_⟩
    obtain ⟨M', q⟩ := q
    rcases q with ⟨cq, g, e⟩ | ⟨cq, g, e⟩ | ⟨cq, g, e⟩
    · exfalso; omega
    · exact ⟨⟨_, e⟩, fin_B sp2 I.xi I.hl I.km ou2 (by omega) g⟩
    · exfalso; omega
theorem jq_setTerms {a1 a2 a3 : Int} (I0 : INVt G h N t0) (i1 : InR a1) (i2 : InR a2) (i3 : InR a3) : CH G mL_setTerms [.ref (cB G), JV a1, JV a2, JV a3, .ref (cB G + 281)] h N 1 6 (JQ G mX11_setTerms [JV a1, JV a2, JV a3] false) := by
  obtain ⟨S, st, K, M, L, z, I, ou⟩ := I0
  have sp := I.sp
  have w := I.wf
  have tp := I.tp
  have wT := w.nT
  have wL := w.nL
  have nN := I.nN
  by_cases c0 : 0 ≤ a1 ∧ a1 < S 13 0 0
  · skip
    by_cases c1 : (0 ≤ a2 ∧ a2 ≤ 9) ∧ 0 ≤ a3 ∧ a3 ≤ 999
    · skip
      obtain ⟨na1, rfl⟩ := Int.eq_ofNat_of_zero_le (c0.1)
      refine L_setTerms (k1 := 0) (n1 := 0) (by omega) (by omega) sp.1 (CT.cx (X := noX) (c_setTerms (t := na1) sp (by omega) c1.1 c1.2)) (fun r h1 N1 q => ?_) (fun _ _ _ q => False.elim q)
      obtain ⟨rfl, rfl, S1, sp1, rfl⟩ := q
      refine ⟨_, rfl, JQ.good I ou sp1 rfl (fun q => by cases q) fun h2 sp2 P2 ou2 => MCT.mk (by omega) (by omega) (m_setTerms P2 I.rs w i1 i2 i3) fun r h3 N3 q => ?_⟩
      obtain ⟨M', q⟩ := q
      rcases q with ⟨cq, g, e⟩ | ⟨cq, g, e⟩ | ⟨cq, g, e⟩
      · try simp only [Int.toNat_natCast] at g e
        exact ⟨e, fin_G sp2 (I.xi.same (by funext i j; simp [su]) (by funext i j; simp [su]) (by funext i j; simp [su])) I.km (by simp [su]) ou2 I.nN g⟩
      · exfalso; omega
      · exfalso; omega
    · refine L_setTerms (k1 := 1) (n1 := 6) (by omega) (by omega) sp.1 (x_setTerms1 sp i1 i2 i3 c0 c1) (fun _ _ _ q => q.elim) (fun E h1 N1 q => ?_)
      obtain ⟨rfl, rfl, hN⟩ := q
      refine Or.inr ⟨rfl, JQ.bad I (c := 2) (by omega) sp rfl hN ou fun h2 sp2 P2 ou2 => MCT.mk (by omega) (by omega) (m_setTerms P2 I.rs w i1 i2 i3) fun r h3 N3 q => ?_⟩
      obtain ⟨M', q⟩ := q
      rcases q with ⟨cq, g, e⟩ | ⟨cq, g, e⟩ | ⟨cq, g, e⟩
      · exfalso; omega
      · exfalso; omega
      · exact ⟨⟨_, e⟩, fin_B sp2 I.xi I.hl I.km ou2 (by omega) g⟩
  · refine L_setTerms (k1 := 1) (n1 := 6) (by omega) (by omega) sp.1 (x_setTerms0 sp i1 i2 i3 c0) (fun _ _ _ q => q.elim) (fun E h1 N1 q => ?_)
    obtain ⟨rfl, rfl, hN⟩ := q
    refine Or.inl ⟨rfl, JQ.bad I (c := 1) (by omega) sp rfl hN ou fun h2 sp2 P2 ou2 => MCT.mk (by omega) (by omega) (m_setTerms P2 I.rs w i1 i2 i3) fun r h3 N3 q => ?_⟩
    obtain ⟨M', q⟩ := q
    rcases q with ⟨cq, g, e⟩ | ⟨cq, g, e⟩ | ⟨cq, g, e⟩
    · exfalso; omega
    · exact ⟨⟨_, e⟩, fin_B sp2 I.xi I.hl I.km ou2 (by omega) g⟩
    · exfalso; omega
theorem jq_setNeed {a1 a2 a3 : Int} (I0 : INVt G h N t0) (i1 : InR a1) (i2 : InR a2) (i3 : InR a3) : CH G mL_setNeed [.ref (cB G), JV a1, JV a2, JV a3, .ref (cB G + 281)] h N 1 6 (JQ G mX11_setNeed [JV a1, JV a2, JV a3] false) := by
  obtain ⟨S, st, K, M, L, z, I, ou⟩ := I0
  have sp := I.sp
  have w := I.wf
  have tp := I.tp
  have wT := w.nT
  have wL := w.nL
  have nN := I.nN
  by_cases c0 : 0 ≤ a1 ∧ a1 < S 13 0 0
  · skip
    by_cases c1 : 0 ≤ a2 ∧ a2 < 4
    · skip
      by_cases c2 : 0 ≤ a3 ∧ a3 ≤ 9
      · skip
        obtain ⟨na1, rfl⟩ := Int.eq_ofNat_of_zero_le (c0.1)
        obtain ⟨na2, rfl⟩ := Int.eq_ofNat_of_zero_le (c1.1)
        refine L_setNeed (k1 := 0) (n1 := 0) (by omega) (by omega) sp.1 (CT.cx (X := noX) (c_setNeed (t := na1) (c := na2) sp (by omega) (by omega) c2)) (fun r h1 N1 q => ?_) (fun _ _ _ q => False.elim q)
        obtain ⟨rfl, rfl, S1, sp1, rfl⟩ := q
        refine ⟨_, rfl, JQ.good I ou sp1 rfl (fun q => by cases q) fun h2 sp2 P2 ou2 => MCT.mk (by omega) (by omega) (m_setNeed P2 I.rs w i1 i2 i3) fun r h3 N3 q => ?_⟩
        obtain ⟨M', q⟩ := q
        rcases q with ⟨cq, g, e⟩ | ⟨cq, g, e⟩ | ⟨cq, g, e⟩
        · try simp only [Int.toNat_natCast] at g e
          exact ⟨e, fin_G sp2 (I.xi.same (by funext i j; simp [su]) (by funext i j; simp [su]) (by funext i j; simp [su])) I.km (by simp [su]) ou2 I.nN g⟩
        · exfalso; omega
        · exfalso; omega
      · refine L_setNeed (k1 := 1) (n1 := 6) (by omega) (by omega) sp.1 (x_setNeed2 sp i1 i2 i3 c0 c1 c2) (fun _ _ _ q => q.elim) (fun E h1 N1 q => ?_)
        obtain ⟨rfl, rfl, hN⟩ := q
        refine Or.inr ⟨rfl, JQ.bad I (c := 2) (by omega) sp rfl hN ou fun h2 sp2 P2 ou2 => MCT.mk (by omega) (by omega) (m_setNeed P2 I.rs w i1 i2 i3) fun r h3 N3 q => ?_⟩
        obtain ⟨M', q⟩ := q
        rcases q with ⟨cq, g, e⟩ | ⟨cq, g, e⟩ | ⟨cq, g, e⟩
        · exfalso; omega
        · exfalso; omega
        · exact ⟨⟨_, e⟩, fin_B sp2 I.xi I.hl I.km ou2 (by omega) g⟩
    · refine L_setNeed (k1 := 1) (n1 := 6) (by omega) (by omega) sp.1 (x_setNeed1 sp i1 i2 i3 c0 c1) (fun _ _ _ q => q.elim) (fun E h1 N1 q => ?_)
      obtain ⟨rfl, rfl, hN⟩ := q
      refine Or.inl ⟨rfl, JQ.bad I (c := 1) (by omega) sp rfl hN ou fun h2 sp2 P2 ou2 => MCT.mk (by omega) (by omega) (m_setNeed P2 I.rs w i1 i2 i3) fun r h3 N3 q => ?_⟩
      obtain ⟨M', q⟩ := q
      rcases q with ⟨cq, g, e⟩ | ⟨cq, g, e⟩ | ⟨cq, g, e⟩
      · exfalso; omega
      · exact ⟨⟨_, e⟩, fin_B sp2 I.xi I.hl I.km ou2 (by omega) g⟩
      · exfalso; omega
  · refine L_setNeed (k1 := 1) (n1 := 6) (by omega) (by omega) sp.1 (x_setNeed0 sp i1 i2 i3 c0) (fun _ _ _ q => q.elim) (fun E h1 N1 q => ?_)
    obtain ⟨rfl, rfl, hN⟩ := q
    refine Or.inl ⟨rfl, JQ.bad I (c := 1) (by omega) sp rfl hN ou fun h2 sp2 P2 ou2 => MCT.mk (by omega) (by omega) (m_setNeed P2 I.rs w i1 i2 i3) fun r h3 N3 q => ?_⟩
    obtain ⟨M', q⟩ := q
    rcases q with ⟨cq, g, e⟩ | ⟨cq, g, e⟩ | ⟨cq, g, e⟩
    · exfalso; omega
    · exact ⟨⟨_, e⟩, fin_B sp2 I.xi I.hl I.km ou2 (by omega) g⟩
    · exfalso; omega
theorem jq_addTask {a1 a2 : Int} (I0 : INVt G h N t0) (i1 : InR a1) (i2 : InR a2) : CH G mL_addTask [.ref (cB G), JV a1, JV a2, .ref (cB G + 281)] h N 1 6 (JQ G mX11_addTask [JV a1, JV a2] false) := by
  obtain ⟨S, st, K, M, L, z, I, ou⟩ := I0
  have sp := I.sp
  have w := I.wf
  have tp := I.tp
  have wT := w.nT
  have wL := w.nL
  have nN := I.nN
  by_cases c0 : 0 ≤ a2 ∧ a2 < 4
  · skip
    by_cases c1 : 0 ≤ a1 ∧ a1 ≤ 20
    · skip
      by_cases c2 : S 13 0 0 < 24
      · skip
        obtain ⟨na2, rfl⟩ := Int.eq_ofNat_of_zero_le (c0.1)
        refine L_addTask (k1 := 0) (n1 := 0) (by omega) (by omega) sp.1 (CT.cx (X := noX) (c_addTask (t := na2) sp (by omega) c1 c2)) (fun r h1 N1 q => ?_) (fun _ _ _ q => False.elim q)
        obtain ⟨rfl, rfl, S1, sp1, e0, e13, e5, e6, e16⟩ := q
        refine ⟨_, rfl, JQ.good I ou sp1 rfl (fun q => by cases q) fun h2 sp2 P2 ou2 => MCT.mk (by omega) (by omega) (m_addTask P2 I.rs w i1 i2) fun r h3 N3 q => ?_⟩
        obtain ⟨M', q⟩ := q
        rcases q with ⟨cq, g, e⟩ | ⟨cq, g, e⟩ | ⟨cq, g, e⟩ | ⟨cq, g, e⟩
        · have r9 : RS S1 M' := RS_cg g.2.2.2.1 (fun f f5 f6 f13 f16 => by rw [e0 f f5 f6 f13 f16, su_f f13, su_f f6, su_f f5]) (by rw [e13]; simp [su]) (fun i => by rw [e5]; simp [su]) (fun i => by rw [e6]; simp [su])
          exact ⟨e, fin_G sp2 (I.xi.same (e0 1 (by decide) (by decide) (by decide) (by decide)) (e0 2 (by decide) (by decide) (by decide) (by decide)) (e0 18 (by decide) (by decide) (by decide) (by decide))) I.km (by rw [e13]; omega) ou2 I.nN ⟨g.1, g.2.1, g.2.2.1, r9, g.2.2.2.2⟩⟩
        · exfalso; omega
        · exfalso; omega
        · exfalso; omega
      · refine L_addTask (k1 := 1) (n1 := 6) (by omega) (by omega) sp.1 (x_addTask2 sp i1 i2 c0 c1 c2) (fun _ _ _ q => q.elim) (fun E h1 N1 q => ?_)
        obtain ⟨rfl, rfl, hN⟩ := q
        refine Or.inr (Or.inr ⟨rfl, JQ.bad I (c := 3) (by omega) sp rfl hN ou fun h2 sp2 P2 ou2 => MCT.mk (by omega) (by omega) (m_addTask P2 I.rs w i1 i2) fun r h3 N3 q => ?_⟩)
        obtain ⟨M', q⟩ := q
        rcases q with ⟨cq, g, e⟩ | ⟨cq, g, e⟩ | ⟨cq, g, e⟩ | ⟨cq, g, e⟩
        · exfalso; omega
        · exfalso; omega
        · exfalso; omega
        · exact ⟨⟨_, e⟩, fin_B sp2 I.xi I.hl I.km ou2 (by omega) g⟩
    · refine L_addTask (k1 := 1) (n1 := 6) (by omega) (by omega) sp.1 (x_addTask1 sp i1 i2 c0 c1) (fun _ _ _ q => q.elim) (fun E h1 N1 q => ?_)
      obtain ⟨rfl, rfl, hN⟩ := q
      refine Or.inr (Or.inl ⟨rfl, JQ.bad I (c := 2) (by omega) sp rfl hN ou fun h2 sp2 P2 ou2 => MCT.mk (by omega) (by omega) (m_addTask P2 I.rs w i1 i2) fun r h3 N3 q => ?_⟩)
      obtain ⟨M', q⟩ := q
      rcases q with ⟨cq, g, e⟩ | ⟨cq, g, e⟩ | ⟨cq, g, e⟩ | ⟨cq, g, e⟩
      · exfalso; omega
      · exfalso; omega
      · exact ⟨⟨_, e⟩, fin_B sp2 I.xi I.hl I.km ou2 (by omega) g⟩
      · exfalso; omega
  · refine L_addTask (k1 := 1) (n1 := 6) (by omega) (by omega) sp.1 (x_addTask0 sp i1 i2 c0) (fun _ _ _ q => q.elim) (fun E h1 N1 q => ?_)
    obtain ⟨rfl, rfl, hN⟩ := q
    refine Or.inl ⟨rfl, JQ.bad I (c := 1) (by omega) sp rfl hN ou fun h2 sp2 P2 ou2 => MCT.mk (by omega) (by omega) (m_addTask P2 I.rs w i1 i2) fun r h3 N3 q => ?_⟩
    obtain ⟨M', q⟩ := q
    rcases q with ⟨cq, g, e⟩ | ⟨cq, g, e⟩ | ⟨cq, g, e⟩ | ⟨cq, g, e⟩
    · exfalso; omega
    · exact ⟨⟨_, e⟩, fin_B sp2 I.xi I.hl I.km ou2 (by omega) g⟩
    · exfalso; omega
    · exfalso; omega
theorem jq_finish {a1 a2 a3 : Int} (I0 : INVt G h N t0) (i1 : InR a1) (i2 : InR a2) (i3 : InR a3) : CH G mL_finish [.ref (cB G), JV a1, JV a2, JV a3, .ref (cB G + 281)] h N 1 6 (JQ G mX11_finish [JV a1, JV a2, JV a3] true) := by
  obtain ⟨S, st, K, M, L, z, I, ou⟩ := I0
  have sp := I.sp
  have w := I.wf
  have tp := I.tp
  have wT := w.nT
  have wL := w.nL
  have nN := I.nN
  by_cases c0 : 0 ≤ a1 ∧ a1 < S 13 0 0
  · skip
    by_cases c1 : (0 ≤ a2 ∧ a2 ≤ 999) ∧ (0 ≤ a3 ∧ a3 ≤ 999) ∧ a2 ≤ a3
    · skip
      obtain ⟨na1, rfl⟩ := Int.eq_ofNat_of_zero_le (c0.1)
      refine L_finish (k1 := 0) (n1 := 0) (by omega) (by omega) sp.1 (CT.cx (X := noX) (c_finish (t := na1) sp (by omega) c1.1 c1.2.1 c1.2.2)) (fun r h1 N1 q => ?_) (fun _ _ _ q => False.elim q)
      obtain ⟨rfl, rfl, S1, sp1, rfl⟩ := q
      have hv : S 9 na1 0 = 0 ∨ S 9 na1 0 = 1 := (w.task (by omega)).2.2.2.2.1
      refine ⟨_, rfl, hv, JQ.good I ou sp1 rfl (fun _ => hv) fun h2 sp2 P2 ou2 => MCT.mk (by omega) (by omega) (m_finish P2 I.rs w i1 i2 i3) fun r h3 N3 q => ?_⟩
      obtain ⟨M', q⟩ := q
      rcases q with ⟨cq, g, e⟩ | ⟨cq, g, e⟩ | ⟨cq, g, e⟩
      · try simp only [Int.toNat_natCast] at g e
        exact ⟨e, fin_G sp2 (I.xi.same (by funext i j; simp [su]) (by funext i j; simp [su]) (by funext i j; simp [su])) I.km (by simp [su]) ou2 I.nN g⟩
      · exfalso; omega
      · exfalso; omega
    · refine L_finish (k1 := 1) (n1 := 6) (by omega) (by omega) sp.1 (x_finish1 sp i1 i2 i3 c0 c1) (fun _ _ _ q => q.elim) (fun E h1 N1 q => ?_)
      obtain ⟨rfl, rfl, hN⟩ := q
      refine Or.inr ⟨rfl, JQ.bad I (c := 2) (by omega) sp rfl hN ou fun h2 sp2 P2 ou2 => MCT.mk (by omega) (by omega) (m_finish P2 I.rs w i1 i2 i3) fun r h3 N3 q => ?_⟩
      obtain ⟨M', q⟩ := q
      rcases q with ⟨cq, g, e⟩ | ⟨cq, g, e⟩ | ⟨cq, g, e⟩
      · exfalso; omega
      · exfalso; omega
      · exact ⟨⟨_, e⟩, fin_B sp2 I.xi I.hl I.km ou2 (by omega) g⟩
  · refine L_finish (k1 := 1) (n1 := 6) (by omega) (by omega) sp.1 (x_finish0 sp i1 i2 i3 c0) (fun _ _ _ q => q.elim) (fun E h1 N1 q => ?_)
    obtain ⟨rfl, rfl, hN⟩ := q
    refine Or.inl ⟨rfl, JQ.bad I (c := 1) (by omega) sp rfl hN ou fun h2 sp2 P2 ou2 => MCT.mk (by omega) (by omega) (m_finish P2 I.rs w i1 i2 i3) fun r h3 N3 q => ?_⟩
    obtain ⟨M', q⟩ := q
    rcases q with ⟨cq, g, e⟩ | ⟨cq, g, e⟩ | ⟨cq, g, e⟩
    · exfalso; omega
    · exact ⟨⟨_, e⟩, fin_B sp2 I.xi I.hl I.km ou2 (by omega) g⟩
    · exfalso; omega
theorem jq_reopen {a1 : Int} (I0 : INVt G h N t0) (i1 : InR a1) : CH G mL_reopen [.ref (cB G), JV a1, .ref (cB G + 281)] h N 1 6 (JQ G mX11_reopen [JV a1] true) := by
  obtain ⟨S, st, K, M, L, z, I, ou⟩ := I0
  have sp := I.sp
  have w := I.wf
  have tp := I.tp
  have wT := w.nT
  have wL := w.nL
  have nN := I.nN
  by_cases c0 : 0 ≤ a1 ∧ a1 < S 13 0 0
  · skip
    obtain ⟨na1, rfl⟩ := Int.eq_ofNat_of_zero_le (c0.1)
    refine L_reopen (k1 := 0) (n1 := 0) (by omega) (by omega) sp.1 (CT.cx (X := noX) (c_reopen (t := na1) sp (by omega))) (fun r h1 N1 q => ?_) (fun _ _ _ q => False.elim q)
    obtain ⟨rfl, rfl, S1, sp1, rfl⟩ := q
    have hv : S 9 na1 0 = 0 ∨ S 9 na1 0 = 1 := (w.task (by omega)).2.2.2.2.1
    refine ⟨_, rfl, hv, JQ.good I ou sp1 rfl (fun _ => hv) fun h2 sp2 P2 ou2 => MCT.mk (by omega) (by omega) (m_reopen P2 I.rs w i1) fun r h3 N3 q => ?_⟩
    obtain ⟨M', q⟩ := q
    rcases q with ⟨cq, g, e⟩ | ⟨cq, g, e⟩
    · try simp only [Int.toNat_natCast] at g e
      exact ⟨e, fin_G sp2 (I.xi.same (by funext i j; simp [su]) (by funext i j; simp [su]) (by funext i j; simp [su])) I.km (by simp [su]) ou2 I.nN g⟩
    · exfalso; omega
  · refine L_reopen (k1 := 1) (n1 := 6) (by omega) (by omega) sp.1 (x_reopen0 sp i1 c0) (fun _ _ _ q => q.elim) (fun E h1 N1 q => ?_)
    obtain ⟨rfl, rfl, hN⟩ := q
    refine ⟨rfl, JQ.bad I (c := 1) (by omega) sp rfl hN ou fun h2 sp2 P2 ou2 => MCT.mk (by omega) (by omega) (m_reopen P2 I.rs w i1) fun r h3 N3 q => ?_⟩
    obtain ⟨M', q⟩ := q
    rcases q with ⟨cq, g, e⟩ | ⟨cq, g, e⟩
    · exfalso; omega
    · exact ⟨⟨_, e⟩, fin_B sp2 I.xi I.hl I.km ou2 (by omega) g⟩
theorem jq_setRule {a1 : Int} (I0 : INVt G h N t0) (i1 : InR a1) : CH G mL_setRule [.ref (cB G), JV a1, .ref (cB G + 281)] h N 1 6 (JQ G mX11_setRule [JV a1] false) := by
  obtain ⟨S, st, K, M, L, z, I, ou⟩ := I0
  have sp := I.sp
  have w := I.wf
  have tp := I.tp
  have wT := w.nT
  have wL := w.nL
  have nN := I.nN
  by_cases c0 : 0 ≤ a1 ∧ a1 ≤ 3
  · skip
    refine L_setRule (k1 := 0) (n1 := 0) (by omega) (by omega) sp.1 (CT.cx (X := noX) (c_setRule (t := 0) sp c0)) (fun r h1 N1 q => ?_) (fun _ _ _ q => False.elim q)
    obtain ⟨rfl, rfl, S1, sp1, rfl⟩ := q
    refine ⟨_, rfl, JQ.good I ou sp1 rfl (fun q => by cases q) fun h2 sp2 P2 ou2 => MCT.mk (by omega) (by omega) (m_setRule P2 I.rs w i1) fun r h3 N3 q => ?_⟩
    obtain ⟨M', q⟩ := q
    rcases q with ⟨cq, g, e⟩ | ⟨cq, g, e⟩
    · exact ⟨e, fin_G sp2 (I.xi.same (by funext i j; simp [su]) (by funext i j; simp [su]) (by funext i j; simp [su])) I.km (by simp [su]) ou2 I.nN g⟩
    · exfalso; omega
  · refine L_setRule (k1 := 1) (n1 := 6) (by omega) (by omega) sp.1 (x_setRule0 sp i1 c0) (fun _ _ _ q => q.elim) (fun E h1 N1 q => ?_)
    obtain ⟨rfl, rfl, hN⟩ := q
    refine ⟨rfl, JQ.bad I (c := 1) (by omega) sp rfl hN ou fun h2 sp2 P2 ou2 => MCT.mk (by omega) (by omega) (m_setRule P2 I.rs w i1) fun r h3 N3 q => ?_⟩
    obtain ⟨M', q⟩ := q
    rcases q with ⟨cq, g, e⟩ | ⟨cq, g, e⟩
    · exfalso; omega
    · exact ⟨⟨_, e⟩, fin_B sp2 I.xi I.hl I.km ou2 (by omega) g⟩
theorem jq_drop {a1 : Int} (I0 : INVt G h N t0) (i1 : InR a1) : CH G mL_drop [.ref (cB G), JV a1, .ref (cB G + 281)] h N 1 6 (JQ G mX11_drop [JV a1] false) := by
  obtain ⟨S, st, K, M, L, z, I, ou⟩ := I0
  have sp := I.sp
  have w := I.wf
  have tp := I.tp
  have wT := w.nT
  have wL := w.nL
  have nN := I.nN
  by_cases c0 : 0 ≤ a1 ∧ a1 < S 14 0 0
  · skip
    obtain ⟨na1, rfl⟩ := Int.eq_ofNat_of_zero_le (c0.1)
    refine L_drop (k1 := 0) (n1 := 0) (by omega) (by omega) sp.1 (CT.cx (X := noX) (c_drop (l := na1) (n := (S 14 0 0).toNat) sp (by omega) (by omega))) (fun r h1 N1 q => ?_) (fun _ _ _ q => False.elim q)
    obtain ⟨rfl, rfl, S1, sp1, e0, e14, e18⟩ := q
    refine ⟨_, rfl, JQ.good I ou sp1 rfl (fun q => by cases q) fun h2 sp2 P2 ou2 => MCT.mk (by omega) (by omega) (m_drop (S' := S1) P2 I.rs w i1 (fun _ => ⟨e0, e14, e18⟩)) fun r h3 N3 q => ?_⟩
    obtain ⟨M', L9, q⟩ := q
    rcases q with ⟨cq, g, e⟩ | ⟨cq, g, e⟩
    · have x9 : XI S1 := ⟨fun c hc => by rw [e0 1 (by decide) (by decide), e0 2 (by decide) (by decide)]; exact I.xi.1 c hc, fun i j hi hj hq => tkO_inj (l := na1) (n := (S 14 0 0).toNat) (by omega) (by omega) I.xi.2 i j hi hj (by rw [e18, e18] at hq; exact hq)⟩
      exact ⟨by rw [e, e14], fin_G sp2 x9 I.km (by rw [e0 13 (by decide) (by decide)]; exact Int.le_refl _) ou2 I.nN g⟩
    · exfalso; omega
  · refine L_drop (k1 := 1) (n1 := 6) (by omega) (by omega) sp.1 (x_drop0 sp i1 c0) (fun _ _ _ q => q.elim) (fun E h1 N1 q => ?_)
    obtain ⟨rfl, rfl, hN⟩ := q
    refine ⟨rfl, JQ.bad I (c := 1) (by omega) sp rfl hN ou fun h2 sp2 P2 ou2 => MCT.mk (by omega) (by omega) (m_drop (S' := S) P2 I.rs w i1 (fun q => absurd q c0)) fun r h3 N3 q => ?_⟩
    obtain ⟨M', L9, q⟩ := q
    rcases q with ⟨cq, g, e⟩ | ⟨cq, g, e⟩
    · exfalso; omega
    · exact ⟨⟨_, e⟩, fin_B sp2 I.xi I.hl I.km ou2 (by omega) g⟩
theorem jq_works {a1 a2 : Int} (I0 : INVt G h N t0) (i1 : InR a1) (i2 : InR a2) : CH G mL_works [.ref (cB G), JV a1, JV a2, .ref (cB G + 281)] h N 1 6 (JQ G mX11_works [JV a1, JV a2] true) := by
  obtain ⟨S, st, K, M, L, z, I, ou⟩ := I0
  have sp := I.sp
  have w := I.wf
  have tp := I.tp
  have wT := w.nT
  have wL := w.nL
  have nN := I.nN
  by_cases c0 : 0 ≤ a1 ∧ a1 < 4
  · skip
    by_cases c1 : 0 ≤ a2 ∧ a2 ≤ 9999
    · skip
      obtain ⟨na1, rfl⟩ := Int.eq_ofNat_of_zero_le (c0.1)
      obtain ⟨na2, rfl⟩ := Int.eq_ofNat_of_zero_le (c1.1)
      refine L_works (k1 := 0) (n1 := 0) (by omega) (by omega) sp.1 (CT.cx (X := noX) (c_works sp (t := na1) (d := na2) (by omega) (by omega))) (fun r h1 N1 q => ?_) (fun _ _ _ q => False.elim q)
      obtain ⟨rfl, rfl, rfl⟩ := q
      have hv := bI_01 (wkS S na1 na2)
      refine ⟨_, rfl, hv, JQ.good I ou sp rfl (fun _ => hv) fun h2 sp2 P2 ou2 => MCT.mk (by omega) (by omega) (m_works P2 I.rs w i1 i2) fun r h3 N3 q => ?_⟩
      obtain ⟨M', q⟩ := q
      rcases q with ⟨cq, g, e⟩ | ⟨cq, g, e⟩ | ⟨cq, g, e⟩
      · exact ⟨e, fin_B sp2 I.xi I.hl I.km ou2 I.nN g⟩
      · exfalso; omega
      · exfalso; omega
    · refine L_works (k1 := 1) (n1 := 6) (by omega) (by omega) sp.1 (x_works1 sp i1 i2 c0 c1) (fun _ _ _ q => q.elim) (fun E h1 N1 q => ?_)
      obtain ⟨rfl, rfl, hN⟩ := q
      refine Or.inr ⟨rfl, JQ.bad I (c := 2) (by omega) sp rfl hN ou fun h2 sp2 P2 ou2 => MCT.mk (by omega) (by omega) (m_works P2 I.rs w i1 i2) fun r h3 N3 q => ?_⟩
      obtain ⟨M', q⟩ := q
      rcases q with ⟨cq, g, e⟩ | ⟨cq, g, e⟩ | ⟨cq, g, e⟩
      · exfalso; omega
      · exfalso; omega
      · exact ⟨⟨_, e⟩, fin_B sp2 I.xi I.hl I.km ou2 (by omega) g⟩
  · refine L_works (k1 := 1) (n1 := 6) (by omega) (by omega) sp.1 (x_works0 sp i1 i2 c0) (fun _ _ _ q => q.elim) (fun E h1 N1 q => ?_)
    obtain ⟨rfl, rfl, hN⟩ := q
    refine Or.inl ⟨rfl, JQ.bad I (c := 1) (by omega) sp rfl hN ou fun h2 sp2 P2 ou2 => MCT.mk (by omega) (by omega) (m_works P2 I.rs w i1 i2) fun r h3 N3 q => ?_⟩
    obtain ⟨M', q⟩ := q
    rcases q with ⟨cq, g, e⟩ | ⟨cq, g, e⟩ | ⟨cq, g, e⟩
    · exfalso; omega
    · exact ⟨⟨_, e⟩, fin_B sp2 I.xi I.hl I.km ou2 (by omega) g⟩
    · exfalso; omega
theorem jq_earlyBegin {a1 : Int} (I0 : INVt G h N t0) (i1 : InR a1) : CH G mL_earlyBegin [.ref (cB G), JV a1, .ref (cB G + 281)] h N 1 6 (JQ G mX11_earlyBegin [JV a1] false) := by
  obtain ⟨S, st, K, M, L, z, I, ou⟩ := I0
  have sp := I.sp
  have w := I.wf
  have tp := I.tp
  have wT := w.nT
  have wL := w.nL
  have nN := I.nN
  by_cases c0 : 0 ≤ a1 ∧ a1 < S 13 0 0
  · skip
    obtain ⟨na1, rfl⟩ := Int.eq_ofNat_of_zero_le (c0.1)
    refine L_earlyBegin (k1 := 0) (n1 := 0) (by omega) (by omega) sp.1 (CT.cx (X := noX) (c_earlyBegin (t := na1) sp (by omega))) (fun r h1 N1 q => ?_) (fun _ _ _ q => False.elim q)
    obtain ⟨rfl, sp1, v, rfl, eb, ee, lb, le, rm, ld, od, fv, rfl⟩ := q
    refine ⟨_, rfl, JQ.good I ou sp1 rfl (fun q => by cases q) fun h2 sp2 P2 ou2 => MCT.mk (by omega) (by omega) (m_earlyBegin P2 I.rs w tp I.hl i1) fun r h3 N3 q => ?_⟩
    obtain ⟨M', g, e⟩ := q
    rw [if_pos c0] at g e
    have q := (fv.same tp g.2.2.2.2.2.2.1).1 na1 (by omega)
    exact ⟨by rw [e]; exact congrArg (fun x : Int => some (JV x)) (q.1.1).symm, fin_E sp2 I.xi I.km ou2 I.nN g⟩
  · refine L_earlyBegin (k1 := 1) (n1 := 6) (by omega) (by omega) sp.1 (x_earlyBegin0 sp i1 c0) (fun _ _ _ q => q.elim) (fun E h1 N1 q => ?_)
    obtain ⟨rfl, rfl, hN⟩ := q
    refine ⟨rfl, JQ.bad I (c := 1) (by omega) sp rfl hN ou fun h2 sp2 P2 ou2 => MCT.mk (by omega) (by omega) (m_earlyBegin P2 I.rs w tp I.hl i1) fun r h3 N3 q => ?_⟩
    obtain ⟨M', g, e⟩ := q
    rw [if_neg c0] at g e
    exact ⟨⟨_, e⟩, fin_E sp2 I.xi I.km ou2 (by omega) g⟩
theorem jq_earlyEnd {a1 : Int} (I0 : INVt G h N t0) (i1 : InR a1) : CH G mL_earlyEnd [.ref (cB G), JV a1, .ref (cB G + 281)] h N 1 6 (JQ G mX11_earlyEnd [JV a1] false) := by
  obtain ⟨S, st, K, M, L, z, I, ou⟩ := I0
  have sp := I.sp
  have w := I.wf
  have tp := I.tp
  have wT := w.nT
  have wL := w.nL
  have nN := I.nN
  by_cases c0 : 0 ≤ a1 ∧ a1 < S 13 0 0
  · skip
    obtain ⟨na1, rfl⟩ := Int.eq_ofNat_of_zero_le (c0.1)
    refine L_earlyEnd (k1 := 0) (n1 := 0) (by omega) (by omega) sp.1 (CT.cx (X := noX) (c_earlyEnd (t := na1) sp (by omega))) (fun r h1 N1 q => ?_) (fun _ _ _ q => False.elim q)
    obtain ⟨rfl, sp1, v, rfl, eb, ee, lb, le, rm, ld, od, fv, rfl⟩ := q
    refine ⟨_, rfl, JQ.good I ou sp1 rfl (fun q => by cases q) fun h2 sp2 P2 ou2 => MCT.mk (by omega) (by omega) (m_earlyEnd P2 I.rs w tp I.hl i1) fun r h3 N3 q => ?_⟩
    obtain ⟨M', g, e⟩ := q
    rw [if_pos c0] at g e
    have q := (fv.same tp g.2.2.2.2.2.2.1).1 na1 (by omega)
    exact ⟨by rw [e]; exact congrArg (fun x : Int => some (JV x)) (q.1.2).symm, fin_E sp2 I.xi I.km ou2 I.nN g⟩
  · refine L_earlyEnd (k1 := 1) (n1 := 6) (by omega) (by omega) sp.1 (x_earlyEnd0 sp i1 c0) (fun _ _ _ q => q.elim) (fun E h1 N1 q => ?_)
    obtain ⟨rfl, rfl, hN⟩ := q
    refine ⟨rfl, JQ.bad I (c := 1) (by omega) sp rfl hN ou fun h2 sp2 P2 ou2 => MCT.mk (by omega) (by omega) (m_earlyEnd P2 I.rs w tp I.hl i1) fun r h3 N3 q => ?_⟩
    obtain ⟨M', g, e⟩ := q
    rw [if_neg c0] at g e
    exact ⟨⟨_, e⟩, fin_E sp2 I.xi I.km ou2 (by omega) g⟩
theorem jq_lateBegin {a1 : Int} (I0 : INVt G h N t0) (i1 : InR a1) : CH G mL_lateBegin [.ref (cB G), JV a1, .ref (cB G + 281)] h N 1 6 (JQ G mX11_lateBegin [JV a1] false) := by
  obtain ⟨S, st, K, M, L, z, I, ou⟩ := I0
  have sp := I.sp
  have w := I.wf
  have tp := I.tp
  have wT := w.nT
  have wL := w.nL
  have nN := I.nN
  by_cases c0 : 0 ≤ a1 ∧ a1 < S 13 0 0
  · skip
    obtain ⟨na1, rfl⟩ := Int.eq_ofNat_of_zero_le (c0.1)
    refine L_lateBegin (k1 := 0) (n1 := 0) (by omega) (by omega) sp.1 (CT.cx (X := noX) (c_lateBegin (t := na1) sp (by omega))) (fun r h1 N1 q => ?_) (fun _ _ _ q => False.elim q)
    obtain ⟨rfl, sp1, v, rfl, eb, ee, lb, le, rm, ld, od, fv, rfl⟩ := q
    refine ⟨_, rfl, JQ.good I ou sp1 rfl (fun q => by cases q) fun h2 sp2 P2 ou2 => MCT.mk (by omega) (by omega) (m_lateBegin P2 I.rs w tp I.hl i1) fun r h3 N3 q => ?_⟩
    obtain ⟨M', g, e⟩ := q
    rw [if_pos c0] at g e
    have q := (fv.same tp g.2.2.2.2.2.2.1).1 na1 (by omega)
    exact ⟨by rw [e]; exact congrArg (fun x : Int => some (JV x)) (q.2.1).symm, fin_E sp2 I.xi I.km ou2 I.nN g⟩
  · refine L_lateBegin (k1 := 1) (n1 := 6) (by omega) (by omega) sp.1 (x_lateBegin0 sp i1 c0) (fun _ _ _ q => q.elim) (fun E h1 N1 q => ?_)
    obtain ⟨rfl, rfl, hN⟩ := q
    refine ⟨rfl, JQ.bad I (c := 1) (by omega) sp rfl hN ou fun h2 sp2 P2 ou2 => MCT.mk (by omega) (by omega) (m_lateBegin P2 I.rs w tp I.hl i1) fun r h3 N3 q => ?_⟩
    obtain ⟨M', g, e⟩ := q
    rw [if_neg c0] at g e
    exact ⟨⟨_, e⟩, fin_E sp2 I.xi I.km ou2 (by omega) g⟩
theorem jq_lateEnd {a1 : Int} (I0 : INVt G h N t0) (i1 : InR a1) : CH G mL_lateEnd [.ref (cB G), JV a1, .ref (cB G + 281)] h N 1 6 (JQ G mX11_lateEnd [JV a1] false) := by
  obtain ⟨S, st, K, M, L, z, I, ou⟩ := I0
  have sp := I.sp
  have w := I.wf
  have tp := I.tp
  have wT := w.nT
  have wL := w.nL
  have nN := I.nN
  by_cases c0 : 0 ≤ a1 ∧ a1 < S 13 0 0
  · skip
    obtain ⟨na1, rfl⟩ := Int.eq_ofNat_of_zero_le (c0.1)
    refine L_lateEnd (k1 := 0) (n1 := 0) (by omega) (by omega) sp.1 (CT.cx (X := noX) (c_lateEnd (t := na1) sp (by omega))) (fun r h1 N1 q => ?_) (fun _ _ _ q => False.elim q)
    obtain ⟨rfl, sp1, v, rfl, eb, ee, lb, le, rm, ld, od, fv, rfl⟩ := q
    refine ⟨_, rfl, JQ.good I ou sp1 rfl (fun q => by cases q) fun h2 sp2 P2 ou2 => MCT.mk (by omega) (by omega) (m_lateEnd P2 I.rs w tp I.hl i1) fun r h3 N3 q => ?_⟩
    obtain ⟨M', g, e⟩ := q
    rw [if_pos c0] at g e
    have q := (fv.same tp g.2.2.2.2.2.2.1).1 na1 (by omega)
    exact ⟨by rw [e]; exact congrArg (fun x : Int => some (JV x)) (q.2.2.1).symm, fin_E sp2 I.xi I.km ou2 I.nN g⟩
  · refine L_lateEnd (k1 := 1) (n1 := 6) (by omega) (by omega) sp.1 (x_lateEnd0 sp i1 c0) (fun _ _ _ q => q.elim) (fun E h1 N1 q => ?_)
    obtain ⟨rfl, rfl, hN⟩ := q
    refine ⟨rfl, JQ.bad I (c := 1) (by omega) sp rfl hN ou fun h2 sp2 P2 ou2 => MCT.mk (by omega) (by omega) (m_lateEnd P2 I.rs w tp I.hl i1) fun r h3 N3 q => ?_⟩
    obtain ⟨M', g, e⟩ := q
    rw [if_neg c0] at g e
    exact ⟨⟨_, e⟩, fin_E sp2 I.xi I.km ou2 (by omega) g⟩
theorem jq_room {a1 : Int} (I0 : INVt G h N t0) (i1 : InR a1) : CH G mL_room [.ref (cB G), JV a1, .ref (cB G + 281)] h N 1 6 (JQ G mX11_room [JV a1] false) := by
  obtain ⟨S, st, K, M, L, z, I, ou⟩ := I0
  have sp := I.sp
  have w := I.wf
  have tp := I.tp
  have wT := w.nT
  have wL := w.nL
  have nN := I.nN
  by_cases c0 : 0 ≤ a1 ∧ a1 < S 13 0 0
  · skip
    obtain ⟨na1, rfl⟩ := Int.eq_ofNat_of_zero_le (c0.1)
    refine L_room (k1 := 0) (n1 := 0) (by omega) (by omega) sp.1 (CT.cx (X := noX) (c_room (t := na1) sp (by omega))) (fun r h1 N1 q => ?_) (fun _ _ _ q => False.elim q)
    obtain ⟨rfl, sp1, v, rfl, eb, ee, lb, le, rm, ld, od, fv, rfl⟩ := q
    refine ⟨_, rfl, JQ.good I ou sp1 rfl (fun q => by cases q) fun h2 sp2 P2 ou2 => MCT.mk (by omega) (by omega) (m_room P2 I.rs w tp I.hl i1) fun r h3 N3 q => ?_⟩
    obtain ⟨M', g, e⟩ := q
    rw [if_pos c0] at g e
    have q := (fv.same tp g.2.2.2.2.2.2.1).1 na1 (by omega)
    exact ⟨by rw [e]; exact congrArg (fun x : Int => some (JV x)) (q.2.2.2).symm, fin_E sp2 I.xi I.km ou2 I.nN g⟩
  · refine L_room (k1 := 1) (n1 := 6) (by omega) (by omega) sp.1 (x_room0 sp i1 c0) (fun _ _ _ q => q.elim) (fun E h1 N1 q => ?_)
    obtain ⟨rfl, rfl, hN⟩ := q
    refine ⟨rfl, JQ.bad I (c := 1) (by omega) sp rfl hN ou fun h2 sp2 P2 ou2 => MCT.mk (by omega) (by omega) (m_room P2 I.rs w tp I.hl i1) fun r h3 N3 q => ?_⟩
    obtain ⟨M', g, e⟩ := q
    rw [if_neg c0] at g e
    exact ⟨⟨_, e⟩, fin_E sp2 I.xi I.km ou2 (by omega) g⟩
theorem jq_begin {a1 : Int} (I0 : INVt G h N t0) (i1 : InR a1) : CH G mL_begin [.ref (cB G), JV a1, .ref (cB G + 281)] h N 1 6 (JQ G mX11_begin [JV a1] false) := by
  obtain ⟨S, st, K, M, L, z, I, ou⟩ := I0
  have sp := I.sp
  have w := I.wf
  have tp := I.tp
  have wT := w.nT
  have wL := w.nL
  have nN := I.nN
  by_cases c0 : 0 ≤ a1 ∧ a1 < S 13 0 0
  · skip
    obtain ⟨na1, rfl⟩ := Int.eq_ofNat_of_zero_le (c0.1)
    refine L_begin (k1 := 0) (n1 := 0) (by omega) (by omega) sp.1 (CT.cx (X := noX) (c_begin (t := na1) sp (by omega))) (fun r h1 N1 q => ?_) (fun _ _ _ q => False.elim q)
    obtain ⟨rfl, sp1, v, rfl, eb, ee, lb, le, rm, ld, od, fv, rfl⟩ := q
    refine ⟨_, rfl, JQ.good I ou sp1 rfl (fun q => by cases q) fun h2 sp2 P2 ou2 => MCT.mk (by omega) (by omega) (m_begin P2 I.rs w tp I.hl i1) fun r h3 N3 q => ?_⟩
    obtain ⟨M', g, e⟩ := q
    rw [if_pos c0] at g e
    have la := g.2.2.2.2.2.2.1
    obtain ⟨od9, ml⟩ := la.2.2.2
    have lq := fv.leq w tp la od9
    exact ⟨by rw [e]; exact congrArg (fun x : Int => some (JV x)) (((ml.1 na1 (by omega)).1).trans (congrFun lq.1 na1).symm), fin_E sp2 I.xi I.km ou2 I.nN g⟩
  · refine L_begin (k1 := 1) (n1 := 6) (by omega) (by omega) sp.1 (x_begin0 sp i1 c0) (fun _ _ _ q => q.elim) (fun E h1 N1 q => ?_)
    obtain ⟨rfl, rfl, hN⟩ := q
    refine ⟨rfl, JQ.bad I (c := 1) (by omega) sp rfl hN ou fun h2 sp2 P2 ou2 => MCT.mk (by omega) (by omega) (m_begin P2 I.rs w tp I.hl i1) fun r h3 N3 q => ?_⟩
    obtain ⟨M', g, e⟩ := q
    rw [if_neg c0] at g e
    exact ⟨⟨_, e⟩, fin_E sp2 I.xi I.km ou2 (by omega) g⟩
theorem jq_end {a1 : Int} (I0 : INVt G h N t0) (i1 : InR a1) : CH G mL_end [.ref (cB G), JV a1, .ref (cB G + 281)] h N 1 6 (JQ G mX11_end [JV a1] false) := by
  obtain ⟨S, st, K, M, L, z, I, ou⟩ := I0
  have sp := I.sp
  have w := I.wf
  have tp := I.tp
  have wT := w.nT
  have wL := w.nL
  have nN := I.nN
  by_cases c0 : 0 ≤ a1 ∧ a1 < S 13 0 0
  · skip
    obtain ⟨na1, rfl⟩ := Int.eq_ofNat_of_zero_le (c0.1)
    refine L_end (k1 := 0) (n1 := 0) (by omega) (by omega) sp.1 (CT.cx (X := noX) (c_end (t := na1) sp (by omega))) (fun r h1 N1 q => ?_) (fun _ _ _ q => False.elim q)
    obtain ⟨rfl, sp1, v, rfl, eb, ee, lb, le, rm, ld, od, fv, rfl⟩ := q
    refine ⟨_, rfl, JQ.good I ou sp1 rfl (fun q => by cases q) fun h2 sp2 P2 ou2 => MCT.mk (by omega) (by omega) (m_end P2 I.rs w tp I.hl i1) fun r h3 N3 q => ?_⟩
    obtain ⟨M', g, e⟩ := q
    rw [if_pos c0] at g e
    have la := g.2.2.2.2.2.2.1
    obtain ⟨od9, ml⟩ := la.2.2.2
    have lq := fv.leq w tp la od9
    exact ⟨by rw [e]; exact congrArg (fun x : Int => some (JV x)) (((ml.1 na1 (by omega)).2).trans (congrFun lq.2.1 na1).symm), fin_E sp2 I.xi I.km ou2 I.nN g⟩
  · refine L_end (k1 := 1) (n1 := 6) (by omega) (by omega) sp.1 (x_end0 sp i1 c0) (fun _ _ _ q => q.elim) (fun E h1 N1 q => ?_)
    obtain ⟨rfl, rfl, hN⟩ := q
    refine ⟨rfl, JQ.bad I (c := 1) (by omega) sp rfl hN ou fun h2 sp2 P2 ou2 => MCT.mk (by omega) (by omega) (m_end P2 I.rs w tp I.hl i1) fun r h3 N3 q => ?_⟩
    obtain ⟨M', g, e⟩ := q
    rw [if_neg c0] at g e
    exact ⟨⟨_, e⟩, fin_E sp2 I.xi I.km ou2 (by omega) g⟩
end Jq

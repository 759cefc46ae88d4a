/-! ===== the rest of the bad arguments: no more free days, no more links, a link that comes back, a place that is not ===== -/
section Bad2
variable {G : Ctx} {h : AH} {N : Nat} {S : ST} {st : Int} {K : KTup}
theorem FRESH.cg {S' : ST} (f : FRESH G h S) (e : ∀ f, f ≠ 17 → S' f = S f) : FRESH G h S' := by
  obtain ⟨eb, ee, lb, le, rm, ld, wu, od, u, W, pb, ⟨e1, e2, e3⟩, ⟨t1, t2⟩, ⟨d1, d2, d3⟩, V, li⟩ := f
  have cg : CGL S S' := fun f _ h17 => (e f h17).symm
  have e13 := e 13 (by decide)
  have e15 := e 15 (by decide)
  have eI : inT S' = inT S := by unfold inT; rw [e13]
  have eg : ldg S' = ldg S := (ldg_off cg).symm
  have ea : lvAll S' lb rm (S' 15 0 0) od = lvAll S lb rm (S 15 0 0) od := by rw [e15]; exact (lvAll_off cg).symm
  refine ⟨eb, ee, lb, le, rm, ld, wu, od, u, W, pb, ⟨EP_off cg.r e1, ?_, LDY_off cg.r e3⟩, ⟨LATE_off cg.r t1, ?_⟩, ⟨?_, d2, ?_⟩, ?_, ?_⟩
  · unfold RG; rw [e13]; exact e2
  · unfold RG; rw [e13]; exact t2
  · rw [eg, eI]; exact d1
  · rw [e13]; exact d3
  · rw [ea]; unfold LVS; rw [eg]; exact V
  · rw [ea]; exact li
/-- marks are set -/
theorem SPI.marks {S' : ST} {h' : AH} (sp : SPI G h S st K) (m : MKd G S h S' h') : SPI G h' S' st K := by
  obtain ⟨a, b, c, d, n, l, k, f, g⟩ := sp
  have fr : ∀ q, q ≠ cB G + 7 → h' q = h q := fun q hq => m.2.2.2 q (by omega)
  refine ⟨(fr _ (by omega)).trans a, m.1, m.wf c, d.same (m.2.1 13 (by decide)) (m.2.1 14 (by decide)) (m.2.1 16 (by decide)) (m.2.1 18 (by decide)) (m.2.1 19 (by decide)) (m.2.1 20 (by decide)), n.frame (fun q h1 h2 => fr q (by omega)), l.frame (fun q h1 h2 => fr q (by omega)), ⟨k.1.frame (fun q h1 h2 => fr q (by omega)), k.2⟩, ?_, fun q hq => (fr q (by omega)).trans (g q hq)⟩
  rcases f with ⟨f1, f2, f3, f4⟩ | ⟨f1, f2⟩
  · exact Or.inl ⟨f1, f2.frame (fun q h1 h2 => fr q (by omega)), f3.frame (fun q h1 h2 => fr q (by omega)), f4.frame (fun q h1 h2 => fr q (by omega))⟩
  · exact Or.inr ⟨f1, (f2.cg m.2.1).frame (fun q h1 h2 => fr q (by omega))⟩
theorem x_link3 (sp : SPI G h S st K) {t : Int} (ht : InR t) {y : Int} (hy : InR y) {x : Int} (hx : InR x) {z : Int} (hz : InR z) (ho : 0 ≤ t ∧ t < S 13 0 0) (ho2 : 0 ≤ y ∧ y < S 13 0 0) (ho3 : (0 ≤ x ∧ x ≤ 2) ∧ 0 ≤ z ∧ z ≤ 20) (hb : ¬ S 14 0 0 < 40) : CX G mX10_link [.ref (cB G), JV t, JV y, JV x, JV z] h N 1 6 (noQ) (XE x_ise h N) := by
  have hT := sp.2.2.1.nT
  have hL := sp.2.2.1.nL
  refine CX_of (by decide +kernel) rfl (by simp [Value.category]) (Nat.le_of_ble_eq_true rfl) ?_
  change WP G mX10_link _ _ _ _ h N 0 [some (.ref (cB G)), some (JV t), some (JV y), some (JV x), some (JV z)] []
  refine wp_aload_n dX10_link_0 rfl ?_
  refine wp_iload_n dX10_link_1 rfl ?_
  refine wp_v1 1 6 (c_checkTask (N := N) sp.1 sp.2.1 (by have := sp.2.2.1.nT; have := sp.2.2.1.nL; omega) (by omega) (by omega)) cvX10_114 dX10_link_2 ⟨Nat.le_of_ble_eq_true rfl, Nat.le_of_ble_eq_true rfl⟩ (Nat.le_of_ble_eq_true rfl) sp.1 rfl rfl (by omega) (by omega) (fun r h9 N9 hq => ?_)
  obtain ⟨rfl, hh9, hN9⟩ := hq
  rw [hN9]
  rw [hh9]
  change WP G mX10_link _ _ _ _ h N 5 [some (.ref (cB G)), some (JV t), some (JV y), some (JV x), some (JV z)] []
  refine wp_aload_n dX10_link_5 rfl ?_
  refine wp_iload_n dX10_link_6 rfl ?_
  refine wp_v1 1 6 (c_checkTask (N := N) sp.1 sp.2.1 (by have := sp.2.2.1.nT; have := sp.2.2.1.nL; omega) (by omega) (by omega)) cvX10_114 dX10_link_7 ⟨Nat.le_of_ble_eq_true rfl, Nat.le_of_ble_eq_true rfl⟩ (Nat.le_of_ble_eq_true rfl) sp.1 rfl rfl (by omega) (by omega) (fun r h9 N9 hq => ?_)
  obtain ⟨rfl, hh9, hN9⟩ := hq
  rw [hN9]
  rw [hh9]
  change WP G mX10_link _ _ _ _ h N 10 [some (.ref (cB G)), some (JV t), some (JV y), some (JV x), some (JV z)] []
  refine wp_iload_n dX10_link_10 rfl ?_
  refine wp_iconst dX10_link_11 ?_
  refine wp_s2p (c_isWithinR (N := N) hx ⟨by omega, by omega⟩) csX10_74 dX10_link_12 ⟨Nat.le_of_ble_eq_true rfl, Nat.le_of_ble_eq_true rfl⟩ (Nat.le_of_ble_eq_true rfl) ?_
  rw [show bI (decide (0 ≤ x ∧ x ≤ 2)) = 1 from bI_pp (by omega)]
  refine wp_if_eq 32 dX10_link_15 (by decide) ⟨by omega, by omega⟩ (fun c_15 => ?_) (fun c_15 => ?_)
  · exact absurd c_15 (by decide)
  · refine wp_iload dX10_link_18 rfl ?_
    refine wp_bipush dX10_link_20 rfl ?_
    refine wp_s2p (c_isWithinR (N := N) hz ⟨by omega, by omega⟩) csX10_74 dX10_link_22 ⟨Nat.le_of_ble_eq_true rfl, Nat.le_of_ble_eq_true rfl⟩ (Nat.le_of_ble_eq_true rfl) ?_
    rw [show bI (decide (0 ≤ z ∧ z ≤ 20)) = 1 from bI_pp (by omega)]
    refine wp_if_eq 32 dX10_link_25 (by decide) ⟨by omega, by omega⟩ (fun c_25 => ?_) (fun c_25 => ?_)
    · exact absurd c_25 (by decide)
    · refine wp_iconst dX10_link_28 ?_
      refine wp_goto 33 dX10_link_29 (by decide) ?_
      refine wp_s1 1 6 (c_checkArgument (N := N)) csX10_60 dX10_link_33 ⟨Nat.le_of_ble_eq_true rfl, Nat.le_of_ble_eq_true rfl⟩ (Nat.le_of_ble_eq_true rfl) (by omega) (by omega) (fun r h9 N9 hq => ?_)
      obtain ⟨rfl, hh9, hN9⟩ := hq
      rw [hN9]
      rw [hh9]
      change WP G mX10_link _ _ _ _ h N 36 [some (.ref (cB G)), some (JV t), some (JV y), some (JV x), some (JV z)] []
      refine wp_aload_n dX10_link_36 rfl ?_
      refine wp_get fkX10_10 dX10_link_37 sp.1 rfl ?_
      refine wp_get fkX10_136 dX10_link_40 sp.2.1.1 rfl ?_
      refine wp_bipush dX10_link_43 rfl ?_
      refine wp_icmp_ge 64 dX10_link_45 (by decide) ⟨by omega, by omega⟩ ⟨by omega, by omega⟩ (fun c_45 => ?_) (fun c_45 => ?_)
      · refine wp_iconst dX10_link_64 ?_
        refine wp_callSx (k2 := 0) (n2 := 0) (x_checkState (N := N)) csX10_85 dX10_link_65 ⟨Nat.le_of_ble_eq_true rfl, Nat.le_of_ble_eq_true rfl⟩ (Nat.le_of_ble_eq_true rfl) rfl rfl (by omega) (by omega) (fun r h9 N9 q => q.elim) (fun E h9 N9 q => ?_)
        obtain ⟨rfl, rfl, q⟩ := q
        exact VX_out rfl ⟨rfl, rfl, q⟩
      · exact absurd c_45 (by omega)

theorem x_link4 (sp : SPI G h S st K) {t : Int} (ht : InR t) {y : Int} (hy : InR y) {x : Int} (hx : InR x) {z : Int} (hz : InR z) (ho : 0 ≤ t ∧ t < S 13 0 0) (ho2 : 0 ≤ y ∧ y < S 13 0 0) (ho3 : (0 ≤ x ∧ x ≤ 2) ∧ 0 ≤ z ∧ z ≤ 20) (hn : S 14 0 0 < 40) (hr : Rch S y.toNat t.toNat) : CX G mX10_link [.ref (cB G), JV t, JV y, JV x, JV z] h N 1 6 (noQ) (fun E h' N' => E = x_ise ∧ N ≤ N' ∧ ∃ S', SPI G h' S' st K ∧ ∀ f, f ≠ 17 → S' f = S f) := by
  have hT := sp.2.2.1.nT
  have hL := sp.2.2.1.nL
  refine CX_of (by decide +kernel) rfl (by simp [Value.category]) (Nat.le_of_ble_eq_true rfl) ?_
  change WP G mX10_link _ _ _ _ h N 0 [some (.ref (cB G)), some (JV t), some (JV y), some (JV x), some (JV z)] []
  refine wp_aload_n dX10_link_0 rfl ?_
  refine wp_iload_n dX10_link_1 rfl ?_
  refine wp_v1 1 6 (c_checkTask (N := N) sp.1 sp.2.1 (by have := sp.2.2.1.nT; have := sp.2.2.1.nL; omega) (by omega) (by omega)) cvX10_114 dX10_link_2 ⟨Nat.le_of_ble_eq_true rfl, Nat.le_of_ble_eq_true rfl⟩ (Nat.le_of_ble_eq_true rfl) sp.1 rfl rfl (by omega) (by omega) (fun r h9 N9 hq => ?_)
  obtain ⟨rfl, hh9, hN9⟩ := hq
  rw [hN9]
  rw [hh9]
  change WP G mX10_link _ _ _ _ h N 5 [some (.ref (cB G)), some (JV t), some (JV y), some (JV x), some (JV z)] []
  refine wp_aload_n dX10_link_5 rfl ?_
  refine wp_iload_n dX10_link_6 rfl ?_
  refine wp_v1 1 6 (c_checkTask (N := N) sp.1 sp.2.1 (by have := sp.2.2.1.nT; have := sp.2.2.1.nL; omega) (by omega) (by omega)) cvX10_114 dX10_link_7 ⟨Nat.le_of_ble_eq_true rfl, Nat.le_of_ble_eq_true rfl⟩ (Nat.le_of_ble_eq_true rfl) sp.1 rfl rfl (by omega) (by omega) (fun r h9 N9 hq => ?_)
  obtain ⟨rfl, hh9, hN9⟩ := hq
  rw [hN9]
  rw [hh9]
  change WP G mX10_link _ _ _ _ h N 10 [some (.ref (cB G)), some (JV t), some (JV y), some (JV x), some (JV z)] []
  refine wp_iload_n dX10_link_10 rfl ?_
  refine wp_iconst dX10_link_11 ?_
  refine wp_s2p (c_isWithinR (N := N) hx ⟨by omega, by omega⟩) csX10_74 dX10_link_12 ⟨Nat.le_of_ble_eq_true rfl, Nat.le_of_ble_eq_true rfl⟩ (Nat.le_of_ble_eq_true rfl) ?_
  rw [show bI (decide (0 ≤ x ∧ x ≤ 2)) = 1 from bI_pp (by omega)]
  refine wp_if_eq 32 dX10_link_15 (by decide) ⟨by omega, by omega⟩ (fun c_15 => ?_) (fun c_15 => ?_)
  · exact absurd c_15 (by decide)
  · refine wp_iload dX10_link_18 rfl ?_
    refine wp_bipush dX10_link_20 rfl ?_
    refine wp_s2p (c_isWithinR (N := N) hz ⟨by omega, by omega⟩) csX10_74 dX10_link_22 ⟨Nat.le_of_ble_eq_true rfl, Nat.le_of_ble_eq_true rfl⟩ (Nat.le_of_ble_eq_true rfl) ?_
    rw [show bI (decide (0 ≤ z ∧ z ≤ 20)) = 1 from bI_pp (by omega)]
    refine wp_if_eq 32 dX10_link_25 (by decide) ⟨by omega, by omega⟩ (fun c_25 => ?_) (fun c_25 => ?_)
    · exact absurd c_25 (by decide)
    · refine wp_iconst dX10_link_28 ?_
      refine wp_goto 33 dX10_link_29 (by decide) ?_
      refine wp_s1 1 6 (c_checkArgument (N := N)) csX10_60 dX10_link_33 ⟨Nat.le_of_ble_eq_true rfl, Nat.le_of_ble_eq_true rfl⟩ (Nat.le_of_ble_eq_true rfl) (by omega) (by omega) (fun r h9 N9 hq => ?_)
      obtain ⟨rfl, hh9, hN9⟩ := hq
      rw [hN9]
      rw [hh9]
      change WP G mX10_link _ _ _ _ h N 36 [some (.ref (cB G)), some (JV t), some (JV y), some (JV x), some (JV z)] []
      refine wp_aload_n dX10_link_36 rfl ?_
      refine wp_get fkX10_10 dX10_link_37 sp.1 rfl ?_
      refine wp_get fkX10_136 dX10_link_40 sp.2.1.1 rfl ?_
      refine wp_bipush dX10_link_43 rfl ?_
      refine wp_icmp_ge 64 dX10_link_45 (by decide) ⟨by omega, by omega⟩ ⟨by omega, by omega⟩ (fun c_45 => ?_) (fun c_45 => ?_)
      · exact absurd c_45 (by omega)
      · refine wp_aload_n dX10_link_48 rfl ?_
        refine wp_get fkX10_10 dX10_link_49 sp.1 rfl ?_
        refine wp_iload_n dX10_link_52 rfl ?_
        refine wp_iload_n dX10_link_53 rfl ?_
        refine wp_v2 1 6 (c_reaches (N := N) (t := y) (gl := t) sp.2.1 sp.2.2.1 sp.2.2.2.1 (by omega) (by omega)) cvX10_139 dX10_link_54 ⟨Nat.le_of_ble_eq_true rfl, Nat.le_of_ble_eq_true rfl⟩ (Nat.le_of_ble_eq_true rfl) sp.2.1.1 rfl rfl (by omega) (by omega) (fun r h8 N9 hq => ?_)
        obtain ⟨hN9, v, rfl, S8, mk8, hv01, hvr⟩ := hq
        rw [hN9]
        obtain rfl : v = 1 := hvr.mpr hr
        change WP G mX10_link _ _ _ _ h8 N 57 [some (.ref (cB G)), some (JV t), some (JV y), some (JV x), some (JV z)] [JV 1]
        refine wp_if_ne 64 dX10_link_57 (by decide) ⟨by omega, by omega⟩ (fun c_57 => ?_) (fun c_57 => ?_)
        · refine wp_iconst dX10_link_64 ?_
          refine wp_callSx (k2 := 0) (n2 := 0) (x_checkState (N := N)) csX10_85 dX10_link_65 ⟨Nat.le_of_ble_eq_true rfl, Nat.le_of_ble_eq_true rfl⟩ (Nat.le_of_ble_eq_true rfl) rfl rfl (by omega) (by omega) (fun r h9 N9 q => q.elim) (fun E h9 N9 q => ?_)
          obtain ⟨rfl, rfl, q⟩ := q
          exact VX_out rfl ⟨rfl, q, S8, sp.marks mk8, mk8.2.1⟩
        · exact absurd c_57 (by decide)

theorem c_orderAt (sp : SPI G h S st K) {p : Int} (hp : InR p) : CX G mX10_orderAt [.ref (cB G), JV p] h N 1 6 (fun r h' N' => N' = N ∧ SPI G h' S 0 K ∧ ∃ v : Int, r = some (JV v) ∧ ∃ eb ee lb le rm ld od, FV S eb ee lb le rm ld od ∧ (0 ≤ p ∧ p < (lvAll S lb rm (S 15 0 0) od).2.2.2.2.1) ∧ v = (lvAll S lb rm (S 15 0 0) od).2.2.2.1 p.toNat) (fun E h' N' => E = x_ioobe ∧ N ≤ N' ∧ SPI G h' S 0 K ∧ ∃ eb ee lb le rm ld od, FV S eb ee lb le rm ld od ∧ ¬ (0 ≤ p ∧ p < (lvAll S lb rm (S 15 0 0) od).2.2.2.2.1)) := by
  refine CX_of (by decide +kernel) rfl (by simp [Value.category]) (Nat.le_of_ble_eq_true rfl) ?_
  change WP G mX10_orderAt _ _ _ _ h N 0 [some (.ref (cB G)), some (JV p)] []
  refine wp_aload_n dX10_orderAt_0 rfl ?_
  refine wp_v0 1 6 (c_refresh (N := N) sp) cvX10_171 dX10_orderAt_1 ⟨Nat.le_of_ble_eq_true rfl, Nat.le_of_ble_eq_true rfl⟩ (Nat.le_of_ble_eq_true rfl) sp.1 rfl rfl (by omega) (by omega) (fun r h9 N9 hq => ?_)
  obtain ⟨rfl, hN9, sp9⟩ := hq
  rw [hN9]
  have sp8 := sp9
  obtain ⟨eb, ee, lb, le, rm, ld, wu, od, u9, W9, fa, fb, fc, fd, V9, li9⟩ := sp9.fresh
  obtain ⟨hs9, H9, w9, tp9, nt9, lt9, kp9, cc9⟩ := sp9
  have fv : FV S eb ee lb le rm ld od := ⟨fa, fb, fc, u9, li9⟩
  clear cc9
  change WP G mX10_orderAt _ _ _ _ h9 N 4 [some (.ref (cB G)), some (JV p)] []
  refine wp_iload_n dX10_orderAt_4 rfl ?_
  refine wp_aload_n dX10_orderAt_5 rfl ?_
  refine wp_get fkX10_28 dX10_orderAt_6 hs9 rfl ?_
  refine wp_get fkX10_209 dX10_orderAt_9 V9.1 rfl ?_
  have hct := li9.2.2.2.2.2.2
  by_cases hb9 : 0 ≤ p ∧ p < (lvAll S lb rm (S 15 0 0) od).2.2.2.2.1
  · refine wp_s2 1 6 (c_checkIndex (N := N) hb9.1 hb9.2 (by omega)) csX10_212 dX10_orderAt_12 ⟨Nat.le_of_ble_eq_true rfl, Nat.le_of_ble_eq_true rfl⟩ (Nat.le_of_ble_eq_true rfl) (by omega) (by omega) (fun r h7 N9 hq => ?_)
    obtain ⟨rfl, hh9, hN9⟩ := hq
    rw [hN9]
    rw [hh9]
    change WP G mX10_orderAt _ _ _ _ h9 N 15 [some (.ref (cB G)), some (JV p)] []
    refine wp_aload_n dX10_orderAt_15 rfl ?_
    refine wp_get fkX10_28 dX10_orderAt_16 hs9 rfl ?_
    refine wp_get fkX10_216 dX10_orderAt_19 V9.1 rfl ?_
    refine wp_iload_n dX10_orderAt_22 rfl ?_
    refine wp_iaload dX10_orderAt_23 V9.2.2.2.2 (by omega) (by omega) (by omega) ?_
    refine wp_iret dX10_orderAt_24 rfl ?_
    exact ⟨rfl, sp8, _, rfl, eb, ee, lb, le, rm, ld, od, fv, hb9, rfl⟩
  · refine wp_callSx (k2 := 0) (n2 := 0) (x_checkIndex (N := N) hp ⟨by omega, by omega⟩ hb9) csX10_212 dX10_orderAt_12 ⟨Nat.le_of_ble_eq_true rfl, Nat.le_of_ble_eq_true rfl⟩ (Nat.le_of_ble_eq_true rfl) rfl rfl (by omega) (by omega) (fun r h7 N9 q => q.elim) (fun E h7 N9 q => ?_)
    obtain ⟨rfl, rfl, q⟩ := q
    exact VX_out rfl ⟨rfl, q, sp8, eb, ee, lb, le, rm, ld, od, fv, hb9⟩

end Bad2

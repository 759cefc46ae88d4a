/-! ===== bad arguments ===== -/
section Bad
variable {G : Ctx} {h : AH} {N : Nat} {S : ST} {st : Int} {K : KTup}
theorem bI_p {P : Prop} [Decidable P] (h : ¬ bI (decide P) = 0) : P := of_decide_eq_true (bI_ne h)
theorem bI_np {P : Prop} [Decidable P] (h : ¬ P) : bI (decide P) = 0 := bI_f (decide_eq_false h)
theorem bI_pp {P : Prop} [Decidable P] (h : P) : bI (decide P) = 1 := bI_t (decide_eq_true h)
theorem c_isWithinR {x y : Int} (hx : InR x) (hy : InR y) : CT G mX10_isWithin [JV x, JV y] h N 0 0 (PV (JV (bI (decide (0 ≤ x ∧ x ≤ y)))) h N) := by
  refine CT_of (by decide +kernel) rfl (by simp [Value.category]) (Nat.le_of_ble_eq_true rfl) ?_
  change WP G mX10_isWithin _ noX _ _ h N 0 [some (JV x), some (JV y)] []
  refine wp_iload_n dX10_isWithin_0 rfl ?_
  refine wp_if_lt 13 dX10_isWithin_1 (by decide) hx (fun c_1 => ?_) (fun c_1 => ?_)
  · refine wp_iconst dX10_isWithin_13 ?_
    refine wp_zret dX10_isWithin_14 rfl (by omega) ?_
    refine ⟨?_, rfl, rfl⟩
    rw [show decide (0 ≤ x ∧ x ≤ y) = false by simp; omega]; rfl
  · refine wp_iload_n dX10_isWithin_4 rfl ?_
    refine wp_iload_n dX10_isWithin_5 rfl ?_
    refine wp_icmp_gt 13 dX10_isWithin_6 (by decide) hx hy (fun c_6 => ?_) (fun c_6 => ?_)
    · refine wp_iconst dX10_isWithin_13 ?_
      refine wp_zret dX10_isWithin_14 rfl (by omega) ?_
      refine ⟨?_, rfl, rfl⟩
      rw [show decide (0 ≤ x ∧ x ≤ y) = false by simp; omega]; rfl
    · refine wp_iconst dX10_isWithin_9 ?_
      refine wp_goto 14 dX10_isWithin_10 (by decide) ?_
      refine wp_zret dX10_isWithin_14 rfl (by omega) ?_
      refine ⟨?_, rfl, rfl⟩
      rw [show decide (0 ≤ x ∧ x ≤ y) = true by simp; omega]; rfl

theorem x_checkIndex {i n : Int} (hi : InR i) (hn : InR n) (hb : ¬ (0 ≤ i ∧ i < n)) : CX G mX10_checkIndex [JV i, JV n] h N 1 6 (noQ) (XE x_ioobe h N) := by
  refine CX_of (by decide +kernel) rfl (by simp [Value.category]) (Nat.le_of_ble_eq_true rfl) ?_
  change WP G mX10_checkIndex _ _ _ _ h N 0 [some (JV i), some (JV n)] []
  refine wp_iload_n dX10_checkIndex_0 rfl ?_
  refine wp_if_lt 9 dX10_checkIndex_1 (by decide) hi (fun c_1 => ?_) (fun c_1 => ?_)
  · exact wp_throw tw_ioobe dX10_checkIndex_9 dX10_checkIndex_12 dX10_checkIndex_13 dX10_checkIndex_16 dX10_checkIndex_19 rfl (Nat.le_of_ble_eq_true rfl) (Nat.le_of_ble_eq_true rfl) (by omega) (by omega) (fun N9 h9 => ⟨rfl, rfl, h9⟩)
  · refine wp_iload_n dX10_checkIndex_4 rfl ?_
    refine wp_iload_n dX10_checkIndex_5 rfl ?_
    refine wp_icmp_lt 20 dX10_checkIndex_6 (by decide) hi hn (fun c_6 => ?_) (fun c_6 => ?_)
    · exact absurd hb (by omega)
    · exact wp_throw tw_ioobe dX10_checkIndex_9 dX10_checkIndex_12 dX10_checkIndex_13 dX10_checkIndex_16 dX10_checkIndex_19 rfl (Nat.le_of_ble_eq_true rfl) (Nat.le_of_ble_eq_true rfl) (by omega) (by omega) (fun N9 h9 => ⟨rfl, rfl, h9⟩)

theorem x_checkArgument  : CX G mX10_checkArgument [JV 0] h N 1 6 (noQ) (XE x_iae h N) := by
  refine CX_of (by decide +kernel) rfl (by simp [Value.category]) (Nat.le_of_ble_eq_true rfl) ?_
  change WP G mX10_checkArgument _ _ _ _ h N 0 [some (JV 0)] []
  refine wp_iload_n dX10_checkArgument_0 rfl ?_
  refine wp_if_ne 15 dX10_checkArgument_1 (by decide) ⟨by omega, by omega⟩ (fun c_1 => ?_) (fun c_1 => ?_)
  · exact absurd rfl c_1
  · exact wp_throw tw_iae dX10_checkArgument_4 dX10_checkArgument_7 dX10_checkArgument_8 dX10_checkArgument_11 dX10_checkArgument_14 rfl (Nat.le_of_ble_eq_true rfl) (Nat.le_of_ble_eq_true rfl) (by omega) (by omega) (fun N9 h9 => ⟨rfl, rfl, h9⟩)

theorem x_checkState  : CX G mX10_checkState [JV 0] h N 1 6 (noQ) (XE x_ise h N) := by
  refine CX_of (by decide +kernel) rfl (by simp [Value.category]) (Nat.le_of_ble_eq_true rfl) ?_
  change WP G mX10_checkState _ _ _ _ h N 0 [some (JV 0)] []
  refine wp_iload_n dX10_checkState_0 rfl ?_
  refine wp_if_ne 15 dX10_checkState_1 (by decide) ⟨by omega, by omega⟩ (fun c_1 => ?_) (fun c_1 => ?_)
  · exact absurd rfl c_1
  · exact wp_throw tw_ise dX10_checkState_4 dX10_checkState_7 dX10_checkState_8 dX10_checkState_11 dX10_checkState_14 rfl (Nat.le_of_ble_eq_true rfl) (Nat.le_of_ble_eq_true rfl) (by omega) (by omega) (fun N9 h9 => ⟨rfl, rfl, h9⟩)

theorem x_checkCalendar {i : Int} (hi : InR i) (hb : ¬ (0 ≤ i ∧ i < 4)) : CX G mX10_checkCalendar [JV i] h N 1 6 (noQ) (XE x_ioobe h N) := by
  refine CX_of (by decide +kernel) rfl (by simp [Value.category]) (Nat.le_of_ble_eq_true rfl) ?_
  change WP G mX10_checkCalendar _ _ _ _ h N 0 [some (JV i)] []
  refine wp_iload_n dX10_checkCalendar_0 rfl ?_
  refine wp_iconst dX10_checkCalendar_1 ?_
  refine wp_callSx (k2 := 0) (n2 := 0) (x_checkIndex (N := N) hi ⟨by omega, by omega⟩ hb) csX10_212 dX10_checkCalendar_2 ⟨Nat.le_of_ble_eq_true rfl, Nat.le_of_ble_eq_true rfl⟩ (Nat.le_of_ble_eq_true rfl) rfl rfl (by omega) (by omega) (fun r h9 N9 q => q.elim) (fun E h9 N9 q => ?_)
  obtain ⟨rfl, rfl, q⟩ := q
  exact VX_out rfl ⟨rfl, rfl, q⟩

theorem x_checkCrew {i : Int} (hi : InR i) (hb : ¬ (0 ≤ i ∧ i < 4)) : CX G mX10_checkCrew [JV i] h N 1 6 (noQ) (XE x_ioobe h N) := by
  refine CX_of (by decide +kernel) rfl (by simp [Value.category]) (Nat.le_of_ble_eq_true rfl) ?_
  change WP G mX10_checkCrew _ _ _ _ h N 0 [some (JV i)] []
  refine wp_iload_n dX10_checkCrew_0 rfl ?_
  refine wp_iconst dX10_checkCrew_1 ?_
  refine wp_callSx (k2 := 0) (n2 := 0) (x_checkIndex (N := N) hi ⟨by omega, by omega⟩ hb) csX10_212 dX10_checkCrew_2 ⟨Nat.le_of_ble_eq_true rfl, Nat.le_of_ble_eq_true rfl⟩ (Nat.le_of_ble_eq_true rfl) rfl rfl (by omega) (by omega) (fun r h9 N9 q => q.elim) (fun E h9 N9 q => ?_)
  obtain ⟨rfl, rfl, q⟩ := q
  exact VX_out rfl ⟨rfl, rfl, q⟩

theorem x_checkAskedDay {i : Int} (hi : InR i) (hb : ¬ (0 ≤ i ∧ i ≤ 9999)) : CX G mX10_checkAskedDay [JV i] h N 1 6 (noQ) (XE x_iae h N) := by
  refine CX_of (by decide +kernel) rfl (by simp [Value.category]) (Nat.le_of_ble_eq_true rfl) ?_
  change WP G mX10_checkAskedDay _ _ _ _ h N 0 [some (JV i)] []
  refine wp_iload_n dX10_checkAskedDay_0 rfl ?_
  refine wp_sipush dX10_checkAskedDay_1 rfl ?_
  refine wp_s2p (c_isWithinR (N := N) hi ⟨by omega, by omega⟩) csX10_74 dX10_checkAskedDay_4 ⟨Nat.le_of_ble_eq_true rfl, Nat.le_of_ble_eq_true rfl⟩ (Nat.le_of_ble_eq_true rfl) ?_
  rw [show bI (decide (0 ≤ i ∧ i ≤ 9999)) = 0 from bI_np (by omega)]
  refine wp_callSx (k2 := 0) (n2 := 0) (x_checkArgument (N := N)) csX10_60 dX10_checkAskedDay_7 ⟨Nat.le_of_ble_eq_true rfl, Nat.le_of_ble_eq_true rfl⟩ (Nat.le_of_ble_eq_true rfl) rfl rfl (by omega) (by omega) (fun r h9 N9 q => q.elim) (fun E h9 N9 q => ?_)
  obtain ⟨rfl, rfl, q⟩ := q
  exact VX_out rfl ⟨rfl, rfl, q⟩

theorem x_checkTask {i : Int} (hs : h (cB G) = some (cSP G st)) (H : HP G S h) (hw : 0 ≤ S 13 0 0 ∧ S 13 0 0 ≤ 40) (hi : InR i) (hb : ¬ (0 ≤ i ∧ i < S 13 0 0)) : CX G mX10_checkTask [.ref (cB G), JV i] h N 1 6 (noQ) (XE x_ioobe h N) := by
  refine CX_of (by decide +kernel) rfl (by simp [Value.category]) (Nat.le_of_ble_eq_true rfl) ?_
  change WP G mX10_checkTask _ _ _ _ h N 0 [some (.ref (cB G)), some (JV i)] []
  refine wp_iload_n dX10_checkTask_0 rfl ?_
  refine wp_aload_n dX10_checkTask_1 rfl ?_
  refine wp_get fkX10_10 dX10_checkTask_2 hs rfl ?_
  refine wp_get fkX10_107 dX10_checkTask_5 H.1 rfl ?_
  refine wp_callSx (k2 := 0) (n2 := 0) (x_checkIndex (N := N) hi ⟨by omega, by omega⟩ hb) csX10_212 dX10_checkTask_8 ⟨Nat.le_of_ble_eq_true rfl, Nat.le_of_ble_eq_true rfl⟩ (Nat.le_of_ble_eq_true rfl) rfl rfl (by omega) (by omega) (fun r h9 N9 q => q.elim) (fun E h9 N9 q => ?_)
  obtain ⟨rfl, rfl, q⟩ := q
  exact VX_out rfl ⟨rfl, rfl, q⟩

theorem x_checkLink {i : Int} (hs : h (cB G) = some (cSP G st)) (H : HP G S h) (hw : 0 ≤ S 14 0 0 ∧ S 14 0 0 ≤ 40) (hi : InR i) (hb : ¬ (0 ≤ i ∧ i < S 14 0 0)) : CX G mX10_checkLink [.ref (cB G), JV i] h N 1 6 (noQ) (XE x_ioobe h N) := by
  refine CX_of (by decide +kernel) rfl (by simp [Value.category]) (Nat.le_of_ble_eq_true rfl) ?_
  change WP G mX10_checkLink _ _ _ _ h N 0 [some (.ref (cB G)), some (JV i)] []
  refine wp_iload_n dX10_checkLink_0 rfl ?_
  refine wp_aload_n dX10_checkLink_1 rfl ?_
  refine wp_get fkX10_10 dX10_checkLink_2 hs rfl ?_
  refine wp_get fkX10_136 dX10_checkLink_5 H.1 rfl ?_
  refine wp_callSx (k2 := 0) (n2 := 0) (x_checkIndex (N := N) hi ⟨by omega, by omega⟩ hb) csX10_212 dX10_checkLink_8 ⟨Nat.le_of_ble_eq_true rfl, Nat.le_of_ble_eq_true rfl⟩ (Nat.le_of_ble_eq_true rfl) rfl rfl (by omega) (by omega) (fun r h9 N9 q => q.elim) (fun E h9 N9 q => ?_)
  obtain ⟨rfl, rfl, q⟩ := q
  exact VX_out rfl ⟨rfl, rfl, q⟩

theorem x_setWeek0 (sp : SPI G h S st K) {t : Int} (ht : InR t) {x : Int} (hx : InR x) (hb : ¬ (0 ≤ t ∧ t < 4)) : CX G mX10_setWeek [.ref (cB G), JV t, JV x] h N 1 6 (noQ) (XE x_ioobe h N) := by
  have hT := sp.2.2.1.nT
  have hL := sp.2.2.1.nL
  refine CX_of (by decide +kernel) rfl (by simp [Value.category]) (Nat.le_of_ble_eq_true rfl) ?_
  change WP G mX10_setWeek _ _ _ _ h N 0 [some (.ref (cB G)), some (JV t), some (JV x), none, none] []
  refine wp_iload_n dX10_setWeek_0 rfl ?_
  refine wp_callSx (k2 := 0) (n2 := 0) (x_checkCalendar (N := N) ht (by omega)) csX10_56 dX10_setWeek_1 ⟨Nat.le_of_ble_eq_true rfl, Nat.le_of_ble_eq_true rfl⟩ (Nat.le_of_ble_eq_true rfl) rfl rfl (by omega) (by omega) (fun r h9 N9 q => q.elim) (fun E h9 N9 q => ?_)
  obtain ⟨rfl, rfl, q⟩ := q
  exact VX_out rfl ⟨rfl, rfl, q⟩

theorem x_setWeek1 (sp : SPI G h S st K) {t : Int} (ht : InR t) {x : Int} (hx : InR x) (ho : 0 ≤ t ∧ t < 4) (hb : ¬ (1 ≤ x ∧ x ≤ 127)) : CX G mX10_setWeek [.ref (cB G), JV t, JV x] h N 1 6 (noQ) (XE x_iae h N) := by
  have hT := sp.2.2.1.nT
  have hL := sp.2.2.1.nL
  refine CX_of (by decide +kernel) rfl (by simp [Value.category]) (Nat.le_of_ble_eq_true rfl) ?_
  change WP G mX10_setWeek _ _ _ _ h N 0 [some (.ref (cB G)), some (JV t), some (JV x), none, none] []
  refine wp_iload_n dX10_setWeek_0 rfl ?_
  refine wp_s1 1 6 (c_checkCalendar (N := N) (by omega) (by omega)) csX10_56 dX10_setWeek_1 ⟨Nat.le_of_ble_eq_true rfl, Nat.le_of_ble_eq_true rfl⟩ (Nat.le_of_ble_eq_true rfl) (by omega) (by omega) (fun r h9 N9 hq => ?_)
  obtain ⟨rfl, hh9, hN9⟩ := hq
  rw [hN9]
  rw [hh9]
  change WP G mX10_setWeek _ _ _ _ h N 4 [some (.ref (cB G)), some (JV t), some (JV x), none, none] []
  refine wp_iload_n dX10_setWeek_4 rfl ?_
  refine wp_iconst dX10_setWeek_5 ?_
  refine wp_icmp_lt 19 dX10_setWeek_6 (by decide) hx ⟨by omega, by omega⟩ (fun c_6 => ?_) (fun c_6 => ?_)
  · refine wp_iconst dX10_setWeek_19 ?_
    refine wp_callSx (k2 := 0) (n2 := 0) (x_checkArgument (N := N)) csX10_60 dX10_setWeek_20 ⟨Nat.le_of_ble_eq_true rfl, Nat.le_of_ble_eq_true rfl⟩ (Nat.le_of_ble_eq_true rfl) rfl rfl (by omega) (by omega) (fun r h9 N9 q => q.elim) (fun E h9 N9 q => ?_)
    obtain ⟨rfl, rfl, q⟩ := q
    exact VX_out rfl ⟨rfl, rfl, q⟩
  · refine wp_iload_n dX10_setWeek_9 rfl ?_
    refine wp_bipush dX10_setWeek_10 rfl ?_
    refine wp_icmp_gt 19 dX10_setWeek_12 (by decide) hx ⟨by omega, by omega⟩ (fun c_12 => ?_) (fun c_12 => ?_)
    · refine wp_iconst dX10_setWeek_19 ?_
      refine wp_callSx (k2 := 0) (n2 := 0) (x_checkArgument (N := N)) csX10_60 dX10_setWeek_20 ⟨Nat.le_of_ble_eq_true rfl, Nat.le_of_ble_eq_true rfl⟩ (Nat.le_of_ble_eq_true rfl) rfl rfl (by omega) (by omega) (fun r h9 N9 q => q.elim) (fun E h9 N9 q => ?_)
      obtain ⟨rfl, rfl, q⟩ := q
      exact VX_out rfl ⟨rfl, rfl, q⟩
    · refine wp_iconst dX10_setWeek_15 ?_
      refine wp_goto 20 dX10_setWeek_16 (by decide) ?_
      exact absurd hb (by omega)

theorem x_setCrew0 (sp : SPI G h S st K) {t : Int} (ht : InR t) {x : Int} (hx : InR x) {y : Int} (hy : InR y) (hb : ¬ (0 ≤ t ∧ t < 4)) : CX G mX10_setCrew [.ref (cB G), JV t, JV x, JV y] h N 1 6 (noQ) (XE x_ioobe h N) := by
  have hT := sp.2.2.1.nT
  have hL := sp.2.2.1.nL
  refine CX_of (by decide +kernel) rfl (by simp [Value.category]) (Nat.le_of_ble_eq_true rfl) ?_
  change WP G mX10_setCrew _ _ _ _ h N 0 [some (.ref (cB G)), some (JV t), some (JV x), some (JV y), none, none] []
  refine wp_iload_n dX10_setCrew_0 rfl ?_
  refine wp_callSx (k2 := 0) (n2 := 0) (x_checkCrew (N := N) ht (by omega)) csX10_92 dX10_setCrew_1 ⟨Nat.le_of_ble_eq_true rfl, Nat.le_of_ble_eq_true rfl⟩ (Nat.le_of_ble_eq_true rfl) rfl rfl (by omega) (by omega) (fun r h9 N9 q => q.elim) (fun E h9 N9 q => ?_)
  obtain ⟨rfl, rfl, q⟩ := q
  exact VX_out rfl ⟨rfl, rfl, q⟩

theorem x_setCrew1 (sp : SPI G h S st K) {t : Int} (ht : InR t) {x : Int} (hx : InR x) {y : Int} (hy : InR y) (ho : 0 ≤ t ∧ t < 4) (hb : ¬ ((0 ≤ x ∧ x ≤ 9) ∧ 0 ≤ y ∧ y ≤ 99)) : CX G mX10_setCrew [.ref (cB G), JV t, JV x, JV y] h N 1 6 (noQ) (XE x_iae h N) := by
  have hT := sp.2.2.1.nT
  have hL := sp.2.2.1.nL
  refine CX_of (by decide +kernel) rfl (by simp [Value.category]) (Nat.le_of_ble_eq_true rfl) ?_
  change WP G mX10_setCrew _ _ _ _ h N 0 [some (.ref (cB G)), some (JV t), some (JV x), some (JV y), none, none] []
  refine wp_iload_n dX10_setCrew_0 rfl ?_
  refine wp_s1 1 6 (c_checkCrew (N := N) (by omega) (by omega)) csX10_92 dX10_setCrew_1 ⟨Nat.le_of_ble_eq_true rfl, Nat.le_of_ble_eq_true rfl⟩ (Nat.le_of_ble_eq_true rfl) (by omega) (by omega) (fun r h9 N9 hq => ?_)
  obtain ⟨rfl, hh9, hN9⟩ := hq
  rw [hN9]
  rw [hh9]
  change WP G mX10_setCrew _ _ _ _ h N 4 [some (.ref (cB G)), some (JV t), some (JV x), some (JV y), none, none] []
  refine wp_iload_n dX10_setCrew_4 rfl ?_
  refine wp_bipush dX10_setCrew_5 rfl ?_
  refine wp_s2p (c_isWithinR (N := N) hx ⟨by omega, by omega⟩) csX10_74 dX10_setCrew_7 ⟨Nat.le_of_ble_eq_true rfl, Nat.le_of_ble_eq_true rfl⟩ (Nat.le_of_ble_eq_true rfl) ?_
  refine wp_if_eq 26 dX10_setCrew_10 (by decide) (bI_r _) (fun c_10 => ?_) (fun c_10 => ?_)
  · refine wp_iconst dX10_setCrew_26 ?_
    refine wp_callSx (k2 := 0) (n2 := 0) (x_checkArgument (N := N)) csX10_60 dX10_setCrew_27 ⟨Nat.le_of_ble_eq_true rfl, Nat.le_of_ble_eq_true rfl⟩ (Nat.le_of_ble_eq_true rfl) rfl rfl (by omega) (by omega) (fun r h9 N9 q => q.elim) (fun E h9 N9 q => ?_)
    obtain ⟨rfl, rfl, q⟩ := q
    exact VX_out rfl ⟨rfl, rfl, q⟩
  · have p_10 := bI_p c_10
    refine wp_iload_n dX10_setCrew_13 rfl ?_
    refine wp_bipush dX10_setCrew_14 rfl ?_
    refine wp_s2p (c_isWithinR (N := N) hy ⟨by omega, by omega⟩) csX10_74 dX10_setCrew_16 ⟨Nat.le_of_ble_eq_true rfl, Nat.le_of_ble_eq_true rfl⟩ (Nat.le_of_ble_eq_true rfl) ?_
    refine wp_if_eq 26 dX10_setCrew_19 (by decide) (bI_r _) (fun c_19 => ?_) (fun c_19 => ?_)
    · refine wp_iconst dX10_setCrew_26 ?_
      refine wp_callSx (k2 := 0) (n2 := 0) (x_checkArgument (N := N)) csX10_60 dX10_setCrew_27 ⟨Nat.le_of_ble_eq_true rfl, Nat.le_of_ble_eq_true rfl⟩ (Nat.le_of_ble_eq_true rfl) rfl rfl (by omega) (by omega) (fun r h9 N9 q => q.elim) (fun E h9 N9 q => ?_)
      obtain ⟨rfl, rfl, q⟩ := q
      exact VX_out rfl ⟨rfl, rfl, q⟩
    · have p_19 := bI_p c_19
      refine wp_iconst dX10_setCrew_22 ?_
      refine wp_goto 27 dX10_setCrew_23 (by decide) ?_
      exact absurd hb (by omega)

theorem x_addTask0 (sp : SPI G h S st K) {x : Int} (hx : InR x) {t : Int} (ht : InR t) (hb : ¬ (0 ≤ t ∧ t < 4)) : CX G mX10_addTask [.ref (cB G), JV x, JV t] h N 1 6 (noQ) (XE x_ioobe h N) := by
  have hT := sp.2.2.1.nT
  have hL := sp.2.2.1.nL
  refine CX_of (by decide +kernel) rfl (by simp [Value.category]) (Nat.le_of_ble_eq_true rfl) ?_
  change WP G mX10_addTask _ _ _ _ h N 0 [some (.ref (cB G)), some (JV x), some (JV t)] []
  refine wp_iload_n dX10_addTask_0 rfl ?_
  refine wp_callSx (k2 := 0) (n2 := 0) (x_checkCalendar (N := N) ht (by omega)) csX10_56 dX10_addTask_1 ⟨Nat.le_of_ble_eq_true rfl, Nat.le_of_ble_eq_true rfl⟩ (Nat.le_of_ble_eq_true rfl) rfl rfl (by omega) (by omega) (fun r h9 N9 q => q.elim) (fun E h9 N9 q => ?_)
  obtain ⟨rfl, rfl, q⟩ := q
  exact VX_out rfl ⟨rfl, rfl, q⟩

theorem x_addTask1 (sp : SPI G h S st K) {x : Int} (hx : InR x) {t : Int} (ht : InR t) (ho : 0 ≤ t ∧ t < 4) (hb : ¬ (0 ≤ x ∧ x ≤ 20)) : CX G mX10_addTask [.ref (cB G), JV x, JV t] h N 1 6 (noQ) (XE x_iae h N) := by
  have hT := sp.2.2.1.nT
  have hL := sp.2.2.1.nL
  refine CX_of (by decide +kernel) rfl (by simp [Value.category]) (Nat.le_of_ble_eq_true rfl) ?_
  change WP G mX10_addTask _ _ _ _ h N 0 [some (.ref (cB G)), some (JV x), some (JV t)] []
  refine wp_iload_n dX10_addTask_0 rfl ?_
  refine wp_s1 1 6 (c_checkCalendar (N := N) (by omega) (by omega)) csX10_56 dX10_addTask_1 ⟨Nat.le_of_ble_eq_true rfl, Nat.le_of_ble_eq_true rfl⟩ (Nat.le_of_ble_eq_true rfl) (by omega) (by omega) (fun r h9 N9 hq => ?_)
  obtain ⟨rfl, hh9, hN9⟩ := hq
  rw [hN9]
  rw [hh9]
  change WP G mX10_addTask _ _ _ _ h N 4 [some (.ref (cB G)), some (JV x), some (JV t)] []
  refine wp_iload_n dX10_addTask_4 rfl ?_
  refine wp_bipush dX10_addTask_5 rfl ?_
  refine wp_s2p (c_isWithinR (N := N) hx ⟨by omega, by omega⟩) csX10_74 dX10_addTask_7 ⟨Nat.le_of_ble_eq_true rfl, Nat.le_of_ble_eq_true rfl⟩ (Nat.le_of_ble_eq_true rfl) ?_
  rw [show bI (decide (0 ≤ x ∧ x ≤ 20)) = 0 from bI_np (by omega)]
  refine wp_callSx (k2 := 0) (n2 := 0) (x_checkArgument (N := N)) csX10_60 dX10_addTask_10 ⟨Nat.le_of_ble_eq_true rfl, Nat.le_of_ble_eq_true rfl⟩ (Nat.le_of_ble_eq_true rfl) rfl rfl (by omega) (by omega) (fun r h9 N9 q => q.elim) (fun E h9 N9 q => ?_)
  obtain ⟨rfl, rfl, q⟩ := q
  exact VX_out rfl ⟨rfl, rfl, q⟩

theorem x_addTask2 (sp : SPI G h S st K) {x : Int} (hx : InR x) {t : Int} (ht : InR t) (ho : 0 ≤ t ∧ t < 4) (ho2 : 0 ≤ x ∧ x ≤ 20) (hb : ¬ S 13 0 0 < 24) : CX G mX10_addTask [.ref (cB G), JV x, JV t] h N 1 6 (noQ) (XE x_ise h N) := by
  have hT := sp.2.2.1.nT
  have hL := sp.2.2.1.nL
  refine CX_of (by decide +kernel) rfl (by simp [Value.category]) (Nat.le_of_ble_eq_true rfl) ?_
  change WP G mX10_addTask _ _ _ _ h N 0 [some (.ref (cB G)), some (JV x), some (JV t)] []
  refine wp_iload_n dX10_addTask_0 rfl ?_
  refine wp_s1 1 6 (c_checkCalendar (N := N) (by omega) (by omega)) csX10_56 dX10_addTask_1 ⟨Nat.le_of_ble_eq_true rfl, Nat.le_of_ble_eq_true rfl⟩ (Nat.le_of_ble_eq_true rfl) (by omega) (by omega) (fun r h9 N9 hq => ?_)
  obtain ⟨rfl, hh9, hN9⟩ := hq
  rw [hN9]
  rw [hh9]
  change WP G mX10_addTask _ _ _ _ h N 4 [some (.ref (cB G)), some (JV x), some (JV t)] []
  refine wp_iload_n dX10_addTask_4 rfl ?_
  refine wp_bipush dX10_addTask_5 rfl ?_
  refine wp_s2p (c_isWithinR (N := N) hx ⟨by omega, by omega⟩) csX10_74 dX10_addTask_7 ⟨Nat.le_of_ble_eq_true rfl, Nat.le_of_ble_eq_true rfl⟩ (Nat.le_of_ble_eq_true rfl) ?_
  rw [show bI (decide (0 ≤ x ∧ x ≤ 20)) = 1 from bI_pp (by omega)]
  refine wp_s1 1 6 (c_checkArgument (N := N)) csX10_60 dX10_addTask_10 ⟨Nat.le_of_ble_eq_true rfl, Nat.le_of_ble_eq_true rfl⟩ (Nat.le_of_ble_eq_true rfl) (by omega) (by omega) (fun r h9 N9 hq => ?_)
  obtain ⟨rfl, hh9, hN9⟩ := hq
  rw [hN9]
  rw [hh9]
  change WP G mX10_addTask _ _ _ _ h N 13 [some (.ref (cB G)), some (JV x), some (JV t)] []
  refine wp_aload_n dX10_addTask_13 rfl ?_
  refine wp_get fkX10_10 dX10_addTask_14 sp.1 rfl ?_
  refine wp_get fkX10_107 dX10_addTask_17 sp.2.1.1 rfl ?_
  refine wp_bipush dX10_addTask_20 rfl ?_
  refine wp_icmp_ge 29 dX10_addTask_22 (by decide) ⟨by omega, by omega⟩ ⟨by omega, by omega⟩ (fun c_22 => ?_) (fun c_22 => ?_)
  · refine wp_iconst dX10_addTask_29 ?_
    refine wp_callSx (k2 := 0) (n2 := 0) (x_checkState (N := N)) csX10_85 dX10_addTask_30 ⟨Nat.le_of_ble_eq_true rfl, Nat.le_of_ble_eq_true rfl⟩ (Nat.le_of_ble_eq_true rfl) rfl rfl (by omega) (by omega) (fun r h9 N9 q => q.elim) (fun E h9 N9 q => ?_)
    obtain ⟨rfl, rfl, q⟩ := q
    exact VX_out rfl ⟨rfl, rfl, q⟩
  · refine wp_iconst dX10_addTask_25 ?_
    refine wp_goto 30 dX10_addTask_26 (by decide) ?_
    exact absurd hb (by omega)

theorem x_setLength0 (sp : SPI G h S st K) {t : Int} (ht : InR t) {x : Int} (hx : InR x) (hb : ¬ (0 ≤ t ∧ t < S 13 0 0)) : CX G mX10_setLength [.ref (cB G), JV t, JV x] h N 1 6 (noQ) (XE x_ioobe h N) := by
  have hT := sp.2.2.1.nT
  have hL := sp.2.2.1.nL
  refine CX_of (by decide +kernel) rfl (by simp [Value.category]) (Nat.le_of_ble_eq_true rfl) ?_
  change WP G mX10_setLength _ _ _ _ h N 0 [some (.ref (cB G)), some (JV t), some (JV x), none, none] []
  refine wp_aload_n dX10_setLength_0 rfl ?_
  refine wp_iload_n dX10_setLength_1 rfl ?_
  refine wp_callVx (k2 := 0) (n2 := 0) (x_checkTask (N := N) sp.1 sp.2.1 (by have := sp.2.2.1.nT; have := sp.2.2.1.nL; omega) ht (by omega)) cvX10_114 dX10_setLength_2 ⟨Nat.le_of_ble_eq_true rfl, Nat.le_of_ble_eq_true rfl⟩ (Nat.le_of_ble_eq_true rfl) sp.1 rfl rfl rfl rfl (by omega) (by omega) (fun r h9 N9 q => q.elim) (fun E h9 N9 q => ?_)
  obtain ⟨rfl, rfl, q⟩ := q
  exact VX_out rfl ⟨rfl, rfl, q⟩

theorem x_setLength1 (sp : SPI G h S st K) {t : Int} (ht : InR t) {x : Int} (hx : InR x) (ho : 0 ≤ t ∧ t < S 13 0 0) (hb : ¬ (0 ≤ x ∧ x ≤ 20)) : CX G mX10_setLength [.ref (cB G), JV t, JV x] h N 1 6 (noQ) (XE x_iae h N) := by
  have hT := sp.2.2.1.nT
  have hL := sp.2.2.1.nL
  refine CX_of (by decide +kernel) rfl (by simp [Value.category]) (Nat.le_of_ble_eq_true rfl) ?_
  change WP G mX10_setLength _ _ _ _ h N 0 [some (.ref (cB G)), some (JV t), some (JV x), none, none] []
  refine wp_aload_n dX10_setLength_0 rfl ?_
  refine wp_iload_n dX10_setLength_1 rfl ?_
  refine wp_v1 1 6 (c_checkTask (N := N) sp.1 sp.2.1 (by have := sp.2.2.1.nT; have := sp.2.2.1.nL; omega) (by omega) (by omega)) cvX10_114 dX10_setLength_2 ⟨Nat.le_of_ble_eq_true rfl, Nat.le_of_ble_eq_true rfl⟩ (Nat.le_of_ble_eq_true rfl) sp.1 rfl rfl (by omega) (by omega) (fun r h9 N9 hq => ?_)
  obtain ⟨rfl, hh9, hN9⟩ := hq
  rw [hN9]
  rw [hh9]
  change WP G mX10_setLength _ _ _ _ h N 5 [some (.ref (cB G)), some (JV t), some (JV x), none, none] []
  refine wp_iload_n dX10_setLength_5 rfl ?_
  refine wp_bipush dX10_setLength_6 rfl ?_
  refine wp_s2p (c_isWithinR (N := N) hx ⟨by omega, by omega⟩) csX10_74 dX10_setLength_8 ⟨Nat.le_of_ble_eq_true rfl, Nat.le_of_ble_eq_true rfl⟩ (Nat.le_of_ble_eq_true rfl) ?_
  rw [show bI (decide (0 ≤ x ∧ x ≤ 20)) = 0 from bI_np (by omega)]
  refine wp_callSx (k2 := 0) (n2 := 0) (x_checkArgument (N := N)) csX10_60 dX10_setLength_11 ⟨Nat.le_of_ble_eq_true rfl, Nat.le_of_ble_eq_true rfl⟩ (Nat.le_of_ble_eq_true rfl) rfl rfl (by omega) (by omega) (fun r h9 N9 q => q.elim) (fun E h9 N9 q => ?_)
  obtain ⟨rfl, rfl, q⟩ := q
  exact VX_out rfl ⟨rfl, rfl, q⟩

theorem x_setTerms0 (sp : SPI G h S st K) {t : Int} (ht : InR t) {x : Int} (hx : InR x) {y : Int} (hy : InR y) (hb : ¬ (0 ≤ t ∧ t < S 13 0 0)) : CX G mX10_setTerms [.ref (cB G), JV t, JV x, JV y] h N 1 6 (noQ) (XE x_ioobe h N) := by
  have hT := sp.2.2.1.nT
  have hL := sp.2.2.1.nL
  refine CX_of (by decide +kernel) rfl (by simp [Value.category]) (Nat.le_of_ble_eq_true rfl) ?_
  change WP G mX10_setTerms _ _ _ _ h N 0 [some (.ref (cB G)), some (JV t), some (JV x), some (JV y), none, none] []
  refine wp_aload_n dX10_setTerms_0 rfl ?_
  refine wp_iload_n dX10_setTerms_1 rfl ?_
  refine wp_callVx (k2 := 0) (n2 := 0) (x_checkTask (N := N) sp.1 sp.2.1 (by have := sp.2.2.1.nT; have := sp.2.2.1.nL; omega) ht (by omega)) cvX10_114 dX10_setTerms_2 ⟨Nat.le_of_ble_eq_true rfl, Nat.le_of_ble_eq_true rfl⟩ (Nat.le_of_ble_eq_true rfl) sp.1 rfl rfl rfl rfl (by omega) (by omega) (fun r h9 N9 q => q.elim) (fun E h9 N9 q => ?_)
  obtain ⟨rfl, rfl, q⟩ := q
  exact VX_out rfl ⟨rfl, rfl, q⟩

theorem x_setTerms1 (sp : SPI G h S st K) {t : Int} (ht : InR t) {x : Int} (hx : InR x) {y : Int} (hy : InR y) (ho : 0 ≤ t ∧ t < S 13 0 0) (hb : ¬ ((0 ≤ x ∧ x ≤ 9) ∧ 0 ≤ y ∧ y ≤ 999)) : CX G mX10_setTerms [.ref (cB G), JV t, JV x, JV y] h N 1 6 (noQ) (XE x_iae h N) := by
  have hT := sp.2.2.1.nT
  have hL := sp.2.2.1.nL
  refine CX_of (by decide +kernel) rfl (by simp [Value.category]) (Nat.le_of_ble_eq_true rfl) ?_
  change WP G mX10_setTerms _ _ _ _ h N 0 [some (.ref (cB G)), some (JV t), some (JV x), some (JV y), none, none] []
  refine wp_aload_n dX10_setTerms_0 rfl ?_
  refine wp_iload_n dX10_setTerms_1 rfl ?_
  refine wp_v1 1 6 (c_checkTask (N := N) sp.1 sp.2.1 (by have := sp.2.2.1.nT; have := sp.2.2.1.nL; omega) (by omega) (by omega)) cvX10_114 dX10_setTerms_2 ⟨Nat.le_of_ble_eq_true rfl, Nat.le_of_ble_eq_true rfl⟩ (Nat.le_of_ble_eq_true rfl) sp.1 rfl rfl (by omega) (by omega) (fun r h9 N9 hq => ?_)
  obtain ⟨rfl, hh9, hN9⟩ := hq
  rw [hN9]
  rw [hh9]
  change WP G mX10_setTerms _ _ _ _ h N 5 [some (.ref (cB G)), some (JV t), some (JV x), some (JV y), none, none] []
  refine wp_iload_n dX10_setTerms_5 rfl ?_
  refine wp_bipush dX10_setTerms_6 rfl ?_
  refine wp_s2p (c_isWithinR (N := N) hx ⟨by omega, by omega⟩) csX10_74 dX10_setTerms_8 ⟨Nat.le_of_ble_eq_true rfl, Nat.le_of_ble_eq_true rfl⟩ (Nat.le_of_ble_eq_true rfl) ?_
  refine wp_if_eq 28 dX10_setTerms_11 (by decide) (bI_r _) (fun c_11 => ?_) (fun c_11 => ?_)
  · refine wp_iconst dX10_setTerms_28 ?_
    refine wp_callSx (k2 := 0) (n2 := 0) (x_checkArgument (N := N)) csX10_60 dX10_setTerms_29 ⟨Nat.le_of_ble_eq_true rfl, Nat.le_of_ble_eq_true rfl⟩ (Nat.le_of_ble_eq_true rfl) rfl rfl (by omega) (by omega) (fun r h9 N9 q => q.elim) (fun E h9 N9 q => ?_)
    obtain ⟨rfl, rfl, q⟩ := q
    exact VX_out rfl ⟨rfl, rfl, q⟩
  · have p_11 := bI_p c_11
    refine wp_iload_n dX10_setTerms_14 rfl ?_
    refine wp_sipush dX10_setTerms_15 rfl ?_
    refine wp_s2p (c_isWithinR (N := N) hy ⟨by omega, by omega⟩) csX10_74 dX10_setTerms_18 ⟨Nat.le_of_ble_eq_true rfl, Nat.le_of_ble_eq_true rfl⟩ (Nat.le_of_ble_eq_true rfl) ?_
    refine wp_if_eq 28 dX10_setTerms_21 (by decide) (bI_r _) (fun c_21 => ?_) (fun c_21 => ?_)
    · refine wp_iconst dX10_setTerms_28 ?_
      refine wp_callSx (k2 := 0) (n2 := 0) (x_checkArgument (N := N)) csX10_60 dX10_setTerms_29 ⟨Nat.le_of_ble_eq_true rfl, Nat.le_of_ble_eq_true rfl⟩ (Nat.le_of_ble_eq_true rfl) rfl rfl (by omega) (by omega) (fun r h9 N9 q => q.elim) (fun E h9 N9 q => ?_)
      obtain ⟨rfl, rfl, q⟩ := q
      exact VX_out rfl ⟨rfl, rfl, q⟩
    · have p_21 := bI_p c_21
      refine wp_iconst dX10_setTerms_24 ?_
      refine wp_goto 29 dX10_setTerms_25 (by decide) ?_
      exact absurd hb (by omega)

theorem x_setNeed0 (sp : SPI G h S st K) {t : Int} (ht : InR t) {y : Int} (hy : InR y) {x : Int} (hx : InR x) (hb : ¬ (0 ≤ t ∧ t < S 13 0 0)) : CX G mX10_setNeed [.ref (cB G), JV t, JV y, JV x] h N 1 6 (noQ) (XE x_ioobe h N) := by
  have hT := sp.2.2.1.nT
  have hL := sp.2.2.1.nL
  refine CX_of (by decide +kernel) rfl (by simp [Value.category]) (Nat.le_of_ble_eq_true rfl) ?_
  change WP G mX10_setNeed _ _ _ _ h N 0 [some (.ref (cB G)), some (JV t), some (JV y), some (JV x), none, none] []
  refine wp_aload_n dX10_setNeed_0 rfl ?_
  refine wp_iload_n dX10_setNeed_1 rfl ?_
  refine wp_callVx (k2 := 0) (n2 := 0) (x_checkTask (N := N) sp.1 sp.2.1 (by have := sp.2.2.1.nT; have := sp.2.2.1.nL; omega) ht (by omega)) cvX10_114 dX10_setNeed_2 ⟨Nat.le_of_ble_eq_true rfl, Nat.le_of_ble_eq_true rfl⟩ (Nat.le_of_ble_eq_true rfl) sp.1 rfl rfl rfl rfl (by omega) (by omega) (fun r h9 N9 q => q.elim) (fun E h9 N9 q => ?_)
  obtain ⟨rfl, rfl, q⟩ := q
  exact VX_out rfl ⟨rfl, rfl, q⟩

theorem x_setNeed1 (sp : SPI G h S st K) {t : Int} (ht : InR t) {y : Int} (hy : InR y) {x : Int} (hx : InR x) (ho : 0 ≤ t ∧ t < S 13 0 0) (hb : ¬ (0 ≤ y ∧ y < 4)) : CX G mX10_setNeed [.ref (cB G), JV t, JV y, JV x] h N 1 6 (noQ) (XE x_ioobe h N) := by
  have hT := sp.2.2.1.nT
  have hL := sp.2.2.1.nL
  refine CX_of (by decide +kernel) rfl (by simp [Value.category]) (Nat.le_of_ble_eq_true rfl) ?_
  change WP G mX10_setNeed _ _ _ _ h N 0 [some (.ref (cB G)), some (JV t), some (JV y), some (JV x), none, none] []
  refine wp_aload_n dX10_setNeed_0 rfl ?_
  refine wp_iload_n dX10_setNeed_1 rfl ?_
  refine wp_v1 1 6 (c_checkTask (N := N) sp.1 sp.2.1 (by have := sp.2.2.1.nT; have := sp.2.2.1.nL; omega) (by omega) (by omega)) cvX10_114 dX10_setNeed_2 ⟨Nat.le_of_ble_eq_true rfl, Nat.le_of_ble_eq_true rfl⟩ (Nat.le_of_ble_eq_true rfl) sp.1 rfl rfl (by omega) (by omega) (fun r h9 N9 hq => ?_)
  obtain ⟨rfl, hh9, hN9⟩ := hq
  rw [hN9]
  rw [hh9]
  change WP G mX10_setNeed _ _ _ _ h N 5 [some (.ref (cB G)), some (JV t), some (JV y), some (JV x), none, none] []
  refine wp_iload_n dX10_setNeed_5 rfl ?_
  refine wp_callSx (k2 := 0) (n2 := 0) (x_checkCrew (N := N) hy (by omega)) csX10_92 dX10_setNeed_6 ⟨Nat.le_of_ble_eq_true rfl, Nat.le_of_ble_eq_true rfl⟩ (Nat.le_of_ble_eq_true rfl) rfl rfl (by omega) (by omega) (fun r h9 N9 q => q.elim) (fun E h9 N9 q => ?_)
  obtain ⟨rfl, rfl, q⟩ := q
  exact VX_out rfl ⟨rfl, rfl, q⟩

theorem x_setNeed2 (sp : SPI G h S st K) {t : Int} (ht : InR t) {y : Int} (hy : InR y) {x : Int} (hx : InR x) (ho : 0 ≤ t ∧ t < S 13 0 0) (ho2 : 0 ≤ y ∧ y < 4) (hb : ¬ (0 ≤ x ∧ x ≤ 9)) : CX G mX10_setNeed [.ref (cB G), JV t, JV y, JV x] h N 1 6 (noQ) (XE x_iae h N) := by
  have hT := sp.2.2.1.nT
  have hL := sp.2.2.1.nL
  refine CX_of (by decide +kernel) rfl (by simp [Value.category]) (Nat.le_of_ble_eq_true rfl) ?_
  change WP G mX10_setNeed _ _ _ _ h N 0 [some (.ref (cB G)), some (JV t), some (JV y), some (JV x), none, none] []
  refine wp_aload_n dX10_setNeed_0 rfl ?_
  refine wp_iload_n dX10_setNeed_1 rfl ?_
  refine wp_v1 1 6 (c_checkTask (N := N) sp.1 sp.2.1 (by have := sp.2.2.1.nT; have := sp.2.2.1.nL; omega) (by omega) (by omega)) cvX10_114 dX10_setNeed_2 ⟨Nat.le_of_ble_eq_true rfl, Nat.le_of_ble_eq_true rfl⟩ (Nat.le_of_ble_eq_true rfl) sp.1 rfl rfl (by omega) (by omega) (fun r h9 N9 hq => ?_)
  obtain ⟨rfl, hh9, hN9⟩ := hq
  rw [hN9]
  rw [hh9]
  change WP G mX10_setNeed _ _ _ _ h N 5 [some (.ref (cB G)), some (JV t), some (JV y), some (JV x), none, none] []
  refine wp_iload_n dX10_setNeed_5 rfl ?_
  refine wp_s1 1 6 (c_checkCrew (N := N) (by omega) (by omega)) csX10_92 dX10_setNeed_6 ⟨Nat.le_of_ble_eq_true rfl, Nat.le_of_ble_eq_true rfl⟩ (Nat.le_of_ble_eq_true rfl) (by omega) (by omega) (fun r h9 N9 hq => ?_)
  obtain ⟨rfl, hh9, hN9⟩ := hq
  rw [hN9]
  rw [hh9]
  change WP G mX10_setNeed _ _ _ _ h N 9 [some (.ref (cB G)), some (JV t), some (JV y), some (JV x), none, none] []
  refine wp_iload_n dX10_setNeed_9 rfl ?_
  refine wp_bipush dX10_setNeed_10 rfl ?_
  refine wp_s2p (c_isWithinR (N := N) hx ⟨by omega, by omega⟩) csX10_74 dX10_setNeed_12 ⟨Nat.le_of_ble_eq_true rfl, Nat.le_of_ble_eq_true rfl⟩ (Nat.le_of_ble_eq_true rfl) ?_
  rw [show bI (decide (0 ≤ x ∧ x ≤ 9)) = 0 from bI_np (by omega)]
  refine wp_callSx (k2 := 0) (n2 := 0) (x_checkArgument (N := N)) csX10_60 dX10_setNeed_15 ⟨Nat.le_of_ble_eq_true rfl, Nat.le_of_ble_eq_true rfl⟩ (Nat.le_of_ble_eq_true rfl) rfl rfl (by omega) (by omega) (fun r h9 N9 q => q.elim) (fun E h9 N9 q => ?_)
  obtain ⟨rfl, rfl, q⟩ := q
  exact VX_out rfl ⟨rfl, rfl, q⟩

theorem x_link0 (sp : SPI G h S st K) {t : Int} (ht : InR t) {y : Int} (hy : InR y) {x : Int} (hx : InR x) {z : Int} (hz : InR z) (hb : ¬ (0 ≤ t ∧ t < S 13 0 0)) : CX G mX10_link [.ref (cB G), JV t, JV y, JV x, JV z] h N 1 6 (noQ) (XE x_ioobe h N) := by
  have hT := sp.2.2.1.nT
  have hL := sp.2.2.1.nL
  refine CX_of (by decide +kernel) rfl (by simp [Value.category]) (Nat.le_of_ble_eq_true rfl) ?_
  change WP G mX10_link _ _ _ _ h N 0 [some (.ref (cB G)), some (JV t), some (JV y), some (JV x), some (JV z)] []
  refine wp_aload_n dX10_link_0 rfl ?_
  refine wp_iload_n dX10_link_1 rfl ?_
  refine wp_callVx (k2 := 0) (n2 := 0) (x_checkTask (N := N) sp.1 sp.2.1 (by have := sp.2.2.1.nT; have := sp.2.2.1.nL; omega) ht (by omega)) cvX10_114 dX10_link_2 ⟨Nat.le_of_ble_eq_true rfl, Nat.le_of_ble_eq_true rfl⟩ (Nat.le_of_ble_eq_true rfl) sp.1 rfl rfl rfl rfl (by omega) (by omega) (fun r h9 N9 q => q.elim) (fun E h9 N9 q => ?_)
  obtain ⟨rfl, rfl, q⟩ := q
  exact VX_out rfl ⟨rfl, rfl, q⟩

theorem x_link1 (sp : SPI G h S st K) {t : Int} (ht : InR t) {y : Int} (hy : InR y) {x : Int} (hx : InR x) {z : Int} (hz : InR z) (ho : 0 ≤ t ∧ t < S 13 0 0) (hb : ¬ (0 ≤ y ∧ y < S 13 0 0)) : CX G mX10_link [.ref (cB G), JV t, JV y, JV x, JV z] h N 1 6 (noQ) (XE x_ioobe h N) := by
  have hT := sp.2.2.1.nT
  have hL := sp.2.2.1.nL
  refine CX_of (by decide +kernel) rfl (by simp [Value.category]) (Nat.le_of_ble_eq_true rfl) ?_
  change WP G mX10_link _ _ _ _ h N 0 [some (.ref (cB G)), some (JV t), some (JV y), some (JV x), some (JV z)] []
  refine wp_aload_n dX10_link_0 rfl ?_
  refine wp_iload_n dX10_link_1 rfl ?_
  refine wp_v1 1 6 (c_checkTask (N := N) sp.1 sp.2.1 (by have := sp.2.2.1.nT; have := sp.2.2.1.nL; omega) (by omega) (by omega)) cvX10_114 dX10_link_2 ⟨Nat.le_of_ble_eq_true rfl, Nat.le_of_ble_eq_true rfl⟩ (Nat.le_of_ble_eq_true rfl) sp.1 rfl rfl (by omega) (by omega) (fun r h9 N9 hq => ?_)
  obtain ⟨rfl, hh9, hN9⟩ := hq
  rw [hN9]
  rw [hh9]
  change WP G mX10_link _ _ _ _ h N 5 [some (.ref (cB G)), some (JV t), some (JV y), some (JV x), some (JV z)] []
  refine wp_aload_n dX10_link_5 rfl ?_
  refine wp_iload_n dX10_link_6 rfl ?_
  refine wp_callVx (k2 := 0) (n2 := 0) (x_checkTask (N := N) sp.1 sp.2.1 (by have := sp.2.2.1.nT; have := sp.2.2.1.nL; omega) hy (by omega)) cvX10_114 dX10_link_7 ⟨Nat.le_of_ble_eq_true rfl, Nat.le_of_ble_eq_true rfl⟩ (Nat.le_of_ble_eq_true rfl) sp.1 rfl rfl rfl rfl (by omega) (by omega) (fun r h9 N9 q => q.elim) (fun E h9 N9 q => ?_)
  obtain ⟨rfl, rfl, q⟩ := q
  exact VX_out rfl ⟨rfl, rfl, q⟩

theorem x_link2 (sp : SPI G h S st K) {t : Int} (ht : InR t) {y : Int} (hy : InR y) {x : Int} (hx : InR x) {z : Int} (hz : InR z) (ho : 0 ≤ t ∧ t < S 13 0 0) (ho2 : 0 ≤ y ∧ y < S 13 0 0) (hb : ¬ ((0 ≤ x ∧ x ≤ 2) ∧ 0 ≤ z ∧ z ≤ 20)) : CX G mX10_link [.ref (cB G), JV t, JV y, JV x, JV z] h N 1 6 (noQ) (XE x_iae h N) := by
  have hT := sp.2.2.1.nT
  have hL := sp.2.2.1.nL
  refine CX_of (by decide +kernel) rfl (by simp [Value.category]) (Nat.le_of_ble_eq_true rfl) ?_
  change WP G mX10_link _ _ _ _ h N 0 [some (.ref (cB G)), some (JV t), some (JV y), some (JV x), some (JV z)] []
  refine wp_aload_n dX10_link_0 rfl ?_
  refine wp_iload_n dX10_link_1 rfl ?_
  refine wp_v1 1 6 (c_checkTask (N := N) sp.1 sp.2.1 (by have := sp.2.2.1.nT; have := sp.2.2.1.nL; omega) (by omega) (by omega)) cvX10_114 dX10_link_2 ⟨Nat.le_of_ble_eq_true rfl, Nat.le_of_ble_eq_true rfl⟩ (Nat.le_of_ble_eq_true rfl) sp.1 rfl rfl (by omega) (by omega) (fun r h9 N9 hq => ?_)
  obtain ⟨rfl, hh9, hN9⟩ := hq
  rw [hN9]
  rw [hh9]
  change WP G mX10_link _ _ _ _ h N 5 [some (.ref (cB G)), some (JV t), some (JV y), some (JV x), some (JV z)] []
  refine wp_aload_n dX10_link_5 rfl ?_
  refine wp_iload_n dX10_link_6 rfl ?_
  refine wp_v1 1 6 (c_checkTask (N := N) sp.1 sp.2.1 (by have := sp.2.2.1.nT; have := sp.2.2.1.nL; omega) (by omega) (by omega)) cvX10_114 dX10_link_7 ⟨Nat.le_of_ble_eq_true rfl, Nat.le_of_ble_eq_true rfl⟩ (Nat.le_of_ble_eq_true rfl) sp.1 rfl rfl (by omega) (by omega) (fun r h9 N9 hq => ?_)
  obtain ⟨rfl, hh9, hN9⟩ := hq
  rw [hN9]
  rw [hh9]
  change WP G mX10_link _ _ _ _ h N 10 [some (.ref (cB G)), some (JV t), some (JV y), some (JV x), some (JV z)] []
  refine wp_iload_n dX10_link_10 rfl ?_
  refine wp_iconst dX10_link_11 ?_
  refine wp_s2p (c_isWithinR (N := N) hx ⟨by omega, by omega⟩) csX10_74 dX10_link_12 ⟨Nat.le_of_ble_eq_true rfl, Nat.le_of_ble_eq_true rfl⟩ (Nat.le_of_ble_eq_true rfl) ?_
  refine wp_if_eq 32 dX10_link_15 (by decide) (bI_r _) (fun c_15 => ?_) (fun c_15 => ?_)
  · refine wp_iconst dX10_link_32 ?_
    refine wp_callSx (k2 := 0) (n2 := 0) (x_checkArgument (N := N)) csX10_60 dX10_link_33 ⟨Nat.le_of_ble_eq_true rfl, Nat.le_of_ble_eq_true rfl⟩ (Nat.le_of_ble_eq_true rfl) rfl rfl (by omega) (by omega) (fun r h9 N9 q => q.elim) (fun E h9 N9 q => ?_)
    obtain ⟨rfl, rfl, q⟩ := q
    exact VX_out rfl ⟨rfl, rfl, q⟩
  · have p_15 := bI_p c_15
    refine wp_iload dX10_link_18 rfl ?_
    refine wp_bipush dX10_link_20 rfl ?_
    refine wp_s2p (c_isWithinR (N := N) hz ⟨by omega, by omega⟩) csX10_74 dX10_link_22 ⟨Nat.le_of_ble_eq_true rfl, Nat.le_of_ble_eq_true rfl⟩ (Nat.le_of_ble_eq_true rfl) ?_
    refine wp_if_eq 32 dX10_link_25 (by decide) (bI_r _) (fun c_25 => ?_) (fun c_25 => ?_)
    · refine wp_iconst dX10_link_32 ?_
      refine wp_callSx (k2 := 0) (n2 := 0) (x_checkArgument (N := N)) csX10_60 dX10_link_33 ⟨Nat.le_of_ble_eq_true rfl, Nat.le_of_ble_eq_true rfl⟩ (Nat.le_of_ble_eq_true rfl) rfl rfl (by omega) (by omega) (fun r h9 N9 q => q.elim) (fun E h9 N9 q => ?_)
      obtain ⟨rfl, rfl, q⟩ := q
      exact VX_out rfl ⟨rfl, rfl, q⟩
    · have p_25 := bI_p c_25
      refine wp_iconst dX10_link_28 ?_
      refine wp_goto 33 dX10_link_29 (by decide) ?_
      exact absurd hb (by omega)

theorem x_drop0 (sp : SPI G h S st K) {t : Int} (ht : InR t) (hb : ¬ (0 ≤ t ∧ t < S 14 0 0)) : CX G mX10_drop [.ref (cB G), JV t] h N 1 6 (noQ) (XE x_ioobe h N) := by
  have hT := sp.2.2.1.nT
  have hL := sp.2.2.1.nL
  refine CX_of (by decide +kernel) rfl (by simp [Value.category]) (Nat.le_of_ble_eq_true rfl) ?_
  change WP G mX10_drop _ _ _ _ h N 0 [some (.ref (cB G)), some (JV t)] []
  refine wp_aload_n dX10_drop_0 rfl ?_
  refine wp_iload_n dX10_drop_1 rfl ?_
  refine wp_callVx (k2 := 0) (n2 := 0) (x_checkLink (N := N) sp.1 sp.2.1 (by have := sp.2.2.1.nT; have := sp.2.2.1.nL; omega) ht (by omega)) cvX10_146 dX10_drop_2 ⟨Nat.le_of_ble_eq_true rfl, Nat.le_of_ble_eq_true rfl⟩ (Nat.le_of_ble_eq_true rfl) sp.1 rfl rfl rfl rfl (by omega) (by omega) (fun r h9 N9 q => q.elim) (fun E h9 N9 q => ?_)
  obtain ⟨rfl, rfl, q⟩ := q
  exact VX_out rfl ⟨rfl, rfl, q⟩

theorem x_finish0 (sp : SPI G h S st K) {t : Int} (ht : InR t) {x : Int} (hx : InR x) {y : Int} (hy : InR y) (hb : ¬ (0 ≤ t ∧ t < S 13 0 0)) : CX G mX10_finish [.ref (cB G), JV t, JV x, JV y] h N 1 6 (noQ) (XE x_ioobe h N) := by
  have hT := sp.2.2.1.nT
  have hL := sp.2.2.1.nL
  refine CX_of (by decide +kernel) rfl (by simp [Value.category]) (Nat.le_of_ble_eq_true rfl) ?_
  change WP G mX10_finish _ _ _ _ h N 0 [some (.ref (cB G)), some (JV t), some (JV x), some (JV y), none, none] []
  refine wp_aload_n dX10_finish_0 rfl ?_
  refine wp_iload_n dX10_finish_1 rfl ?_
  refine wp_callVx (k2 := 0) (n2 := 0) (x_checkTask (N := N) sp.1 sp.2.1 (by have := sp.2.2.1.nT; have := sp.2.2.1.nL; omega) ht (by omega)) cvX10_114 dX10_finish_2 ⟨Nat.le_of_ble_eq_true rfl, Nat.le_of_ble_eq_true rfl⟩ (Nat.le_of_ble_eq_true rfl) sp.1 rfl rfl rfl rfl (by omega) (by omega) (fun r h9 N9 q => q.elim) (fun E h9 N9 q => ?_)
  obtain ⟨rfl, rfl, q⟩ := q
  exact VX_out rfl ⟨rfl, rfl, q⟩

theorem x_finish1 (sp : SPI G h S st K) {t : Int} (ht : InR t) {x : Int} (hx : InR x) {y : Int} (hy : InR y) (ho : 0 ≤ t ∧ t < S 13 0 0) (hb : ¬ ((0 ≤ x ∧ x ≤ 999) ∧ (0 ≤ y ∧ y ≤ 999) ∧ x ≤ y)) : CX G mX10_finish [.ref (cB G), JV t, JV x, JV y] h N 1 6 (noQ) (XE x_iae h N) := by
  have hT := sp.2.2.1.nT
  have hL := sp.2.2.1.nL
  refine CX_of (by decide +kernel) rfl (by simp [Value.category]) (Nat.le_of_ble_eq_true rfl) ?_
  change WP G mX10_finish _ _ _ _ h N 0 [some (.ref (cB G)), some (JV t), some (JV x), some (JV y), none, none] []
  refine wp_aload_n dX10_finish_0 rfl ?_
  refine wp_iload_n dX10_finish_1 rfl ?_
  refine wp_v1 1 6 (c_checkTask (N := N) sp.1 sp.2.1 (by have := sp.2.2.1.nT; have := sp.2.2.1.nL; omega) (by omega) (by omega)) cvX10_114 dX10_finish_2 ⟨Nat.le_of_ble_eq_true rfl, Nat.le_of_ble_eq_true rfl⟩ (Nat.le_of_ble_eq_true rfl) sp.1 rfl rfl (by omega) (by omega) (fun r h9 N9 hq => ?_)
  obtain ⟨rfl, hh9, hN9⟩ := hq
  rw [hN9]
  rw [hh9]
  change WP G mX10_finish _ _ _ _ h N 5 [some (.ref (cB G)), some (JV t), some (JV x), some (JV y), none, none] []
  refine wp_iload_n dX10_finish_5 rfl ?_
  refine wp_sipush dX10_finish_6 rfl ?_
  refine wp_s2p (c_isWithinR (N := N) hx ⟨by omega, by omega⟩) csX10_74 dX10_finish_9 ⟨Nat.le_of_ble_eq_true rfl, Nat.le_of_ble_eq_true rfl⟩ (Nat.le_of_ble_eq_true rfl) ?_
  refine wp_if_eq 34 dX10_finish_12 (by decide) (bI_r _) (fun c_12 => ?_) (fun c_12 => ?_)
  · refine wp_iconst dX10_finish_34 ?_
    refine wp_callSx (k2 := 0) (n2 := 0) (x_checkArgument (N := N)) csX10_60 dX10_finish_35 ⟨Nat.le_of_ble_eq_true rfl, Nat.le_of_ble_eq_true rfl⟩ (Nat.le_of_ble_eq_true rfl) rfl rfl (by omega) (by omega) (fun r h9 N9 q => q.elim) (fun E h9 N9 q => ?_)
    obtain ⟨rfl, rfl, q⟩ := q
    exact VX_out rfl ⟨rfl, rfl, q⟩
  · have p_12 := bI_p c_12
    refine wp_iload_n dX10_finish_15 rfl ?_
    refine wp_sipush dX10_finish_16 rfl ?_
    refine wp_s2p (c_isWithinR (N := N) hy ⟨by omega, by omega⟩) csX10_74 dX10_finish_19 ⟨Nat.le_of_ble_eq_true rfl, Nat.le_of_ble_eq_true rfl⟩ (Nat.le_of_ble_eq_true rfl) ?_
    refine wp_if_eq 34 dX10_finish_22 (by decide) (bI_r _) (fun c_22 => ?_) (fun c_22 => ?_)
    · refine wp_iconst dX10_finish_34 ?_
      refine wp_callSx (k2 := 0) (n2 := 0) (x_checkArgument (N := N)) csX10_60 dX10_finish_35 ⟨Nat.le_of_ble_eq_true rfl, Nat.le_of_ble_eq_true rfl⟩ (Nat.le_of_ble_eq_true rfl) rfl rfl (by omega) (by omega) (fun r h9 N9 q => q.elim) (fun E h9 N9 q => ?_)
      obtain ⟨rfl, rfl, q⟩ := q
      exact VX_out rfl ⟨rfl, rfl, q⟩
    · have p_22 := bI_p c_22
      refine wp_iload_n dX10_finish_25 rfl ?_
      refine wp_iload_n dX10_finish_26 rfl ?_
      refine wp_icmp_gt 34 dX10_finish_27 (by decide) hx hy (fun c_27 => ?_) (fun c_27 => ?_)
      · refine wp_iconst dX10_finish_34 ?_
        refine wp_callSx (k2 := 0) (n2 := 0) (x_checkArgument (N := N)) csX10_60 dX10_finish_35 ⟨Nat.le_of_ble_eq_true rfl, Nat.le_of_ble_eq_true rfl⟩ (Nat.le_of_ble_eq_true rfl) rfl rfl (by omega) (by omega) (fun r h9 N9 q => q.elim) (fun E h9 N9 q => ?_)
        obtain ⟨rfl, rfl, q⟩ := q
        exact VX_out rfl ⟨rfl, rfl, q⟩
      · refine wp_iconst dX10_finish_30 ?_
        refine wp_goto 35 dX10_finish_31 (by decide) ?_
        exact absurd hb (by omega)

theorem x_reopen0 (sp : SPI G h S st K) {t : Int} (ht : InR t) (hb : ¬ (0 ≤ t ∧ t < S 13 0 0)) : CX G mX10_reopen [.ref (cB G), JV t] h N 1 6 (noQ) (XE x_ioobe h N) := by
  have hT := sp.2.2.1.nT
  have hL := sp.2.2.1.nL
  refine CX_of (by decide +kernel) rfl (by simp [Value.category]) (Nat.le_of_ble_eq_true rfl) ?_
  change WP G mX10_reopen _ _ _ _ h N 0 [some (.ref (cB G)), some (JV t), none, none] []
  refine wp_aload_n dX10_reopen_0 rfl ?_
  refine wp_iload_n dX10_reopen_1 rfl ?_
  refine wp_callVx (k2 := 0) (n2 := 0) (x_checkTask (N := N) sp.1 sp.2.1 (by have := sp.2.2.1.nT; have := sp.2.2.1.nL; omega) ht (by omega)) cvX10_114 dX10_reopen_2 ⟨Nat.le_of_ble_eq_true rfl, Nat.le_of_ble_eq_true rfl⟩ (Nat.le_of_ble_eq_true rfl) sp.1 rfl rfl rfl rfl (by omega) (by omega) (fun r h9 N9 q => q.elim) (fun E h9 N9 q => ?_)
  obtain ⟨rfl, rfl, q⟩ := q
  exact VX_out rfl ⟨rfl, rfl, q⟩

theorem x_setRule0 (sp : SPI G h S st K) {x : Int} (hx : InR x) (hb : ¬ (0 ≤ x ∧ x ≤ 3)) : CX G mX10_setRule [.ref (cB G), JV x] h N 1 6 (noQ) (XE x_iae h N) := by
  have hT := sp.2.2.1.nT
  have hL := sp.2.2.1.nL
  refine CX_of (by decide +kernel) rfl (by simp [Value.category]) (Nat.le_of_ble_eq_true rfl) ?_
  change WP G mX10_setRule _ _ _ _ h N 0 [some (.ref (cB G)), some (JV x), none] []
  refine wp_iload_n dX10_setRule_0 rfl ?_
  refine wp_iconst dX10_setRule_1 ?_
  refine wp_s2p (c_isWithinR (N := N) hx ⟨by omega, by omega⟩) csX10_74 dX10_setRule_2 ⟨Nat.le_of_ble_eq_true rfl, Nat.le_of_ble_eq_true rfl⟩ (Nat.le_of_ble_eq_true rfl) ?_
  rw [show bI (decide (0 ≤ x ∧ x ≤ 3)) = 0 from bI_np (by omega)]
  refine wp_callSx (k2 := 0) (n2 := 0) (x_checkArgument (N := N)) csX10_60 dX10_setRule_5 ⟨Nat.le_of_ble_eq_true rfl, Nat.le_of_ble_eq_true rfl⟩ (Nat.le_of_ble_eq_true rfl) rfl rfl (by omega) (by omega) (fun r h9 N9 q => q.elim) (fun E h9 N9 q => ?_)
  obtain ⟨rfl, rfl, q⟩ := q
  exact VX_out rfl ⟨rfl, rfl, q⟩

theorem x_used0 (sp : SPI G h S st K) {t : Int} (ht : InR t) {d : Int} (hd : InR d) (hb : ¬ (0 ≤ t ∧ t < 4)) : CX G mX10_used [.ref (cB G), JV t, JV d] h N 1 6 (noQ) (XE x_ioobe h N) := by
  have hT := sp.2.2.1.nT
  have hL := sp.2.2.1.nL
  refine CX_of (by decide +kernel) rfl (by simp [Value.category]) (Nat.le_of_ble_eq_true rfl) ?_
  change WP G mX10_used _ _ _ _ h N 0 [some (.ref (cB G)), some (JV t), some (JV d)] []
  refine wp_iload_n dX10_used_0 rfl ?_
  refine wp_callSx (k2 := 0) (n2 := 0) (x_checkCrew (N := N) ht (by omega)) csX10_92 dX10_used_1 ⟨Nat.le_of_ble_eq_true rfl, Nat.le_of_ble_eq_true rfl⟩ (Nat.le_of_ble_eq_true rfl) rfl rfl (by omega) (by omega) (fun r h9 N9 q => q.elim) (fun E h9 N9 q => ?_)
  obtain ⟨rfl, rfl, q⟩ := q
  exact VX_out rfl ⟨rfl, rfl, q⟩

theorem x_used1 (sp : SPI G h S st K) {t : Int} (ht : InR t) {d : Int} (hd : InR d) (ho : 0 ≤ t ∧ t < 4) (hb : ¬ (0 ≤ d ∧ d ≤ 9999)) : CX G mX10_used [.ref (cB G), JV t, JV d] h N 1 6 (noQ) (XE x_iae h N) := by
  have hT := sp.2.2.1.nT
  have hL := sp.2.2.1.nL
  refine CX_of (by decide +kernel) rfl (by simp [Value.category]) (Nat.le_of_ble_eq_true rfl) ?_
  change WP G mX10_used _ _ _ _ h N 0 [some (.ref (cB G)), some (JV t), some (JV d)] []
  refine wp_iload_n dX10_used_0 rfl ?_
  refine wp_s1 1 6 (c_checkCrew (N := N) (by omega) (by omega)) csX10_92 dX10_used_1 ⟨Nat.le_of_ble_eq_true rfl, Nat.le_of_ble_eq_true rfl⟩ (Nat.le_of_ble_eq_true rfl) (by omega) (by omega) (fun r h9 N9 hq => ?_)
  obtain ⟨rfl, hh9, hN9⟩ := hq
  rw [hN9]
  rw [hh9]
  change WP G mX10_used _ _ _ _ h N 4 [some (.ref (cB G)), some (JV t), some (JV d)] []
  refine wp_iload_n dX10_used_4 rfl ?_
  refine wp_callSx (k2 := 0) (n2 := 0) (x_checkAskedDay (N := N) hd (by omega)) csX10_164 dX10_used_5 ⟨Nat.le_of_ble_eq_true rfl, Nat.le_of_ble_eq_true rfl⟩ (Nat.le_of_ble_eq_true rfl) rfl rfl (by omega) (by omega) (fun r h9 N9 q => q.elim) (fun E h9 N9 q => ?_)
  obtain ⟨rfl, rfl, q⟩ := q
  exact VX_out rfl ⟨rfl, rfl, q⟩

theorem x_earlyBegin0 (sp : SPI G h S st K) {t : Int} (ht : InR t) (hb : ¬ (0 ≤ t ∧ t < S 13 0 0)) : CX G mX10_earlyBegin [.ref (cB G), JV t] h N 1 6 (noQ) (XE x_ioobe h N) := by
  have hT := sp.2.2.1.nT
  have hL := sp.2.2.1.nL
  refine CX_of (by decide +kernel) rfl (by simp [Value.category]) (Nat.le_of_ble_eq_true rfl) ?_
  change WP G mX10_earlyBegin _ _ _ _ h N 0 [some (.ref (cB G)), some (JV t)] []
  refine wp_aload_n dX10_earlyBegin_0 rfl ?_
  refine wp_iload_n dX10_earlyBegin_1 rfl ?_
  refine wp_callVx (k2 := 0) (n2 := 0) (x_checkTask (N := N) sp.1 sp.2.1 (by have := sp.2.2.1.nT; have := sp.2.2.1.nL; omega) ht (by omega)) cvX10_114 dX10_earlyBegin_2 ⟨Nat.le_of_ble_eq_true rfl, Nat.le_of_ble_eq_true rfl⟩ (Nat.le_of_ble_eq_true rfl) sp.1 rfl rfl rfl rfl (by omega) (by omega) (fun r h9 N9 q => q.elim) (fun E h9 N9 q => ?_)
  obtain ⟨rfl, rfl, q⟩ := q
  exact VX_out rfl ⟨rfl, rfl, q⟩

theorem x_earlyEnd0 (sp : SPI G h S st K) {t : Int} (ht : InR t) (hb : ¬ (0 ≤ t ∧ t < S 13 0 0)) : CX G mX10_earlyEnd [.ref (cB G), JV t] h N 1 6 (noQ) (XE x_ioobe h N) := by
  have hT := sp.2.2.1.nT
  have hL := sp.2.2.1.nL
  refine CX_of (by decide +kernel) rfl (by simp [Value.category]) (Nat.le_of_ble_eq_true rfl) ?_
  change WP G mX10_earlyEnd _ _ _ _ h N 0 [some (.ref (cB G)), some (JV t)] []
  refine wp_aload_n dX10_earlyEnd_0 rfl ?_
  refine wp_iload_n dX10_earlyEnd_1 rfl ?_
  refine wp_callVx (k2 := 0) (n2 := 0) (x_checkTask (N := N) sp.1 sp.2.1 (by have := sp.2.2.1.nT; have := sp.2.2.1.nL; omega) ht (by omega)) cvX10_114 dX10_earlyEnd_2 ⟨Nat.le_of_ble_eq_true rfl, Nat.le_of_ble_eq_true rfl⟩ (Nat.le_of_ble_eq_true rfl) sp.1 rfl rfl rfl rfl (by omega) (by omega) (fun r h9 N9 q => q.elim) (fun E h9 N9 q => ?_)
  obtain ⟨rfl, rfl, q⟩ := q
  exact VX_out rfl ⟨rfl, rfl, q⟩

theorem x_lateBegin0 (sp : SPI G h S st K) {t : Int} (ht : InR t) (hb : ¬ (0 ≤ t ∧ t < S 13 0 0)) : CX G mX10_lateBegin [.ref (cB G), JV t] h N 1 6 (noQ) (XE x_ioobe h N) := by
  have hT := sp.2.2.1.nT
  have hL := sp.2.2.1.nL
  refine CX_of (by decide +kernel) rfl (by simp [Value.category]) (Nat.le_of_ble_eq_true rfl) ?_
  change WP G mX10_lateBegin _ _ _ _ h N 0 [some (.ref (cB G)), some (JV t)] []
  refine wp_aload_n dX10_lateBegin_0 rfl ?_
  refine wp_iload_n dX10_lateBegin_1 rfl ?_
  refine wp_callVx (k2 := 0) (n2 := 0) (x_checkTask (N := N) sp.1 sp.2.1 (by have := sp.2.2.1.nT; have := sp.2.2.1.nL; omega) ht (by omega)) cvX10_114 dX10_lateBegin_2 ⟨Nat.le_of_ble_eq_true rfl, Nat.le_of_ble_eq_true rfl⟩ (Nat.le_of_ble_eq_true rfl) sp.1 rfl rfl rfl rfl (by omega) (by omega) (fun r h9 N9 q => q.elim) (fun E h9 N9 q => ?_)
  obtain ⟨rfl, rfl, q⟩ := q
  exact VX_out rfl ⟨rfl, rfl, q⟩

theorem x_lateEnd0 (sp : SPI G h S st K) {t : Int} (ht : InR t) (hb : ¬ (0 ≤ t ∧ t < S 13 0 0)) : CX G mX10_lateEnd [.ref (cB G), JV t] h N 1 6 (noQ) (XE x_ioobe h N) := by
  have hT := sp.2.2.1.nT
  have hL := sp.2.2.1.nL
  refine CX_of (by decide +kernel) rfl (by simp [Value.category]) (Nat.le_of_ble_eq_true rfl) ?_
  change WP G mX10_lateEnd _ _ _ _ h N 0 [some (.ref (cB G)), some (JV t)] []
  refine wp_aload_n dX10_lateEnd_0 rfl ?_
  refine wp_iload_n dX10_lateEnd_1 rfl ?_
  refine wp_callVx (k2 := 0) (n2 := 0) (x_checkTask (N := N) sp.1 sp.2.1 (by have := sp.2.2.1.nT; have := sp.2.2.1.nL; omega) ht (by omega)) cvX10_114 dX10_lateEnd_2 ⟨Nat.le_of_ble_eq_true rfl, Nat.le_of_ble_eq_true rfl⟩ (Nat.le_of_ble_eq_true rfl) sp.1 rfl rfl rfl rfl (by omega) (by omega) (fun r h9 N9 q => q.elim) (fun E h9 N9 q => ?_)
  obtain ⟨rfl, rfl, q⟩ := q
  exact VX_out rfl ⟨rfl, rfl, q⟩

theorem x_room0 (sp : SPI G h S st K) {t : Int} (ht : InR t) (hb : ¬ (0 ≤ t ∧ t < S 13 0 0)) : CX G mX10_room [.ref (cB G), JV t] h N 1 6 (noQ) (XE x_ioobe h N) := by
  have hT := sp.2.2.1.nT
  have hL := sp.2.2.1.nL
  refine CX_of (by decide +kernel) rfl (by simp [Value.category]) (Nat.le_of_ble_eq_true rfl) ?_
  change WP G mX10_room _ _ _ _ h N 0 [some (.ref (cB G)), some (JV t)] []
  refine wp_aload_n dX10_room_0 rfl ?_
  refine wp_iload_n dX10_room_1 rfl ?_
  refine wp_callVx (k2 := 0) (n2 := 0) (x_checkTask (N := N) sp.1 sp.2.1 (by have := sp.2.2.1.nT; have := sp.2.2.1.nL; omega) ht (by omega)) cvX10_114 dX10_room_2 ⟨Nat.le_of_ble_eq_true rfl, Nat.le_of_ble_eq_true rfl⟩ (Nat.le_of_ble_eq_true rfl) sp.1 rfl rfl rfl rfl (by omega) (by omega) (fun r h9 N9 q => q.elim) (fun E h9 N9 q => ?_)
  obtain ⟨rfl, rfl, q⟩ := q
  exact VX_out rfl ⟨rfl, rfl, q⟩

theorem x_begin0 (sp : SPI G h S st K) {t : Int} (ht : InR t) (hb : ¬ (0 ≤ t ∧ t < S 13 0 0)) : CX G mX10_begin [.ref (cB G), JV t] h N 1 6 (noQ) (XE x_ioobe h N) := by
  have hT := sp.2.2.1.nT
  have hL := sp.2.2.1.nL
  refine CX_of (by decide +kernel) rfl (by simp [Value.category]) (Nat.le_of_ble_eq_true rfl) ?_
  change WP G mX10_begin _ _ _ _ h N 0 [some (.ref (cB G)), some (JV t)] []
  refine wp_aload_n dX10_begin_0 rfl ?_
  refine wp_iload_n dX10_begin_1 rfl ?_
  refine wp_callVx (k2 := 0) (n2 := 0) (x_checkTask (N := N) sp.1 sp.2.1 (by have := sp.2.2.1.nT; have := sp.2.2.1.nL; omega) ht (by omega)) cvX10_114 dX10_begin_2 ⟨Nat.le_of_ble_eq_true rfl, Nat.le_of_ble_eq_true rfl⟩ (Nat.le_of_ble_eq_true rfl) sp.1 rfl rfl rfl rfl (by omega) (by omega) (fun r h9 N9 q => q.elim) (fun E h9 N9 q => ?_)
  obtain ⟨rfl, rfl, q⟩ := q
  exact VX_out rfl ⟨rfl, rfl, q⟩

theorem x_end0 (sp : SPI G h S st K) {t : Int} (ht : InR t) (hb : ¬ (0 ≤ t ∧ t < S 13 0 0)) : CX G mX10_end [.ref (cB G), JV t] h N 1 6 (noQ) (XE x_ioobe h N) := by
  have hT := sp.2.2.1.nT
  have hL := sp.2.2.1.nL
  refine CX_of (by decide +kernel) rfl (by simp [Value.category]) (Nat.le_of_ble_eq_true rfl) ?_
  change WP G mX10_end _ _ _ _ h N 0 [some (.ref (cB G)), some (JV t)] []
  refine wp_aload_n dX10_end_0 rfl ?_
  refine wp_iload_n dX10_end_1 rfl ?_
  refine wp_callVx (k2 := 0) (n2 := 0) (x_checkTask (N := N) sp.1 sp.2.1 (by have := sp.2.2.1.nT; have := sp.2.2.1.nL; omega) ht (by omega)) cvX10_114 dX10_end_2 ⟨Nat.le_of_ble_eq_true rfl, Nat.le_of_ble_eq_true rfl⟩ (Nat.le_of_ble_eq_true rfl) sp.1 rfl rfl rfl rfl (by omega) (by omega) (fun r h9 N9 q => q.elim) (fun E h9 N9 q => ?_)
  obtain ⟨rfl, rfl, q⟩ := q
  exact VX_out rfl ⟨rfl, rfl, q⟩

theorem x_holds0 (sp : SPI G h S st K) {t : Int} (ht : InR t) (hb : ¬ (0 ≤ t ∧ t < S 13 0 0)) : CX G mX10_holds [.ref (cB G), JV t] h N 1 6 (noQ) (XE x_ioobe h N) := by
  have hT := sp.2.2.1.nT
  have hL := sp.2.2.1.nL
  refine CX_of (by decide +kernel) rfl (by simp [Value.category]) (Nat.le_of_ble_eq_true rfl) ?_
  change WP G mX10_holds _ _ _ _ h N 0 [some (.ref (cB G)), some (JV t)] []
  refine wp_aload_n dX10_holds_0 rfl ?_
  refine wp_iload_n dX10_holds_1 rfl ?_
  refine wp_callVx (k2 := 0) (n2 := 0) (x_checkTask (N := N) sp.1 sp.2.1 (by have := sp.2.2.1.nT; have := sp.2.2.1.nL; omega) ht (by omega)) cvX10_114 dX10_holds_2 ⟨Nat.le_of_ble_eq_true rfl, Nat.le_of_ble_eq_true rfl⟩ (Nat.le_of_ble_eq_true rfl) sp.1 rfl rfl rfl rfl (by omega) (by omega) (fun r h9 N9 q => q.elim) (fun E h9 N9 q => ?_)
  obtain ⟨rfl, rfl, q⟩ := q
  exact VX_out rfl ⟨rfl, rfl, q⟩

theorem x_heldBy0 (sp : SPI G h S st K) {t : Int} (ht : InR t) (hb : ¬ (0 ≤ t ∧ t < S 13 0 0)) : CX G mX10_heldBy [.ref (cB G), JV t] h N 1 6 (noQ) (XE x_ioobe h N) := by
  have hT := sp.2.2.1.nT
  have hL := sp.2.2.1.nL
  refine CX_of (by decide +kernel) rfl (by simp [Value.category]) (Nat.le_of_ble_eq_true rfl) ?_
  change WP G mX10_heldBy _ _ _ _ h N 0 [some (.ref (cB G)), some (JV t)] []
  refine wp_aload_n dX10_heldBy_0 rfl ?_
  refine wp_iload_n dX10_heldBy_1 rfl ?_
  refine wp_callVx (k2 := 0) (n2 := 0) (x_checkTask (N := N) sp.1 sp.2.1 (by have := sp.2.2.1.nT; have := sp.2.2.1.nL; omega) ht (by omega)) cvX10_114 dX10_heldBy_2 ⟨Nat.le_of_ble_eq_true rfl, Nat.le_of_ble_eq_true rfl⟩ (Nat.le_of_ble_eq_true rfl) sp.1 rfl rfl rfl rfl (by omega) (by omega) (fun r h9 N9 q => q.elim) (fun E h9 N9 q => ?_)
  obtain ⟨rfl, rfl, q⟩ := q
  exact VX_out rfl ⟨rfl, rfl, q⟩

theorem x_overloaded0 (sp : SPI G h S st K) {t : Int} (ht : InR t) (hb : ¬ (0 ≤ t ∧ t < 4)) : CX G mX10_overloaded [.ref (cB G), JV t] h N 1 6 (noQ) (XE x_ioobe h N) := by
  have hT := sp.2.2.1.nT
  have hL := sp.2.2.1.nL
  refine CX_of (by decide +kernel) rfl (by simp [Value.category]) (Nat.le_of_ble_eq_true rfl) ?_
  change WP G mX10_overloaded _ _ _ _ h N 0 [some (.ref (cB G)), some (JV t)] []
  refine wp_iload_n dX10_overloaded_0 rfl ?_
  refine wp_callSx (k2 := 0) (n2 := 0) (x_checkCrew (N := N) ht (by omega)) csX10_92 dX10_overloaded_1 ⟨Nat.le_of_ble_eq_true rfl, Nat.le_of_ble_eq_true rfl⟩ (Nat.le_of_ble_eq_true rfl) rfl rfl (by omega) (by omega) (fun r h9 N9 q => q.elim) (fun E h9 N9 q => ?_)
  obtain ⟨rfl, rfl, q⟩ := q
  exact VX_out rfl ⟨rfl, rfl, q⟩

theorem x_peak0 (sp : SPI G h S st K) {t : Int} (ht : InR t) (hb : ¬ (0 ≤ t ∧ t < 4)) : CX G mX10_peak [.ref (cB G), JV t] h N 1 6 (noQ) (XE x_ioobe h N) := by
  have hT := sp.2.2.1.nT
  have hL := sp.2.2.1.nL
  refine CX_of (by decide +kernel) rfl (by simp [Value.category]) (Nat.le_of_ble_eq_true rfl) ?_
  change WP G mX10_peak _ _ _ _ h N 0 [some (.ref (cB G)), some (JV t)] []
  refine wp_iload_n dX10_peak_0 rfl ?_
  refine wp_callSx (k2 := 0) (n2 := 0) (x_checkCrew (N := N) ht (by omega)) csX10_92 dX10_peak_1 ⟨Nat.le_of_ble_eq_true rfl, Nat.le_of_ble_eq_true rfl⟩ (Nat.le_of_ble_eq_true rfl) rfl rfl (by omega) (by omega) (fun r h9 N9 q => q.elim) (fun E h9 N9 q => ?_)
  obtain ⟨rfl, rfl, q⟩ := q
  exact VX_out rfl ⟨rfl, rfl, q⟩

theorem x_idle0 (sp : SPI G h S st K) {t : Int} (ht : InR t) (hb : ¬ (0 ≤ t ∧ t < 4)) : CX G mX10_idle [.ref (cB G), JV t] h N 1 6 (noQ) (XE x_ioobe h N) := by
  have hT := sp.2.2.1.nT
  have hL := sp.2.2.1.nL
  refine CX_of (by decide +kernel) rfl (by simp [Value.category]) (Nat.le_of_ble_eq_true rfl) ?_
  change WP G mX10_idle _ _ _ _ h N 0 [some (.ref (cB G)), some (JV t)] []
  refine wp_iload_n dX10_idle_0 rfl ?_
  refine wp_callSx (k2 := 0) (n2 := 0) (x_checkCrew (N := N) ht (by omega)) csX10_92 dX10_idle_1 ⟨Nat.le_of_ble_eq_true rfl, Nat.le_of_ble_eq_true rfl⟩ (Nat.le_of_ble_eq_true rfl) rfl rfl (by omega) (by omega) (fun r h9 N9 q => q.elim) (fun E h9 N9 q => ?_)
  obtain ⟨rfl, rfl, q⟩ := q
  exact VX_out rfl ⟨rfl, rfl, q⟩

theorem x_planned0 (sp : SPI G h S st K) {d : Int} (hd : InR d) (hb : ¬ (0 ≤ d ∧ d ≤ 9999)) : CX G mX10_planned [.ref (cB G), JV d] h N 1 6 (noQ) (XE x_iae h N) := by
  have hT := sp.2.2.1.nT
  have hL := sp.2.2.1.nL
  refine CX_of (by decide +kernel) rfl (by simp [Value.category]) (Nat.le_of_ble_eq_true rfl) ?_
  change WP G mX10_planned _ _ _ _ h N 0 [some (.ref (cB G)), some (JV d)] []
  refine wp_iload_n dX10_planned_0 rfl ?_
  refine wp_callSx (k2 := 0) (n2 := 0) (x_checkAskedDay (N := N) hd (by omega)) csX10_164 dX10_planned_1 ⟨Nat.le_of_ble_eq_true rfl, Nat.le_of_ble_eq_true rfl⟩ (Nat.le_of_ble_eq_true rfl) rfl rfl (by omega) (by omega) (fun r h9 N9 q => q.elim) (fun E h9 N9 q => ?_)
  obtain ⟨rfl, rfl, q⟩ := q
  exact VX_out rfl ⟨rfl, rfl, q⟩

end Bad

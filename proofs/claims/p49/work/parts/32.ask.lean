/-! ===== what is asked of the planner ===== -/
/-- what is reckoned for S -/
def FV (S : ST) (eb ee lb le rm : Nat → Int) (ld : Int) (od : Nat → Int) : Prop := (PB eb ee ∧ PB lb le ∧ RB rm) ∧ (EP S eb ee ∧ RG S eb ee ∧ LDY S ee ld) ∧ (LATE S eb lb le rm ld ∧ RG S lb le) ∧ ∃ u, LI (lvAll S lb rm (S 15 0 0) od) u
section Ask
variable {G : Ctx} {h : AH} {N : Nat} {S : ST} {st : Int} {K : KTup}
theorem SPI.fresh (p : SPI G h S 0 K) : FRESH G h S := by
  rcases p.2.2.2.2.2.2.2.1 with q | q
  · exact absurd q.1 (by decide)
  · exact q.2
theorem c_earlyBegin {t : Nat} (sp : SPI G h S st K) (ht : (t : Int) < S 13 0 0) : CT G mX10_earlyBegin [.ref (cB G), JV (t : Int)] h N 0 0 (fun r h' N' => N' = N ∧ SPI G h' S 0 K ∧ ∃ v : Int, r = some (JV v) ∧ ∃ eb ee lb le rm ld od, FV S eb ee lb le rm ld od ∧ v = eb t) := by
  have hT := sp.2.2.1.nT
  have ht24 : t < 24 := by omega
  refine CT_of (by decide +kernel) rfl (by simp [Value.category]) (Nat.le_of_ble_eq_true rfl) ?_
  change WP G mX10_earlyBegin _ noX _ _ h N 0 [some (.ref (cB G)), some (JV (t : Int))] []
  refine wp_aload_n dX10_earlyBegin_0 rfl ?_
  refine wp_iload_n dX10_earlyBegin_1 rfl ?_
  refine wp_v1 0 0 (c_checkTask (N := N) sp.1 sp.2.1 (by have := sp.2.2.1.nT; omega) (by omega) ht) cvX10_114 dX10_earlyBegin_2 ⟨Nat.le_of_ble_eq_true rfl, Nat.le_of_ble_eq_true rfl⟩ (Nat.le_of_ble_eq_true rfl) sp.1 rfl rfl (by omega) (by omega) (fun r h9 N9 hq => ?_)
  obtain ⟨rfl, hh9, hN9⟩ := hq
  rw [hN9]
  rw [hh9]
  change WP G mX10_earlyBegin _ _ _ _ h N 5 [some (.ref (cB G)), some (JV (t : Int))] []
  refine wp_aload_n dX10_earlyBegin_5 rfl ?_
  refine wp_v0 0 0 (c_refresh (N := N) sp) cvX10_171 dX10_earlyBegin_6 ⟨Nat.le_of_ble_eq_true rfl, Nat.le_of_ble_eq_true rfl⟩ (Nat.le_of_ble_eq_true rfl) sp.1 rfl rfl (by omega) (by omega) (fun r h9 N9 hq => ?_)
  obtain ⟨rfl, hN9, sp9⟩ := hq
  rw [hN9]
  have sp8 := sp9
  obtain ⟨eb, ee, lb, le, rm, ld, wu, od, u9, W9, fa, fb, fc, fd, V9, li9⟩ := sp9.fresh
  obtain ⟨hs9, H9, w9, tp9, nt9, lt9, kp9, cc9⟩ := sp9
  have fv : FV S eb ee lb le rm ld od := ⟨fa, fb, fc, u9, li9⟩
  clear cc9
  change WP G mX10_earlyBegin _ _ _ _ h9 N 9 [some (.ref (cB G)), some (JV (t : Int))] []
  refine wp_aload_n dX10_earlyBegin_9 rfl ?_
  refine wp_get fkX10_21 dX10_earlyBegin_10 hs9 rfl ?_
  refine wp_get fkX10_174 dX10_earlyBegin_13 W9.1 rfl ?_
  refine wp_get fkX10_178 dX10_earlyBegin_16 W9.2.1.1 rfl ?_
  refine wp_iload_n dX10_earlyBegin_19 rfl ?_
  refine wp_iaload dX10_earlyBegin_20 W9.2.1.2.1 (by omega) (by omega) (by omega) ?_
  change WP G mX10_earlyBegin _ _ _ _ h9 N 21 [some (.ref (cB G)), some (JV (t : Int))] [JV (eb t)]
  refine wp_iret dX10_earlyBegin_21 rfl ?_
  exact ⟨rfl, sp8, _, rfl, eb, ee, lb, le, rm, ld, od, fv, rfl⟩

theorem c_earlyEnd {t : Nat} (sp : SPI G h S st K) (ht : (t : Int) < S 13 0 0) : CT G mX10_earlyEnd [.ref (cB G), JV (t : Int)] h N 0 0 (fun r h' N' => N' = N ∧ SPI G h' S 0 K ∧ ∃ v : Int, r = some (JV v) ∧ ∃ eb ee lb le rm ld od, FV S eb ee lb le rm ld od ∧ v = ee t) := by
  have hT := sp.2.2.1.nT
  have ht24 : t < 24 := by omega
  refine CT_of (by decide +kernel) rfl (by simp [Value.category]) (Nat.le_of_ble_eq_true rfl) ?_
  change WP G mX10_earlyEnd _ noX _ _ h N 0 [some (.ref (cB G)), some (JV (t : Int))] []
  refine wp_aload_n dX10_earlyEnd_0 rfl ?_
  refine wp_iload_n dX10_earlyEnd_1 rfl ?_
  refine wp_v1 0 0 (c_checkTask (N := N) sp.1 sp.2.1 (by have := sp.2.2.1.nT; omega) (by omega) ht) cvX10_114 dX10_earlyEnd_2 ⟨Nat.le_of_ble_eq_true rfl, Nat.le_of_ble_eq_true rfl⟩ (Nat.le_of_ble_eq_true rfl) sp.1 rfl rfl (by omega) (by omega) (fun r h9 N9 hq => ?_)
  obtain ⟨rfl, hh9, hN9⟩ := hq
  rw [hN9]
  rw [hh9]
  change WP G mX10_earlyEnd _ _ _ _ h N 5 [some (.ref (cB G)), some (JV (t : Int))] []
  refine wp_aload_n dX10_earlyEnd_5 rfl ?_
  refine wp_v0 0 0 (c_refresh (N := N) sp) cvX10_171 dX10_earlyEnd_6 ⟨Nat.le_of_ble_eq_true rfl, Nat.le_of_ble_eq_true rfl⟩ (Nat.le_of_ble_eq_true rfl) sp.1 rfl rfl (by omega) (by omega) (fun r h9 N9 hq => ?_)
  obtain ⟨rfl, hN9, sp9⟩ := hq
  rw [hN9]
  have sp8 := sp9
  obtain ⟨eb, ee, lb, le, rm, ld, wu, od, u9, W9, fa, fb, fc, fd, V9, li9⟩ := sp9.fresh
  obtain ⟨hs9, H9, w9, tp9, nt9, lt9, kp9, cc9⟩ := sp9
  have fv : FV S eb ee lb le rm ld od := ⟨fa, fb, fc, u9, li9⟩
  clear cc9
  change WP G mX10_earlyEnd _ _ _ _ h9 N 9 [some (.ref (cB G)), some (JV (t : Int))] []
  refine wp_aload_n dX10_earlyEnd_9 rfl ?_
  refine wp_get fkX10_21 dX10_earlyEnd_10 hs9 rfl ?_
  refine wp_get fkX10_174 dX10_earlyEnd_13 W9.1 rfl ?_
  refine wp_get fkX10_183 dX10_earlyEnd_16 W9.2.1.1 rfl ?_
  refine wp_iload_n dX10_earlyEnd_19 rfl ?_
  refine wp_iaload dX10_earlyEnd_20 W9.2.1.2.2 (by omega) (by omega) (by omega) ?_
  change WP G mX10_earlyEnd _ _ _ _ h9 N 21 [some (.ref (cB G)), some (JV (t : Int))] [JV (ee t)]
  refine wp_iret dX10_earlyEnd_21 rfl ?_
  exact ⟨rfl, sp8, _, rfl, eb, ee, lb, le, rm, ld, od, fv, rfl⟩

theorem c_lateBegin {t : Nat} (sp : SPI G h S st K) (ht : (t : Int) < S 13 0 0) : CT G mX10_lateBegin [.ref (cB G), JV (t : Int)] h N 0 0 (fun r h' N' => N' = N ∧ SPI G h' S 0 K ∧ ∃ v : Int, r = some (JV v) ∧ ∃ eb ee lb le rm ld od, FV S eb ee lb le rm ld od ∧ v = lb t) := by
  have hT := sp.2.2.1.nT
  have ht24 : t < 24 := by omega
  refine CT_of (by decide +kernel) rfl (by simp [Value.category]) (Nat.le_of_ble_eq_true rfl) ?_
  change WP G mX10_lateBegin _ noX _ _ h N 0 [some (.ref (cB G)), some (JV (t : Int))] []
  refine wp_aload_n dX10_lateBegin_0 rfl ?_
  refine wp_iload_n dX10_lateBegin_1 rfl ?_
  refine wp_v1 0 0 (c_checkTask (N := N) sp.1 sp.2.1 (by have := sp.2.2.1.nT; omega) (by omega) ht) cvX10_114 dX10_lateBegin_2 ⟨Nat.le_of_ble_eq_true rfl, Nat.le_of_ble_eq_true rfl⟩ (Nat.le_of_ble_eq_true rfl) sp.1 rfl rfl (by omega) (by omega) (fun r h9 N9 hq => ?_)
  obtain ⟨rfl, hh9, hN9⟩ := hq
  rw [hN9]
  rw [hh9]
  change WP G mX10_lateBegin _ _ _ _ h N 5 [some (.ref (cB G)), some (JV (t : Int))] []
  refine wp_aload_n dX10_lateBegin_5 rfl ?_
  refine wp_v0 0 0 (c_refresh (N := N) sp) cvX10_171 dX10_lateBegin_6 ⟨Nat.le_of_ble_eq_true rfl, Nat.le_of_ble_eq_true rfl⟩ (Nat.le_of_ble_eq_true rfl) sp.1 rfl rfl (by omega) (by omega) (fun r h9 N9 hq => ?_)
  obtain ⟨rfl, hN9, sp9⟩ := hq
  rw [hN9]
  have sp8 := sp9
  obtain ⟨eb, ee, lb, le, rm, ld, wu, od, u9, W9, fa, fb, fc, fd, V9, li9⟩ := sp9.fresh
  obtain ⟨hs9, H9, w9, tp9, nt9, lt9, kp9, cc9⟩ := sp9
  have fv : FV S eb ee lb le rm ld od := ⟨fa, fb, fc, u9, li9⟩
  clear cc9
  change WP G mX10_lateBegin _ _ _ _ h9 N 9 [some (.ref (cB G)), some (JV (t : Int))] []
  refine wp_aload_n dX10_lateBegin_9 rfl ?_
  refine wp_get fkX10_21 dX10_lateBegin_10 hs9 rfl ?_
  refine wp_get fkX10_186 dX10_lateBegin_13 W9.1 rfl ?_
  refine wp_get fkX10_178 dX10_lateBegin_16 W9.2.2.1.1 rfl ?_
  refine wp_iload_n dX10_lateBegin_19 rfl ?_
  refine wp_iaload dX10_lateBegin_20 W9.2.2.1.2.1 (by omega) (by omega) (by omega) ?_
  change WP G mX10_lateBegin _ _ _ _ h9 N 21 [some (.ref (cB G)), some (JV (t : Int))] [JV (lb t)]
  refine wp_iret dX10_lateBegin_21 rfl ?_
  exact ⟨rfl, sp8, _, rfl, eb, ee, lb, le, rm, ld, od, fv, rfl⟩

theorem c_lateEnd {t : Nat} (sp : SPI G h S st K) (ht : (t : Int) < S 13 0 0) : CT G mX10_lateEnd [.ref (cB G), JV (t : Int)] h N 0 0 (fun r h' N' => N' = N ∧ SPI G h' S 0 K ∧ ∃ v : Int, r = some (JV v) ∧ ∃ eb ee lb le rm ld od, FV S eb ee lb le rm ld od ∧ v = le t) := by
  have hT := sp.2.2.1.nT
  have ht24 : t < 24 := by omega
  refine CT_of (by decide +kernel) rfl (by simp [Value.category]) (Nat.le_of_ble_eq_true rfl) ?_
  change WP G mX10_lateEnd _ noX _ _ h N 0 [some (.ref (cB G)), some (JV (t : Int))] []
  refine wp_aload_n dX10_lateEnd_0 rfl ?_
  refine wp_iload_n dX10_lateEnd_1 rfl ?_
  refine wp_v1 0 0 (c_checkTask (N := N) sp.1 sp.2.1 (by have := sp.2.2.1.nT; omega) (by omega) ht) cvX10_114 dX10_lateEnd_2 ⟨Nat.le_of_ble_eq_true rfl, Nat.le_of_ble_eq_true rfl⟩ (Nat.le_of_ble_eq_true rfl) sp.1 rfl rfl (by omega) (by omega) (fun r h9 N9 hq => ?_)
  obtain ⟨rfl, hh9, hN9⟩ := hq
  rw [hN9]
  rw [hh9]
  change WP G mX10_lateEnd _ _ _ _ h N 5 [some (.ref (cB G)), some (JV (t : Int))] []
  refine wp_aload_n dX10_lateEnd_5 rfl ?_
  refine wp_v0 0 0 (c_refresh (N := N) sp) cvX10_171 dX10_lateEnd_6 ⟨Nat.le_of_ble_eq_true rfl, Nat.le_of_ble_eq_true rfl⟩ (Nat.le_of_ble_eq_true rfl) sp.1 rfl rfl (by omega) (by omega) (fun r h9 N9 hq => ?_)
  obtain ⟨rfl, hN9, sp9⟩ := hq
  rw [hN9]
  have sp8 := sp9
  obtain ⟨eb, ee, lb, le, rm, ld, wu, od, u9, W9, fa, fb, fc, fd, V9, li9⟩ := sp9.fresh
  obtain ⟨hs9, H9, w9, tp9, nt9, lt9, kp9, cc9⟩ := sp9
  have fv : FV S eb ee lb le rm ld od := ⟨fa, fb, fc, u9, li9⟩
  clear cc9
  change WP G mX10_lateEnd _ _ _ _ h9 N 9 [some (.ref (cB G)), some (JV (t : Int))] []
  refine wp_aload_n dX10_lateEnd_9 rfl ?_
  refine wp_get fkX10_21 dX10_lateEnd_10 hs9 rfl ?_
  refine wp_get fkX10_186 dX10_lateEnd_13 W9.1 rfl ?_
  refine wp_get fkX10_183 dX10_lateEnd_16 W9.2.2.1.1 rfl ?_
  refine wp_iload_n dX10_lateEnd_19 rfl ?_
  refine wp_iaload dX10_lateEnd_20 W9.2.2.1.2.2 (by omega) (by omega) (by omega) ?_
  change WP G mX10_lateEnd _ _ _ _ h9 N 21 [some (.ref (cB G)), some (JV (t : Int))] [JV (le t)]
  refine wp_iret dX10_lateEnd_21 rfl ?_
  exact ⟨rfl, sp8, _, rfl, eb, ee, lb, le, rm, ld, od, fv, rfl⟩

theorem c_room {t : Nat} (sp : SPI G h S st K) (ht : (t : Int) < S 13 0 0) : CT G mX10_room [.ref (cB G), JV (t : Int)] h N 0 0 (fun r h' N' => N' = N ∧ SPI G h' S 0 K ∧ ∃ v : Int, r = some (JV v) ∧ ∃ eb ee lb le rm ld od, FV S eb ee lb le rm ld od ∧ v = rm t) := by
  have hT := sp.2.2.1.nT
  have ht24 : t < 24 := by omega
  refine CT_of (by decide +kernel) rfl (by simp [Value.category]) (Nat.le_of_ble_eq_true rfl) ?_
  change WP G mX10_room _ noX _ _ h N 0 [some (.ref (cB G)), some (JV (t : Int))] []
  refine wp_aload_n dX10_room_0 rfl ?_
  refine wp_iload_n dX10_room_1 rfl ?_
  refine wp_v1 0 0 (c_checkTask (N := N) sp.1 sp.2.1 (by have := sp.2.2.1.nT; omega) (by omega) ht) cvX10_114 dX10_room_2 ⟨Nat.le_of_ble_eq_true rfl, Nat.le_of_ble_eq_true rfl⟩ (Nat.le_of_ble_eq_true rfl) sp.1 rfl rfl (by omega) (by omega) (fun r h9 N9 hq => ?_)
  obtain ⟨rfl, hh9, hN9⟩ := hq
  rw [hN9]
  rw [hh9]
  change WP G mX10_room _ _ _ _ h N 5 [some (.ref (cB G)), some (JV (t : Int))] []
  refine wp_aload_n dX10_room_5 rfl ?_
  refine wp_v0 0 0 (c_refresh (N := N) sp) cvX10_171 dX10_room_6 ⟨Nat.le_of_ble_eq_true rfl, Nat.le_of_ble_eq_true rfl⟩ (Nat.le_of_ble_eq_true rfl) sp.1 rfl rfl (by omega) (by omega) (fun r h9 N9 hq => ?_)
  obtain ⟨rfl, hN9, sp9⟩ := hq
  rw [hN9]
  have sp8 := sp9
  obtain ⟨eb, ee, lb, le, rm, ld, wu, od, u9, W9, fa, fb, fc, fd, V9, li9⟩ := sp9.fresh
  obtain ⟨hs9, H9, w9, tp9, nt9, lt9, kp9, cc9⟩ := sp9
  have fv : FV S eb ee lb le rm ld od := ⟨fa, fb, fc, u9, li9⟩
  clear cc9
  change WP G mX10_room _ _ _ _ h9 N 9 [some (.ref (cB G)), some (JV (t : Int))] []
  refine wp_aload_n dX10_room_9 rfl ?_
  refine wp_get fkX10_21 dX10_room_10 hs9 rfl ?_
  refine wp_get fkX10_189 dX10_room_13 W9.1 rfl ?_
  refine wp_iload_n dX10_room_16 rfl ?_
  refine wp_iaload dX10_room_17 W9.2.2.2 (by omega) (by omega) (by omega) ?_
  change WP G mX10_room _ _ _ _ h9 N 18 [some (.ref (cB G)), some (JV (t : Int))] [JV (rm t)]
  refine wp_iret dX10_room_18 rfl ?_
  exact ⟨rfl, sp8, _, rfl, eb, ee, lb, le, rm, ld, od, fv, rfl⟩

theorem c_last (sp : SPI G h S st K) : CT G mX10_last [.ref (cB G)] h N 0 0 (fun r h' N' => N' = N ∧ SPI G h' S 0 K ∧ ∃ v : Int, r = some (JV v) ∧ ∃ eb ee lb le rm ld od, FV S eb ee lb le rm ld od ∧ v = ld) := by
  refine CT_of (by decide +kernel) rfl (by simp [Value.category]) (Nat.le_of_ble_eq_true rfl) ?_
  change WP G mX10_last _ noX _ _ h N 0 [some (.ref (cB G))] []
  refine wp_aload_n dX10_last_0 rfl ?_
  refine wp_v0 0 0 (c_refresh (N := N) sp) cvX10_171 dX10_last_1 ⟨Nat.le_of_ble_eq_true rfl, Nat.le_of_ble_eq_true rfl⟩ (Nat.le_of_ble_eq_true rfl) sp.1 rfl rfl (by omega) (by omega) (fun r h9 N9 hq => ?_)
  obtain ⟨rfl, hN9, sp9⟩ := hq
  rw [hN9]
  have sp8 := sp9
  obtain ⟨eb, ee, lb, le, rm, ld, wu, od, u9, W9, fa, fb, fc, fd, V9, li9⟩ := sp9.fresh
  obtain ⟨hs9, H9, w9, tp9, nt9, lt9, kp9, cc9⟩ := sp9
  have fv : FV S eb ee lb le rm ld od := ⟨fa, fb, fc, u9, li9⟩
  clear cc9
  change WP G mX10_last _ _ _ _ h9 N 4 [some (.ref (cB G))] []
  refine wp_aload_n dX10_last_4 rfl ?_
  refine wp_get fkX10_21 dX10_last_5 hs9 rfl ?_
  refine wp_get fkX10_192 dX10_last_8 W9.1 rfl ?_
  refine wp_iret dX10_last_11 rfl ?_
  exact ⟨rfl, sp8, _, rfl, eb, ee, lb, le, rm, ld, od, fv, rfl⟩

theorem c_tight (sp : SPI G h S st K) : CT G mX10_tight [.ref (cB G)] h N 0 0 (fun r h' N' => N' = N ∧ SPI G h' S 0 K ∧ ∃ v : Int, r = some (JV v) ∧ ∃ eb ee lb le rm ld od, FV S eb ee lb le rm ld od ∧ v = tgt S rm (S 13 0 0).toNat 0) := by
  refine CT_of (by decide +kernel) rfl (by simp [Value.category]) (Nat.le_of_ble_eq_true rfl) ?_
  change WP G mX10_tight _ noX _ _ h N 0 [some (.ref (cB G))] []
  refine wp_aload_n dX10_tight_0 rfl ?_
  refine wp_v0 0 0 (c_refresh (N := N) sp) cvX10_171 dX10_tight_1 ⟨Nat.le_of_ble_eq_true rfl, Nat.le_of_ble_eq_true rfl⟩ (Nat.le_of_ble_eq_true rfl) sp.1 rfl rfl (by omega) (by omega) (fun r h9 N9 hq => ?_)
  obtain ⟨rfl, hN9, sp9⟩ := hq
  rw [hN9]
  have sp8 := sp9
  obtain ⟨eb, ee, lb, le, rm, ld, wu, od, u9, W9, fa, fb, fc, fd, V9, li9⟩ := sp9.fresh
  obtain ⟨hs9, H9, w9, tp9, nt9, lt9, kp9, cc9⟩ := sp9
  have fv : FV S eb ee lb le rm ld od := ⟨fa, fb, fc, u9, li9⟩
  clear cc9
  change WP G mX10_tight _ _ _ _ h9 N 4 [some (.ref (cB G))] []
  refine wp_aload_n dX10_tight_4 rfl ?_
  refine wp_get fkX10_21 dX10_tight_5 hs9 rfl ?_
  refine wp_v0p (c_countTight (N := N) W9 H9 w9 fa.2.2) cvX10_195 dX10_tight_8 ⟨Nat.le_of_ble_eq_true rfl, Nat.le_of_ble_eq_true rfl⟩ (Nat.le_of_ble_eq_true rfl) W9.1 rfl rfl ?_
  refine wp_iret dX10_tight_11 rfl ?_
  exact ⟨rfl, sp8, _, rfl, eb, ee, lb, le, rm, ld, od, fv, rfl⟩

theorem c_begin {t : Nat} (sp : SPI G h S st K) (ht : (t : Int) < S 13 0 0) : CT G mX10_begin [.ref (cB G), JV (t : Int)] h N 0 0 (fun r h' N' => N' = N ∧ SPI G h' S 0 K ∧ ∃ v : Int, r = some (JV v) ∧ ∃ eb ee lb le rm ld od, FV S eb ee lb le rm ld od ∧ v = (lvAll S lb rm (S 15 0 0) od).1 t) := by
  have hT := sp.2.2.1.nT
  have ht24 : t < 24 := by omega
  refine CT_of (by decide +kernel) rfl (by simp [Value.category]) (Nat.le_of_ble_eq_true rfl) ?_
  change WP G mX10_begin _ noX _ _ h N 0 [some (.ref (cB G)), some (JV (t : Int))] []
  refine wp_aload_n dX10_begin_0 rfl ?_
  refine wp_iload_n dX10_begin_1 rfl ?_
  refine wp_v1 0 0 (c_checkTask (N := N) sp.1 sp.2.1 (by have := sp.2.2.1.nT; omega) (by omega) ht) cvX10_114 dX10_begin_2 ⟨Nat.le_of_ble_eq_true rfl, Nat.le_of_ble_eq_true rfl⟩ (Nat.le_of_ble_eq_true rfl) sp.1 rfl rfl (by omega) (by omega) (fun r h9 N9 hq => ?_)
  obtain ⟨rfl, hh9, hN9⟩ := hq
  rw [hN9]
  rw [hh9]
  change WP G mX10_begin _ _ _ _ h N 5 [some (.ref (cB G)), some (JV (t : Int))] []
  refine wp_aload_n dX10_begin_5 rfl ?_
  refine wp_v0 0 0 (c_refresh (N := N) sp) cvX10_171 dX10_begin_6 ⟨Nat.le_of_ble_eq_true rfl, Nat.le_of_ble_eq_true rfl⟩ (Nat.le_of_ble_eq_true rfl) sp.1 rfl rfl (by omega) (by omega) (fun r h9 N9 hq => ?_)
  obtain ⟨rfl, hN9, sp9⟩ := hq
  rw [hN9]
  have sp8 := sp9
  obtain ⟨eb, ee, lb, le, rm, ld, wu, od, u9, W9, fa, fb, fc, fd, V9, li9⟩ := sp9.fresh
  obtain ⟨hs9, H9, w9, tp9, nt9, lt9, kp9, cc9⟩ := sp9
  have fv : FV S eb ee lb le rm ld od := ⟨fa, fb, fc, u9, li9⟩
  clear cc9
  change WP G mX10_begin _ _ _ _ h9 N 9 [some (.ref (cB G)), some (JV (t : Int))] []
  refine wp_aload_n dX10_begin_9 rfl ?_
  refine wp_get fkX10_28 dX10_begin_10 hs9 rfl ?_
  refine wp_get fkX10_205 dX10_begin_13 V9.1 rfl ?_
  refine wp_get fkX10_178 dX10_begin_16 V9.2.1.1 rfl ?_
  refine wp_iload_n dX10_begin_19 rfl ?_
  refine wp_iaload dX10_begin_20 V9.2.1.2.1 (by omega) (by omega) (by omega) ?_
  change WP G mX10_begin _ _ _ _ h9 N 21 [some (.ref (cB G)), some (JV (t : Int))] [JV ((lvAll S lb rm (S 15 0 0) od).1 t)]
  refine wp_iret dX10_begin_21 rfl ?_
  exact ⟨rfl, sp8, _, rfl, eb, ee, lb, le, rm, ld, od, fv, rfl⟩

theorem c_end {t : Nat} (sp : SPI G h S st K) (ht : (t : Int) < S 13 0 0) : CT G mX10_end [.ref (cB G), JV (t : Int)] h N 0 0 (fun r h' N' => N' = N ∧ SPI G h' S 0 K ∧ ∃ v : Int, r = some (JV v) ∧ ∃ eb ee lb le rm ld od, FV S eb ee lb le rm ld od ∧ v = (lvAll S lb rm (S 15 0 0) od).2.1 t) := by
  have hT := sp.2.2.1.nT
  have ht24 : t < 24 := by omega
  refine CT_of (by decide +kernel) rfl (by simp [Value.category]) (Nat.le_of_ble_eq_true rfl) ?_
  change WP G mX10_end _ noX _ _ h N 0 [some (.ref (cB G)), some (JV (t : Int))] []
  refine wp_aload_n dX10_end_0 rfl ?_
  refine wp_iload_n dX10_end_1 rfl ?_
  refine wp_v1 0 0 (c_checkTask (N := N) sp.1 sp.2.1 (by have := sp.2.2.1.nT; omega) (by omega) ht) cvX10_114 dX10_end_2 ⟨Nat.le_of_ble_eq_true rfl, Nat.le_of_ble_eq_true rfl⟩ (Nat.le_of_ble_eq_true rfl) sp.1 rfl rfl (by omega) (by omega) (fun r h9 N9 hq => ?_)
  obtain ⟨rfl, hh9, hN9⟩ := hq
  rw [hN9]
  rw [hh9]
  change WP G mX10_end _ _ _ _ h N 5 [some (.ref (cB G)), some (JV (t : Int))] []
  refine wp_aload_n dX10_end_5 rfl ?_
  refine wp_v0 0 0 (c_refresh (N := N) sp) cvX10_171 dX10_end_6 ⟨Nat.le_of_ble_eq_true rfl, Nat.le_of_ble_eq_true rfl⟩ (Nat.le_of_ble_eq_true rfl) sp.1 rfl rfl (by omega) (by omega) (fun r h9 N9 hq => ?_)
  obtain ⟨rfl, hN9, sp9⟩ := hq
  rw [hN9]
  have sp8 := sp9
  obtain ⟨eb, ee, lb, le, rm, ld, wu, od, u9, W9, fa, fb, fc, fd, V9, li9⟩ := sp9.fresh
  obtain ⟨hs9, H9, w9, tp9, nt9, lt9, kp9, cc9⟩ := sp9
  have fv : FV S eb ee lb le rm ld od := ⟨fa, fb, fc, u9, li9⟩
  clear cc9
  change WP G mX10_end _ _ _ _ h9 N 9 [some (.ref (cB G)), some (JV (t : Int))] []
  refine wp_aload_n dX10_end_9 rfl ?_
  refine wp_get fkX10_28 dX10_end_10 hs9 rfl ?_
  refine wp_get fkX10_205 dX10_end_13 V9.1 rfl ?_
  refine wp_get fkX10_183 dX10_end_16 V9.2.1.1 rfl ?_
  refine wp_iload_n dX10_end_19 rfl ?_
  refine wp_iaload dX10_end_20 V9.2.1.2.2 (by omega) (by omega) (by omega) ?_
  change WP G mX10_end _ _ _ _ h9 N 21 [some (.ref (cB G)), some (JV (t : Int))] [JV ((lvAll S lb rm (S 15 0 0) od).2.1 t)]
  refine wp_iret dX10_end_21 rfl ?_
  exact ⟨rfl, sp8, _, rfl, eb, ee, lb, le, rm, ld, od, fv, rfl⟩

theorem c_levelledLast (sp : SPI G h S st K) : CT G mX10_levelledLast [.ref (cB G)] h N 0 0 (fun r h' N' => N' = N ∧ SPI G h' S 0 K ∧ ∃ v : Int, r = some (JV v) ∧ ∃ eb ee lb le rm ld od, FV S eb ee lb le rm ld od ∧ v = (lvAll S lb rm (S 15 0 0) od).2.2.2.2.2) := by
  refine CT_of (by decide +kernel) rfl (by simp [Value.category]) (Nat.le_of_ble_eq_true rfl) ?_
  change WP G mX10_levelledLast _ noX _ _ h N 0 [some (.ref (cB G))] []
  refine wp_aload_n dX10_levelledLast_0 rfl ?_
  refine wp_v0 0 0 (c_refresh (N := N) sp) cvX10_171 dX10_levelledLast_1 ⟨Nat.le_of_ble_eq_true rfl, Nat.le_of_ble_eq_true rfl⟩ (Nat.le_of_ble_eq_true rfl) sp.1 rfl rfl (by omega) (by omega) (fun r h9 N9 hq => ?_)
  obtain ⟨rfl, hN9, sp9⟩ := hq
  rw [hN9]
  have sp8 := sp9
  obtain ⟨eb, ee, lb, le, rm, ld, wu, od, u9, W9, fa, fb, fc, fd, V9, li9⟩ := sp9.fresh
  obtain ⟨hs9, H9, w9, tp9, nt9, lt9, kp9, cc9⟩ := sp9
  have fv : FV S eb ee lb le rm ld od := ⟨fa, fb, fc, u9, li9⟩
  clear cc9
  change WP G mX10_levelledLast _ _ _ _ h9 N 4 [some (.ref (cB G))] []
  refine wp_aload_n dX10_levelledLast_4 rfl ?_
  refine wp_get fkX10_28 dX10_levelledLast_5 hs9 rfl ?_
  refine wp_get fkX10_208 dX10_levelledLast_8 V9.1 rfl ?_
  refine wp_iret dX10_levelledLast_11 rfl ?_
  exact ⟨rfl, sp8, _, rfl, eb, ee, lb, le, rm, ld, od, fv, rfl⟩

theorem c_stuck (sp : SPI G h S st K) : CT G mX10_stuck [.ref (cB G)] h N 0 0 (fun r h' N' => N' = N ∧ SPI G h' S 0 K ∧ ∃ v : Int, r = some (JV v) ∧ ∃ eb ee lb le rm ld od, FV S eb ee lb le rm ld od ∧ v = S 13 0 0 - (lvAll S lb rm (S 15 0 0) od).2.2.2.2.1) := by
  refine CT_of (by decide +kernel) rfl (by simp [Value.category]) (Nat.le_of_ble_eq_true rfl) ?_
  change WP G mX10_stuck _ noX _ _ h N 0 [some (.ref (cB G))] []
  refine wp_aload_n dX10_stuck_0 rfl ?_
  refine wp_v0 0 0 (c_refresh (N := N) sp) cvX10_171 dX10_stuck_1 ⟨Nat.le_of_ble_eq_true rfl, Nat.le_of_ble_eq_true rfl⟩ (Nat.le_of_ble_eq_true rfl) sp.1 rfl rfl (by omega) (by omega) (fun r h9 N9 hq => ?_)
  obtain ⟨rfl, hN9, sp9⟩ := hq
  rw [hN9]
  have sp8 := sp9
  obtain ⟨eb, ee, lb, le, rm, ld, wu, od, u9, W9, fa, fb, fc, fd, V9, li9⟩ := sp9.fresh
  obtain ⟨hs9, H9, w9, tp9, nt9, lt9, kp9, cc9⟩ := sp9
  have fv : FV S eb ee lb le rm ld od := ⟨fa, fb, fc, u9, li9⟩
  clear cc9
  change WP G mX10_stuck _ _ _ _ h9 N 4 [some (.ref (cB G))] []
  refine wp_aload_n dX10_stuck_4 rfl ?_
  refine wp_get fkX10_10 dX10_stuck_5 hs9 rfl ?_
  refine wp_get fkX10_107 dX10_stuck_8 H9.1 rfl ?_
  refine wp_aload_n dX10_stuck_11 rfl ?_
  refine wp_get fkX10_28 dX10_stuck_12 hs9 rfl ?_
  refine wp_get fkX10_209 dX10_stuck_15 V9.1 rfl ?_
  refine wp_isub dX10_stuck_18 ?_
  refine wp_iret dX10_stuck_19 rfl ?_
  exact ⟨rfl, sp8, _, rfl, eb, ee, lb, le, rm, ld, od, fv, rfl⟩

theorem LI.pb {s : LState} {u : Int} (p : LI s u) : PB s.1 s.2.1 := fun x hx => by
  have a := p.2.1 x hx
  have b := p.2.2.2.2.2.2
  omega
variable {d : Int}
theorem c_used {t : Nat} (sp : SPI G h S st K) (hc : t < 4) (hd : 0 ≤ d ∧ d ≤ 9999) : CT G mX10_used [.ref (cB G), JV (t : Int), JV d] h N 0 0 (fun r h' N' => N' = N ∧ SPI G h' S 0 K ∧ ∃ v : Int, r = some (JV v) ∧ ∃ eb ee lb le rm ld od, FV S eb ee lb le rm ld od ∧ v = onF (ldg S (lvAll S lb rm (S 15 0 0) od).1 (lvAll S lb rm (S 15 0 0) od).2.1 (lvAll S lb rm (S 15 0 0) od).2.2.1) t d) := by
  refine CT_of (by decide +kernel) rfl (by simp [Value.category]) (Nat.le_of_ble_eq_true rfl) ?_
  change WP G mX10_used _ noX _ _ h N 0 [some (.ref (cB G)), some (JV (t : Int)), some (JV d)] []
  refine wp_iload_n dX10_used_0 rfl ?_
  refine wp_s1 0 0 (c_checkCrew (N := N) (by omega) (by omega)) csX10_92 dX10_used_1 ⟨Nat.le_of_ble_eq_true rfl, Nat.le_of_ble_eq_true rfl⟩ (Nat.le_of_ble_eq_true rfl) (by omega) (by omega) (fun r h9 N9 hq => ?_)
  obtain ⟨rfl, hh9, hN9⟩ := hq
  rw [hN9]
  rw [hh9]
  change WP G mX10_used _ _ _ _ h N 4 [some (.ref (cB G)), some (JV (t : Int)), some (JV d)] []
  refine wp_iload_n dX10_used_4 rfl ?_
  refine wp_s1 0 0 (c_checkAskedDay (N := N) hd.1 hd.2) csX10_164 dX10_used_5 ⟨Nat.le_of_ble_eq_true rfl, Nat.le_of_ble_eq_true rfl⟩ (Nat.le_of_ble_eq_true rfl) (by omega) (by omega) (fun r h9 N9 hq => ?_)
  obtain ⟨rfl, hh9, hN9⟩ := hq
  rw [hN9]
  rw [hh9]
  change WP G mX10_used _ _ _ _ h N 8 [some (.ref (cB G)), some (JV (t : Int)), some (JV d)] []
  refine wp_aload_n dX10_used_8 rfl ?_
  refine wp_v0 0 0 (c_refresh (N := N) sp) cvX10_171 dX10_used_9 ⟨Nat.le_of_ble_eq_true rfl, Nat.le_of_ble_eq_true rfl⟩ (Nat.le_of_ble_eq_true rfl) sp.1 rfl rfl (by omega) (by omega) (fun r h9 N9 hq => ?_)
  obtain ⟨rfl, hN9, sp9⟩ := hq
  rw [hN9]
  have sp8 := sp9
  obtain ⟨eb, ee, lb, le, rm, ld, wu, od, u9, W9, fa, fb, fc, fd, V9, li9⟩ := sp9.fresh
  obtain ⟨hs9, H9, w9, tp9, nt9, lt9, kp9, cc9⟩ := sp9
  have fv : FV S eb ee lb le rm ld od := ⟨fa, fb, fc, u9, li9⟩
  clear cc9
  change WP G mX10_used _ _ _ _ h9 N 12 [some (.ref (cB G)), some (JV (t : Int)), some (JV d)] []
  refine wp_aload_n dX10_used_12 rfl ?_
  refine wp_get fkX10_28 dX10_used_13 hs9 rfl ?_
  refine wp_get fkX10_219 dX10_used_16 V9.1 rfl ?_
  refine wp_iload_n dX10_used_19 rfl ?_
  refine wp_iload_n dX10_used_20 rfl ?_
  refine wp_v2p (c_on (N := N) (c := t) (d := d) V9.2.2.1 hc (by omega)) cvX10_199 dX10_used_21 ⟨Nat.le_of_ble_eq_true rfl, Nat.le_of_ble_eq_true rfl⟩ (Nat.le_of_ble_eq_true rfl) V9.2.2.1.1 rfl rfl ?_
  refine wp_iret dX10_used_24 rfl ?_
  exact ⟨rfl, sp8, _, rfl, eb, ee, lb, le, rm, ld, od, fv, rfl⟩

theorem c_holds {t : Nat} (sp : SPI G h S st K) (ht : (t : Int) < S 13 0 0) : CT G mX10_holds [.ref (cB G), JV (t : Int)] h N 0 0 (fun r h' N' => N' = N ∧ SPI G h' S 0 K ∧ ∃ v : Int, r = some (JV v) ∧ ∃ eb ee lb le rm ld od, FV S eb ee lb le rm ld od ∧ v = holdF S (lvAll S lb rm (S 15 0 0) od).1 (lvAll S lb rm (S 15 0 0) od).2.1 (lvAll S lb rm (S 15 0 0) od).2.2.1 t) := by
  have hT := sp.2.2.1.nT
  have ht24 : t < 24 := by omega
  refine CT_of (by decide +kernel) rfl (by simp [Value.category]) (Nat.le_of_ble_eq_true rfl) ?_
  change WP G mX10_holds _ noX _ _ h N 0 [some (.ref (cB G)), some (JV (t : Int))] []
  refine wp_aload_n dX10_holds_0 rfl ?_
  refine wp_iload_n dX10_holds_1 rfl ?_
  refine wp_v1 0 0 (c_checkTask (N := N) sp.1 sp.2.1 (by have := sp.2.2.1.nT; omega) (by omega) ht) cvX10_114 dX10_holds_2 ⟨Nat.le_of_ble_eq_true rfl, Nat.le_of_ble_eq_true rfl⟩ (Nat.le_of_ble_eq_true rfl) sp.1 rfl rfl (by omega) (by omega) (fun r h9 N9 hq => ?_)
  obtain ⟨rfl, hh9, hN9⟩ := hq
  rw [hN9]
  rw [hh9]
  change WP G mX10_holds _ _ _ _ h N 5 [some (.ref (cB G)), some (JV (t : Int))] []
  refine wp_aload_n dX10_holds_5 rfl ?_
  refine wp_v0 0 0 (c_refresh (N := N) sp) cvX10_171 dX10_holds_6 ⟨Nat.le_of_ble_eq_true rfl, Nat.le_of_ble_eq_true rfl⟩ (Nat.le_of_ble_eq_true rfl) sp.1 rfl rfl (by omega) (by omega) (fun r h9 N9 hq => ?_)
  obtain ⟨rfl, hN9, sp9⟩ := hq
  rw [hN9]
  have sp8 := sp9
  obtain ⟨eb, ee, lb, le, rm, ld, wu, od, u9, W9, fa, fb, fc, fd, V9, li9⟩ := sp9.fresh
  obtain ⟨hs9, H9, w9, tp9, nt9, lt9, kp9, cc9⟩ := sp9
  have fv : FV S eb ee lb le rm ld od := ⟨fa, fb, fc, u9, li9⟩
  clear cc9
  change WP G mX10_holds _ _ _ _ h9 N 9 [some (.ref (cB G)), some (JV (t : Int))] []
  refine wp_aload_n dX10_holds_9 rfl ?_
  refine wp_get fkX10_28 dX10_holds_10 hs9 rfl ?_
  refine wp_iload_n dX10_holds_13 rfl ?_
  refine wp_v1p (c_holdOf (N := N) V9 H9 w9 li9.pb li9.1 ht24) cvX10_226 dX10_holds_14 ⟨Nat.le_of_ble_eq_true rfl, Nat.le_of_ble_eq_true rfl⟩ (Nat.le_of_ble_eq_true rfl) V9.1 rfl rfl ?_
  refine wp_iret dX10_holds_17 rfl ?_
  exact ⟨rfl, sp8, _, rfl, eb, ee, lb, le, rm, ld, od, fv, rfl⟩

theorem dab_z {f : Nat → Int} {s : Int} : ∀ n i, (∀ d, i ≤ d → f d ≤ s) → dab f s n i = 0
  | 0, _, _ => rfl
  | n + 1, i, h => by
    rw [dab, if_neg (by have := h i (Nat.le_refl _); omega), dab_z n (i + 1) (fun d hd => h d (by omega))]
    rfl
theorem dab_s {f : Nat → Int} {s : Int} (n : Nat) : ∀ m i, dab f s (m + n) i = dab f s m i + dab f s n (i + m)
  | 0, i => by rw [Nat.zero_add, dab, Int.zero_add]; rfl
  | m + 1, i => by
    rw [show m + 1 + n = (m + n) + 1 by omega, dab, dab, dab_s n m (i + 1), show i + 1 + m = i + (m + 1) by omega]
    omega
theorem dab_e {f : Nat → Int} {s : Int} {m : Nat} (hm : m ≤ 5000) (h : ∀ d, m ≤ d → f d ≤ s) : dab f s m 0 = dab f s 5000 0 := by
  have a := dab_s (f := f) (s := s) (5000 - m) m 0
  rw [show m + (5000 - m) = 5000 by omega, dab_z (5000 - m) (0 + m) (fun d hd => h d (by omega))] at a
  omega
theorem grt_z {f : Nat → Int} {x : Int} (hx : 0 ≤ x) : ∀ n i, (∀ d, i ≤ d → f d = 0) → grt f n i x = x
  | 0, _, _ => rfl
  | n + 1, i, h => by
    rw [grt, h i (Nat.le_refl _), show max x 0 = x by omega]
    exact grt_z hx n (i + 1) (fun d hd => h d (by omega))
theorem grt_s {f : Nat → Int} (n : Nat) : ∀ m i x, grt f (m + n) i x = grt f n (i + m) (grt f m i x)
  | 0, i, x => by rw [Nat.zero_add, grt]; rfl
  | m + 1, i, x => by
    rw [show m + 1 + n = (m + n) + 1 by omega, grt, grt, grt_s n m (i + 1), show i + 1 + m = i + (m + 1) by omega]
theorem grt_0 {f : Nat → Int} : ∀ n i x, 0 ≤ x → 0 ≤ grt f n i x
  | 0, _, _, h => h
  | n + 1, i, x, h => by rw [grt]; exact grt_0 n (i + 1) _ (by omega)
theorem grt_e {f : Nat → Int} {m : Nat} (hm : m ≤ 5000) (h : ∀ d, m ≤ d → f d = 0) : grt f m 0 0 = grt f 5000 0 0 := by
  have a := grt_s (f := f) (5000 - m) m 0 0
  rw [show m + (5000 - m) = 5000 by omega, grt_z (grt_0 m 0 0 (Int.le_refl _)) (5000 - m) (0 + m) (fun d hd => h d (by omega))] at a
  exact a.symm
theorem ldg_wz {b e : Nat → Int} {wu : Int} (h : ∀ t : Nat, (t : Int) < S 13 0 0 → min (e t) 5000 ≤ wu) (c d : Nat) (hd : wu ≤ (d : Int)) : ldg S b e (inT S) c d = 0 := by
  unfold ldg
  rw [wsum_congr (f' := fun _ => 0) 24 (fun x hx => if_neg (fun q => by
    have q1 := q.1
    unfold inT at q1
    split at q1
    · have := h x (by omega)
      omega
    · omega))]
  rfl
theorem c_overloaded {t : Nat} (sp : SPI G h S st K) (hc : t < 4) : CT G mX10_overloaded [.ref (cB G), JV (t : Int)] h N 0 0 (fun r h' N' => N' = N ∧ SPI G h' S 0 K ∧ ∃ v : Int, r = some (JV v) ∧ ∃ eb ee lb le rm ld od, FV S eb ee lb le rm ld od ∧ v = dab (ldg S eb ee (inT S) t) (S 3 t 0) 5000 0) := by
  refine CT_of (by decide +kernel) rfl (by simp [Value.category]) (Nat.le_of_ble_eq_true rfl) ?_
  change WP G mX10_overloaded _ noX _ _ h N 0 [some (.ref (cB G)), some (JV (t : Int))] []
  refine wp_iload_n dX10_overloaded_0 rfl ?_
  refine wp_s1 0 0 (c_checkCrew (N := N) (by omega) (by omega)) csX10_92 dX10_overloaded_1 ⟨Nat.le_of_ble_eq_true rfl, Nat.le_of_ble_eq_true rfl⟩ (Nat.le_of_ble_eq_true rfl) (by omega) (by omega) (fun r h9 N9 hq => ?_)
  obtain ⟨rfl, hh9, hN9⟩ := hq
  rw [hN9]
  rw [hh9]
  change WP G mX10_overloaded _ _ _ _ h N 4 [some (.ref (cB G)), some (JV (t : Int))] []
  refine wp_aload_n dX10_overloaded_4 rfl ?_
  refine wp_v0 0 0 (c_refresh (N := N) sp) cvX10_171 dX10_overloaded_5 ⟨Nat.le_of_ble_eq_true rfl, Nat.le_of_ble_eq_true rfl⟩ (Nat.le_of_ble_eq_true rfl) sp.1 rfl rfl (by omega) (by omega) (fun r h9 N9 hq => ?_)
  obtain ⟨rfl, hN9, sp9⟩ := hq
  rw [hN9]
  have sp8 := sp9
  obtain ⟨eb, ee, lb, le, rm, ld, wu, od, u9, W9, fa, fb, fc, fd, V9, li9⟩ := sp9.fresh
  obtain ⟨hs9, H9, w9, tp9, nt9, lt9, kp9, cc9⟩ := sp9
  have fv : FV S eb ee lb le rm ld od := ⟨fa, fb, fc, u9, li9⟩
  clear cc9
  change WP G mX10_overloaded _ _ _ _ h9 N 8 [some (.ref (cB G)), some (JV (t : Int))] []
  refine wp_aload_n dX10_overloaded_8 rfl ?_
  refine wp_get fkX10_35 dX10_overloaded_9 hs9 rfl ?_
  refine wp_iload_n dX10_overloaded_12 rfl ?_
  refine wp_aload_n dX10_overloaded_13 rfl ?_
  refine wp_get fkX10_10 dX10_overloaded_14 hs9 rfl ?_
  refine wp_get fkX10_95 dX10_overloaded_17 H9.1 rfl ?_
  refine wp_iload_n dX10_overloaded_20 rfl ?_
  refine wp_aaload dX10_overloaded_21 H9.2.2.1 rfl rfl (by omega) (by omega) (by omega) (if_pos (by omega)) ?_
  change WP G mX10_overloaded _ _ _ _ h9 N 22 [some (.ref (cB G)), some (JV (t : Int))] [.ref (cB G + 16 + t), JV (t : Int), .ref (cB G + 128)]
  refine wp_get fkX10_99 dX10_overloaded_22 (H9.2.2.2.2.2.2.2.2.2.1 t (by omega)) rfl ?_
  refine wp_v2p (by have wc := w9.crew hc; have q := c_daysAbove (N := N) (c := t) (z := S 3 t 0) fd.1 hc fd.2.1 (fun x => by have := ldg_r w9 (b := eb) (e := ee) (inn := inT S) t x; omega) (by omega); rw [dab_e (by omega) (fun x hx => by have := ldg_wz (b := eb) fd.2.2 t x (by omega); omega)] at q; exact q) cvX10_202 dX10_overloaded_25 ⟨Nat.le_of_ble_eq_true rfl, Nat.le_of_ble_eq_true rfl⟩ (Nat.le_of_ble_eq_true rfl) fd.1.1 rfl rfl ?_
  refine wp_iret dX10_overloaded_28 rfl ?_
  exact ⟨rfl, sp8, _, rfl, eb, ee, lb, le, rm, ld, od, fv, rfl⟩

theorem c_peak {t : Nat} (sp : SPI G h S st K) (hc : t < 4) : CT G mX10_peak [.ref (cB G), JV (t : Int)] h N 0 0 (fun r h' N' => N' = N ∧ SPI G h' S 0 K ∧ ∃ v : Int, r = some (JV v) ∧ ∃ eb ee lb le rm ld od, FV S eb ee lb le rm ld od ∧ v = grt (ldg S (lvAll S lb rm (S 15 0 0) od).1 (lvAll S lb rm (S 15 0 0) od).2.1 (lvAll S lb rm (S 15 0 0) od).2.2.1 t) 5000 0 0) := by
  refine CT_of (by decide +kernel) rfl (by simp [Value.category]) (Nat.le_of_ble_eq_true rfl) ?_
  change WP G mX10_peak _ noX _ _ h N 0 [some (.ref (cB G)), some (JV (t : Int))] []
  refine wp_iload_n dX10_peak_0 rfl ?_
  refine wp_s1 0 0 (c_checkCrew (N := N) (by omega) (by omega)) csX10_92 dX10_peak_1 ⟨Nat.le_of_ble_eq_true rfl, Nat.le_of_ble_eq_true rfl⟩ (Nat.le_of_ble_eq_true rfl) (by omega) (by omega) (fun r h9 N9 hq => ?_)
  obtain ⟨rfl, hh9, hN9⟩ := hq
  rw [hN9]
  rw [hh9]
  change WP G mX10_peak _ _ _ _ h N 4 [some (.ref (cB G)), some (JV (t : Int))] []
  refine wp_aload_n dX10_peak_4 rfl ?_
  refine wp_v0 0 0 (c_refresh (N := N) sp) cvX10_171 dX10_peak_5 ⟨Nat.le_of_ble_eq_true rfl, Nat.le_of_ble_eq_true rfl⟩ (Nat.le_of_ble_eq_true rfl) sp.1 rfl rfl (by omega) (by omega) (fun r h9 N9 hq => ?_)
  obtain ⟨rfl, hN9, sp9⟩ := hq
  rw [hN9]
  have sp8 := sp9
  obtain ⟨eb, ee, lb, le, rm, ld, wu, od, u9, W9, fa, fb, fc, fd, V9, li9⟩ := sp9.fresh
  obtain ⟨hs9, H9, w9, tp9, nt9, lt9, kp9, cc9⟩ := sp9
  have fv : FV S eb ee lb le rm ld od := ⟨fa, fb, fc, u9, li9⟩
  clear cc9
  change WP G mX10_peak _ _ _ _ h9 N 8 [some (.ref (cB G)), some (JV (t : Int))] []
  refine wp_aload_n dX10_peak_8 rfl ?_
  refine wp_get fkX10_28 dX10_peak_9 hs9 rfl ?_
  refine wp_get fkX10_219 dX10_peak_12 V9.1 rfl ?_
  refine wp_iload_n dX10_peak_15 rfl ?_
  refine wp_v1p (by have q := c_greatest (N := N) (c := t) V9.2.2.1 hc li9.2.2.2.2.1 (fun x => by have := ldg_r w9 (b := (lvAll S lb rm (S 15 0 0) od).1) (e := (lvAll S lb rm (S 15 0 0) od).2.1) (inn := (lvAll S lb rm (S 15 0 0) od).2.2.1) t x; omega); rw [grt_e (by have := li9.2.2.2.2.1; omega) (fun x hx => li9.z t hc x (by have := li9.2.2.2.2.1; omega))] at q; exact q) cvX10_222 dX10_peak_16 ⟨Nat.le_of_ble_eq_true rfl, Nat.le_of_ble_eq_true rfl⟩ (Nat.le_of_ble_eq_true rfl) V9.2.2.1.1 rfl rfl ?_
  refine wp_iret dX10_peak_19 rfl ?_
  exact ⟨rfl, sp8, _, rfl, eb, ee, lb, le, rm, ld, od, fv, rfl⟩

theorem c_idle {t : Nat} (sp : SPI G h S st K) (hc : t < 4) : CT G mX10_idle [.ref (cB G), JV (t : Int)] h N 0 0 (fun r h' N' => N' = N ∧ SPI G h' S 0 K ∧ ∃ v : Int, r = some (JV v) ∧ ∃ eb ee lb le rm ld od, FV S eb ee lb le rm ld od ∧ v = lov (ldg S (lvAll S lb rm (S 15 0 0) od).1 (lvAll S lb rm (S 15 0 0) od).2.1 (lvAll S lb rm (S 15 0 0) od).2.2.1) t (S 3 t 0) (lvAll S lb rm (S 15 0 0) od).2.2.2.2.2.toNat 0) := by
  refine CT_of (by decide +kernel) rfl (by simp [Value.category]) (Nat.le_of_ble_eq_true rfl) ?_
  change WP G mX10_idle _ noX _ _ h N 0 [some (.ref (cB G)), some (JV (t : Int))] []
  refine wp_iload_n dX10_idle_0 rfl ?_
  refine wp_s1 0 0 (c_checkCrew (N := N) (by omega) (by omega)) csX10_92 dX10_idle_1 ⟨Nat.le_of_ble_eq_true rfl, Nat.le_of_ble_eq_true rfl⟩ (Nat.le_of_ble_eq_true rfl) (by omega) (by omega) (fun r h9 N9 hq => ?_)
  obtain ⟨rfl, hh9, hN9⟩ := hq
  rw [hN9]
  rw [hh9]
  change WP G mX10_idle _ _ _ _ h N 4 [some (.ref (cB G)), some (JV (t : Int))] []
  refine wp_aload_n dX10_idle_4 rfl ?_
  refine wp_v0 0 0 (c_refresh (N := N) sp) cvX10_171 dX10_idle_5 ⟨Nat.le_of_ble_eq_true rfl, Nat.le_of_ble_eq_true rfl⟩ (Nat.le_of_ble_eq_true rfl) sp.1 rfl rfl (by omega) (by omega) (fun r h9 N9 hq => ?_)
  obtain ⟨rfl, hN9, sp9⟩ := hq
  rw [hN9]
  have sp8 := sp9
  obtain ⟨eb, ee, lb, le, rm, ld, wu, od, u9, W9, fa, fb, fc, fd, V9, li9⟩ := sp9.fresh
  obtain ⟨hs9, H9, w9, tp9, nt9, lt9, kp9, cc9⟩ := sp9
  have fv : FV S eb ee lb le rm ld od := ⟨fa, fb, fc, u9, li9⟩
  clear cc9
  change WP G mX10_idle _ _ _ _ h9 N 8 [some (.ref (cB G)), some (JV (t : Int))] []
  refine wp_aload_n dX10_idle_8 rfl ?_
  refine wp_get fkX10_28 dX10_idle_9 hs9 rfl ?_
  refine wp_get fkX10_219 dX10_idle_12 V9.1 rfl ?_
  refine wp_iload_n dX10_idle_15 rfl ?_
  refine wp_aload_n dX10_idle_16 rfl ?_
  refine wp_get fkX10_10 dX10_idle_17 hs9 rfl ?_
  refine wp_get fkX10_95 dX10_idle_20 H9.1 rfl ?_
  refine wp_iload_n dX10_idle_23 rfl ?_
  refine wp_aaload dX10_idle_24 H9.2.2.1 rfl rfl (by omega) (by omega) (by omega) (if_pos (by omega)) ?_
  change WP G mX10_idle _ _ _ _ h9 N 25 [some (.ref (cB G)), some (JV (t : Int))] [.ref (cB G + 16 + t), JV (t : Int), .ref (cB G + 116 + 4)]
  refine wp_get fkX10_99 dX10_idle_25 (H9.2.2.2.2.2.2.2.2.2.1 t (by omega)) rfl ?_
  refine wp_aload_n dX10_idle_28 rfl ?_
  refine wp_get fkX10_28 dX10_idle_29 hs9 rfl ?_
  refine wp_get fkX10_208 dX10_idle_32 V9.1 rfl ?_
  refine wp_v3p (by have wc := w9.crew hc; have l6 := li9.2.2.2.2.2; have q := c_leftOver (N := N) (c := t) (e := (lvAll S lb rm (S 15 0 0) od).2.2.2.2.2.toNat) (z := S 3 t 0) V9.2.2.1 hc li9.2.2.2.2.1 (fun x => by have := ldg_r w9 (b := (lvAll S lb rm (S 15 0 0) od).1) (e := (lvAll S lb rm (S 15 0 0) od).2.1) (inn := (lvAll S lb rm (S 15 0 0) od).2.2.1) t x; omega) (by omega) (by omega); rw [show ((((lvAll S lb rm (S 15 0 0) od).2.2.2.2.2).toNat : Nat) : Int) = (lvAll S lb rm (S 15 0 0) od).2.2.2.2.2 by omega] at q; exact q) cvX10_232 dX10_idle_35 ⟨Nat.le_of_ble_eq_true rfl, Nat.le_of_ble_eq_true rfl⟩ (Nat.le_of_ble_eq_true rfl) V9.2.2.1.1 rfl rfl ?_
  refine wp_iret dX10_idle_38 rfl ?_
  exact ⟨rfl, sp8, _, rfl, eb, ee, lb, le, rm, ld, od, fv, rfl⟩

end Ask

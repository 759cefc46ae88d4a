/-! ===== the checks that pass; the planner's state; refresh ===== -/
section Chk
variable {G : Ctx} {h : AH} {N : Nat}
theorem c_checkIndex {i n : Int} (h0 : 0 ≤ i) (h1 : i < n) (h2 : n ≤ 1000000) : CT G mX10_checkIndex [JV i, JV n] h N 0 0 (fun r h' N' => r = none ∧ h' = h ∧ N' = N) := by
  refine CT_of (by decide +kernel) rfl (by simp [Value.category]) (Nat.le_of_ble_eq_true rfl) ?_
  change WP G mX10_checkIndex _ noX _ _ h N 0 [some (JV i), some (JV n)] []
  refine wp_iload_n dX10_checkIndex_0 rfl ?_
  refine wp_if_lt 9 dX10_checkIndex_1 (by decide) ⟨by omega, by omega⟩ (fun c_1 => ?_) (fun c_1 => ?_)
  · exact absurd c_1 (by omega)
  · refine wp_iload_n dX10_checkIndex_4 rfl ?_
    refine wp_iload_n dX10_checkIndex_5 rfl ?_
    refine wp_icmp_lt 20 dX10_checkIndex_6 (by decide) ⟨by omega, by omega⟩ ⟨by omega, by omega⟩ (fun c_6 => ?_) (fun c_6 => ?_)
    · refine wp_vret dX10_checkIndex_20 rfl ?_
      exact ⟨rfl, rfl, rfl⟩
    · exact absurd c_6 (by omega)

theorem c_checkArgument  : CT G mX10_checkArgument [JV 1] h N 0 0 (fun r h' N' => r = none ∧ h' = h ∧ N' = N) := by
  refine CT_of (by decide +kernel) rfl (by simp [Value.category]) (Nat.le_of_ble_eq_true rfl) ?_
  change WP G mX10_checkArgument _ noX _ _ h N 0 [some (JV 1)] []
  refine wp_iload_n dX10_checkArgument_0 rfl ?_
  refine wp_if_ne 15 dX10_checkArgument_1 (by decide) ⟨by omega, by omega⟩ (fun c_1 => ?_) (fun c_1 => ?_)
  · refine wp_vret dX10_checkArgument_15 rfl ?_
    exact ⟨rfl, rfl, rfl⟩
  · exact absurd c_1 (by decide)

theorem c_checkState  : CT G mX10_checkState [JV 1] h N 0 0 (fun r h' N' => r = none ∧ h' = h ∧ N' = N) := by
  refine CT_of (by decide +kernel) rfl (by simp [Value.category]) (Nat.le_of_ble_eq_true rfl) ?_
  change WP G mX10_checkState _ noX _ _ h N 0 [some (JV 1)] []
  refine wp_iload_n dX10_checkState_0 rfl ?_
  refine wp_if_ne 15 dX10_checkState_1 (by decide) ⟨by omega, by omega⟩ (fun c_1 => ?_) (fun c_1 => ?_)
  · refine wp_vret dX10_checkState_15 rfl ?_
    exact ⟨rfl, rfl, rfl⟩
  · exact absurd c_1 (by decide)

theorem c_checkCalendar {i : Int} (h0 : 0 ≤ i) (h1 : i < 4) : CT G mX10_checkCalendar [JV i] h N 0 0 (fun r h' N' => r = none ∧ h' = h ∧ N' = N) := by
  refine CT_of (by decide +kernel) rfl (by simp [Value.category]) (Nat.le_of_ble_eq_true rfl) ?_
  change WP G mX10_checkCalendar _ noX _ _ h N 0 [some (JV i)] []
  refine wp_iload_n dX10_checkCalendar_0 rfl ?_
  refine wp_iconst dX10_checkCalendar_1 ?_
  refine wp_s2 0 0 (c_checkIndex (N := N) h0 h1 (by omega)) csX10_212 dX10_checkCalendar_2 ⟨Nat.le_of_ble_eq_true rfl, Nat.le_of_ble_eq_true rfl⟩ (Nat.le_of_ble_eq_true rfl) (by omega) (by omega) (fun r h9 N9 hq => ?_)
  obtain ⟨rfl, hh9, hN9⟩ := hq
  rw [hN9]
  rw [hh9]
  change WP G mX10_checkCalendar _ _ _ _ h N 5 [some (JV i)] []
  refine wp_vret dX10_checkCalendar_5 rfl ?_
  exact ⟨rfl, rfl, rfl⟩

theorem c_checkCrew {i : Int} (h0 : 0 ≤ i) (h1 : i < 4) : CT G mX10_checkCrew [JV i] h N 0 0 (fun r h' N' => r = none ∧ h' = h ∧ N' = N) := by
  refine CT_of (by decide +kernel) rfl (by simp [Value.category]) (Nat.le_of_ble_eq_true rfl) ?_
  change WP G mX10_checkCrew _ noX _ _ h N 0 [some (JV i)] []
  refine wp_iload_n dX10_checkCrew_0 rfl ?_
  refine wp_iconst dX10_checkCrew_1 ?_
  refine wp_s2 0 0 (c_checkIndex (N := N) h0 h1 (by omega)) csX10_212 dX10_checkCrew_2 ⟨Nat.le_of_ble_eq_true rfl, Nat.le_of_ble_eq_true rfl⟩ (Nat.le_of_ble_eq_true rfl) (by omega) (by omega) (fun r h9 N9 hq => ?_)
  obtain ⟨rfl, hh9, hN9⟩ := hq
  rw [hN9]
  rw [hh9]
  change WP G mX10_checkCrew _ _ _ _ h N 5 [some (JV i)] []
  refine wp_vret dX10_checkCrew_5 rfl ?_
  exact ⟨rfl, rfl, rfl⟩

theorem c_checkAskedDay {i : Int} (h0 : 0 ≤ i) (h1 : i ≤ 9999) : CT G mX10_checkAskedDay [JV i] h N 0 0 (fun r h' N' => r = none ∧ h' = h ∧ N' = N) := by
  refine CT_of (by decide +kernel) rfl (by simp [Value.category]) (Nat.le_of_ble_eq_true rfl) ?_
  change WP G mX10_checkAskedDay _ noX _ _ h N 0 [some (JV i)] []
  refine wp_iload_n dX10_checkAskedDay_0 rfl ?_
  refine wp_sipush dX10_checkAskedDay_1 rfl ?_
  refine wp_s2p (c_isWithin (N := N) (by omega) (by omega)) csX10_74 dX10_checkAskedDay_4 ⟨Nat.le_of_ble_eq_true rfl, Nat.le_of_ble_eq_true rfl⟩ (Nat.le_of_ble_eq_true rfl) ?_
  rw [show bI (decide (0 ≤ i ∧ i ≤ 9999)) = 1 from bI_t (decide_eq_true (by omega))]
  refine wp_s1 0 0 (c_checkArgument (N := N)) csX10_60 dX10_checkAskedDay_7 ⟨Nat.le_of_ble_eq_true rfl, Nat.le_of_ble_eq_true rfl⟩ (Nat.le_of_ble_eq_true rfl) (by omega) (by omega) (fun r h9 N9 hq => ?_)
  obtain ⟨rfl, hh9, hN9⟩ := hq
  rw [hN9]
  rw [hh9]
  change WP G mX10_checkAskedDay _ _ _ _ h N 10 [some (JV i)] []
  refine wp_vret dX10_checkAskedDay_10 rfl ?_
  exact ⟨rfl, rfl, rfl⟩

theorem c_checkTask {S : ST} {st i : Int} (hs : h (cB G) = some (cSP G st)) (H : HP G S h) (w : S 13 0 0 ≤ 40) (h0 : 0 ≤ i) (h1 : i < S 13 0 0) : CT G mX10_checkTask [.ref (cB G), JV i] h N 0 0 (fun r h' N' => r = none ∧ h' = h ∧ N' = N) := by
  refine CT_of (by decide +kernel) rfl (by simp [Value.category]) (Nat.le_of_ble_eq_true rfl) ?_
  change WP G mX10_checkTask _ noX _ _ h N 0 [some (.ref (cB G)), some (JV i)] []
  refine wp_iload_n dX10_checkTask_0 rfl ?_
  refine wp_aload_n dX10_checkTask_1 rfl ?_
  refine wp_get fkX10_10 dX10_checkTask_2 hs rfl ?_
  refine wp_get fkX10_107 dX10_checkTask_5 H.1 rfl ?_
  refine wp_s2 0 0 (c_checkIndex (N := N) h0 h1 (by omega)) csX10_212 dX10_checkTask_8 ⟨Nat.le_of_ble_eq_true rfl, Nat.le_of_ble_eq_true rfl⟩ (Nat.le_of_ble_eq_true rfl) (by omega) (by omega) (fun r h9 N9 hq => ?_)
  obtain ⟨rfl, hh9, hN9⟩ := hq
  rw [hN9]
  rw [hh9]
  change WP G mX10_checkTask _ _ _ _ h N 11 [some (.ref (cB G)), some (JV i)] []
  refine wp_vret dX10_checkTask_11 rfl ?_
  exact ⟨rfl, rfl, rfl⟩

theorem c_checkLink {S : ST} {st i : Int} (hs : h (cB G) = some (cSP G st)) (H : HP G S h) (w : S 14 0 0 ≤ 40) (h0 : 0 ≤ i) (h1 : i < S 14 0 0) : CT G mX10_checkLink [.ref (cB G), JV i] h N 0 0 (fun r h' N' => r = none ∧ h' = h ∧ N' = N) := by
  refine CT_of (by decide +kernel) rfl (by simp [Value.category]) (Nat.le_of_ble_eq_true rfl) ?_
  change WP G mX10_checkLink _ noX _ _ h N 0 [some (.ref (cB G)), some (JV i)] []
  refine wp_iload_n dX10_checkLink_0 rfl ?_
  refine wp_aload_n dX10_checkLink_1 rfl ?_
  refine wp_get fkX10_10 dX10_checkLink_2 hs rfl ?_
  refine wp_get fkX10_136 dX10_checkLink_5 H.1 rfl ?_
  refine wp_s2 0 0 (c_checkIndex (N := N) h0 h1 (by omega)) csX10_212 dX10_checkLink_8 ⟨Nat.le_of_ble_eq_true rfl, Nat.le_of_ble_eq_true rfl⟩ (Nat.le_of_ble_eq_true rfl) (by omega) (by omega) (fun r h9 N9 hq => ?_)
  obtain ⟨rfl, hh9, hN9⟩ := hq
  rw [hN9]
  rw [hh9]
  change WP G mX10_checkLink _ _ _ _ h N 11 [some (.ref (cB G)), some (JV i)] []
  refine wp_vret dX10_checkLink_11 rfl ?_
  exact ⟨rfl, rfl, rfl⟩

end Chk

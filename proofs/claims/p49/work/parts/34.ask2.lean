/-! ===== what is asked without reckoning ===== -/
section Ask2
variable {G : Ctx} {h : AH} {N : Nat} {S : ST} {st : Int} {K : KTup}
theorem c_tasks (sp : SPI G h S st K)  : CT G mX10_tasks [.ref (cB G)] h N 0 0 (PV (JV (S 13 0 0)) h N) := by
  refine CT_of (by decide +kernel) rfl (by simp [Value.category]) (Nat.le_of_ble_eq_true rfl) ?_
  change WP G mX10_tasks _ noX _ _ h N 0 [some (.ref (cB G))] []
  refine wp_aload_n dX10_tasks_0 rfl ?_
  refine wp_get fkX10_10 dX10_tasks_1 sp.1 rfl ?_
  refine wp_get fkX10_107 dX10_tasks_4 sp.2.1.1 rfl ?_
  refine wp_iret dX10_tasks_7 rfl ?_
  exact ⟨rfl, rfl, rfl⟩

theorem c_links (sp : SPI G h S st K)  : CT G mX10_links [.ref (cB G)] h N 0 0 (PV (JV (S 14 0 0)) h N) := by
  refine CT_of (by decide +kernel) rfl (by simp [Value.category]) (Nat.le_of_ble_eq_true rfl) ?_
  change WP G mX10_links _ noX _ _ h N 0 [some (.ref (cB G))] []
  refine wp_aload_n dX10_links_0 rfl ?_
  refine wp_get fkX10_10 dX10_links_1 sp.1 rfl ?_
  refine wp_get fkX10_136 dX10_links_4 sp.2.1.1 rfl ?_
  refine wp_iret dX10_links_7 rfl ?_
  exact ⟨rfl, rfl, rfl⟩

theorem c_earned (sp : SPI G h S st K)  : CT G mX10_earned [.ref (cB G)] h N 0 0 (PV (JV (earnF S K.2.2.2.1 K.2.2.2.2.1 (S 13 0 0).toNat 0)) h N) := by
  refine CT_of (by decide +kernel) rfl (by simp [Value.category]) (Nat.le_of_ble_eq_true rfl) ?_
  change WP G mX10_earned _ noX _ _ h N 0 [some (.ref (cB G))] []
  refine wp_aload_n dX10_earned_0 rfl ?_
  refine wp_get fkX10_48 dX10_earned_1 sp.1 rfl ?_
  refine wp_v0p (c_earnedNow (N := N) sp.2.2.2.2.2.2.1.1 sp.2.1 sp.2.2.1 sp.2.2.2.2.2.2.1.2) cvX10_247 dX10_earned_4 ⟨Nat.le_of_ble_eq_true rfl, Nat.le_of_ble_eq_true rfl⟩ (Nat.le_of_ble_eq_true rfl) sp.2.2.2.2.2.2.1.1.1 rfl rfl ?_
  refine wp_iret dX10_earned_7 rfl ?_
  exact ⟨rfl, rfl, rfl⟩

theorem c_planned (sp : SPI G h S st K) {d : Int} (hd : 0 ≤ d ∧ d ≤ 9999) : CT G mX10_planned [.ref (cB G), JV d] h N 0 0 (PV (JV (planF S K.2.1 K.2.2.1 K.2.2.2.1 K.2.2.2.2.1 K.2.2.2.2.2.1 K.2.2.2.2.2.2.2 d (S 13 0 0).toNat 0)) h N) := by
  refine CT_of (by decide +kernel) rfl (by simp [Value.category]) (Nat.le_of_ble_eq_true rfl) ?_
  change WP G mX10_planned _ noX _ _ h N 0 [some (.ref (cB G)), some (JV d)] []
  refine wp_iload_n dX10_planned_0 rfl ?_
  refine wp_s1 0 0 (c_checkAskedDay (N := N) (by omega) (by omega)) csX10_164 dX10_planned_1 ⟨Nat.le_of_ble_eq_true rfl, Nat.le_of_ble_eq_true rfl⟩ (Nat.le_of_ble_eq_true rfl) (by omega) (by omega) (fun r h9 N9 hq => ?_)
  obtain ⟨rfl, hh9, hN9⟩ := hq
  rw [hN9]
  rw [hh9]
  change WP G mX10_planned _ _ _ _ h N 4 [some (.ref (cB G)), some (JV d)] []
  refine wp_aload_n dX10_planned_4 rfl ?_
  refine wp_get fkX10_48 dX10_planned_5 sp.1 rfl ?_
  refine wp_iload_n dX10_planned_8 rfl ?_
  refine wp_v1p (c_plannedUpTo (N := N) (d := d) sp.2.2.2.2.2.2.1.1 sp.2.1 sp.2.2.1 sp.2.2.2.2.2.2.1.2 (by omega)) cvX10_244 dX10_planned_9 ⟨Nat.le_of_ble_eq_true rfl, Nat.le_of_ble_eq_true rfl⟩ (Nat.le_of_ble_eq_true rfl) sp.2.2.2.2.2.2.1.1.1 rfl rfl ?_
  refine wp_iret dX10_planned_12 rfl ?_
  exact ⟨rfl, rfl, rfl⟩

def worF (S : ST) : Nat → Nat → Int
  | 0, _ => 0
  | m + 1, i => S 5 i 0 * wsum (fun c => S 12 i c * S 4 c 0) 4 + worF S m (i + 1)
theorem l_worth {Q : PQ} {X : PX} {k9 n9 : Nat} (sp : SPI G h S st K) : ∀ (m : Nat) (i : Nat) (y : Int), ((S 13 0 0).toNat - i = m) → (i ≤ 24) → (Q (some (JV (y + worF S m i))) h N) → WP G mX10_worth Q X k9 n9 h N 4 [some (.ref (cB G)), some (JV y), some (JV (i : Int))] [] := by
  intro m
  induction m with
  | zero =>
    intro i y hm hi kk
    have wT := sp.2.2.1.nT
    refine wp_iload_n dX10_worth_4 rfl ?_
    refine wp_aload_n dX10_worth_5 rfl ?_
    refine wp_get fkX10_10 dX10_worth_6 sp.1 rfl ?_
    refine wp_get fkX10_107 dX10_worth_9 sp.2.1.1 rfl ?_
    refine wp_icmp_ge 32 dX10_worth_12 (by decide) ⟨by omega, by omega⟩ ⟨by omega, by omega⟩ (fun c_12 => ?_) (fun c_12 => ?_)
    · refine wp_iload_n dX10_worth_32 rfl ?_
      refine wp_iret dX10_worth_33 rfl ?_
      simp only [worF, Int.add_zero] at kk
      exact kk
    · exact absurd c_12 (by omega)
  | succ m ih =>
    intro i y hm hi kk
    have wT := sp.2.2.1.nT
    refine wp_iload_n dX10_worth_4 rfl ?_
    refine wp_aload_n dX10_worth_5 rfl ?_
    refine wp_get fkX10_10 dX10_worth_6 sp.1 rfl ?_
    refine wp_get fkX10_107 dX10_worth_9 sp.2.1.1 rfl ?_
    refine wp_icmp_ge 32 dX10_worth_12 (by decide) ⟨by omega, by omega⟩ ⟨by omega, by omega⟩ (fun c_12 => ?_) (fun c_12 => ?_)
    · exact absurd c_12 (by omega)
    · refine wp_iload_n dX10_worth_15 rfl ?_
      refine wp_aload_n dX10_worth_16 rfl ?_
      refine wp_get fkX10_10 dX10_worth_17 sp.1 rfl ?_
      refine wp_iload_n dX10_worth_20 rfl ?_
      refine wp_v1p (c_worthOf (N := N) sp.2.1 sp.2.2.1 (t := i) (by omega)) cvX10_250 dX10_worth_21 ⟨Nat.le_of_ble_eq_true rfl, Nat.le_of_ble_eq_true rfl⟩ (Nat.le_of_ble_eq_true rfl) sp.2.1.1 rfl rfl ?_
      refine wp_iadd dX10_worth_24 ?_
      refine wp_istore_n dX10_worth_25 (Nat.le_of_ble_eq_true rfl) rfl ?_
      change WP G mX10_worth _ _ _ _ h N 26 [some (.ref (cB G)), some (JV (y + (S 5 i 0 * wsum (fun c => S 12 i c * S 4 c 0) 4))), some (JV (i : Int))] []
      refine wp_iinc dX10_worth_26 rfl (Nat.le_of_ble_eq_true rfl) rfl ?_
      change WP G mX10_worth _ _ _ _ h N 29 [some (.ref (cB G)), some (JV (y + (S 5 i 0 * wsum (fun c => S 12 i c * S 4 c 0) 4))), some (JV ((i : Int) + 1))] []
      refine wp_goto 4 dX10_worth_29 (by decide) ?_
      rw [worF, ← Int.add_assoc] at kk
      exact ih (i + 1) (y + S 5 i 0 * wsum (fun c => S 12 i c * S 4 c 0) 4) (by omega) (by omega) kk

theorem c_worth (sp : SPI G h S st K) : CT G mX10_worth [.ref (cB G)] h N 0 0 (PV (JV (worF S (S 13 0 0).toNat 0)) h N) := by
  refine CT_of (by decide +kernel) rfl (by simp [Value.category]) (Nat.le_of_ble_eq_true rfl) ?_
  change WP G mX10_worth _ noX _ _ h N 0 [some (.ref (cB G)), none, none] []
  refine wp_iconst dX10_worth_0 ?_
  refine wp_istore_n dX10_worth_1 (Nat.le_of_ble_eq_true rfl) rfl ?_
  change WP G mX10_worth _ _ _ _ h N 2 [some (.ref (cB G)), some (JV 0), none] []
  refine wp_iconst dX10_worth_2 ?_
  refine wp_istore_n dX10_worth_3 (Nat.le_of_ble_eq_true rfl) rfl ?_
  change WP G mX10_worth _ _ _ _ h N 4 [some (.ref (cB G)), some (JV 0), some (JV 0)] []
  have wT := sp.2.2.1.nT
  refine l_worth sp _ 0 0 rfl (by omega) ?_
  rw [Int.zero_add]
  exact ⟨rfl, rfl, rfl⟩

end Ask2

/-! ===== constructors ===== -/
theorem dfX0 : ∀ j, j < 3 → defaultValue (tyX0 j) = vp_V [JV 0, JV 0, .null] j := fun j hj => by
  match j, hj with
  | 0, _ => rfl
  | 1, _ => rfl
  | 2, _ => rfl
  | n + 3, h => omega
theorem dfX1 : ∀ j, j < 2 → defaultValue (tyX1 j) = vp_V [JV 0, JV 0] j := fun j hj => by
  match j, hj with
  | 0, _ => rfl
  | 1, _ => rfl
  | n + 2, h => omega
theorem dfX9 : ∀ j, j < 8 → defaultValue (tyX9 j) = vp_V [JV 0, JV 0, JV 0, JV 0, JV 0, JV 0, JV 0, .null] j := fun j hj => by
  match j, hj with
  | 0, _ => rfl
  | 1, _ => rfl
  | 2, _ => rfl
  | 3, _ => rfl
  | 4, _ => rfl
  | 5, _ => rfl
  | 6, _ => rfl
  | 7, _ => rfl
  | n + 8, h => omega
theorem dfX4 : ∀ j, j < 4 → defaultValue (tyX4 j) = vp_V [JV 0, JV 0, JV 0, JV 0] j := fun j hj => by
  match j, hj with
  | 0, _ => rfl
  | 1, _ => rfl
  | 2, _ => rfl
  | 3, _ => rfl
  | n + 4, h => omega
theorem dfX7 : ∀ j, j < 2 → defaultValue (tyX7 j) = vp_V [.null, .null] j := fun j hj => by
  match j, hj with
  | 0, _ => rfl
  | 1, _ => rfl
  | n + 2, h => omega
theorem dfX5 : ∀ j, j < 2 → defaultValue (tyX5 j) = vp_V [.null, JV 0] j := fun j hj => by
  match j, hj with
  | 0, _ => rfl
  | 1, _ => rfl
  | n + 2, h => omega
theorem dfX6 : ∀ j, j < 5 → defaultValue (tyX6 j) = vp_V [.null, .null, .null, .null, JV 0] j := fun j hj => by
  match j, hj with
  | 0, _ => rfl
  | 1, _ => rfl
  | 2, _ => rfl
  | 3, _ => rfl
  | 4, _ => rfl
  | n + 5, h => omega
theorem dfX3 : ∀ j, j < 7 → defaultValue (tyX3 j) = vp_V [.null, .null, .null, .null, .null, JV 0, JV 0] j := fun j hj => by
  match j, hj with
  | 0, _ => rfl
  | 1, _ => rfl
  | 2, _ => rfl
  | 3, _ => rfl
  | 4, _ => rfl
  | 5, _ => rfl
  | 6, _ => rfl
  | n + 7, h => omega
theorem dfX2 : ∀ j, j < 5 → defaultValue (tyX2 j) = vp_V [.null, .null, .null, .null, .null] j := fun j hj => by
  match j, hj with
  | 0, _ => rfl
  | 1, _ => rfl
  | 2, _ => rfl
  | 3, _ => rfl
  | 4, _ => rfl
  | n + 5, h => omega
theorem dfX8 : ∀ j, j < 9 → defaultValue (tyX8 j) = vp_V [.null, .null, .null, .null, JV 0, JV 0, JV 0, .null, .null] j := fun j hj => by
  match j, hj with
  | 0, _ => rfl
  | 1, _ => rfl
  | 2, _ => rfl
  | 3, _ => rfl
  | 4, _ => rfl
  | 5, _ => rfl
  | 6, _ => rfl
  | 7, _ => rfl
  | 8, _ => rfl
  | n + 9, h => omega
theorem dfX10 : ∀ j, j < 8 → defaultValue (tyX10 j) = vp_V [.null, .null, .null, .null, .null, .null, .null, JV 0] j := fun j hj => by
  match j, hj with
  | 0, _ => rfl
  | 1, _ => rfl
  | 2, _ => rfl
  | 3, _ => rfl
  | 4, _ => rfl
  | 5, _ => rfl
  | 6, _ => rfl
  | 7, _ => rfl
  | n + 8, h => omega
section Cons
variable {G : Ctx} {h : AH} {a : Nat}
theorem n_Calendar (hc : h a = some (eO 0 [JV 0, JV 0, .null])) : CT G mX0_init [.ref a] h (a + 1) 1 1000 (fun r h' N' => r = none ∧ N' = a + 2 ∧ IsCal G h' a 31 0 (fun _ => 0) ∧ FR a (a + 2) h h') := by
  refine CT_of (by decide +kernel) rfl (by simp [Value.category]) (Nat.le_of_ble_eq_true rfl) ?_
  change WP G mX0_init _ noX _ _ h (a + 1) 0 [some (.ref a)] []
  refine wp_aload_n dX0_init_0 rfl ?_
  refine wp_obj dX0_init_1 obX0_3 w_obj (Nat.le_of_ble_eq_true rfl) (Nat.le_of_ble_eq_true rfl) ?_
  refine wp_aload_n dX0_init_4 rfl ?_
  refine wp_bipush dX0_init_5 rfl ?_
  refine wp_put fkX0_9 dX0_init_7 hc rfl rfl (Nat.le_of_ble_eq_true rfl) ?_
  obtain ⟨h_1, eh_1⟩ : ∃ hh9 : AH, hh9 = hup h a (eO 0 [JV 31, JV 0, .null]) := ⟨_, rfl⟩
  refine WP.heq eh_1 ?_
  have c1_0 : h_1 a = some (eO 0 [JV 31, JV 0, .null]) := by rw [eh_1]; exact hup_self _ _ _
  refine wp_aload_n dX0_init_10 rfl ?_
  refine wp_sipush dX0_init_11 rfl ?_
  refine wp_newZ (m := 1000) (k2 := 0) (n2 := 0) dX0_init_14 ar_boolean rfl (by decide) (by omega) (by omega) ?_
  obtain ⟨h_2, eh_2⟩ : ∃ hh9 : AH, hh9 = hup h_1 (a + 1) (eZ G 1000 (fun _ => 0)) := ⟨_, rfl⟩
  refine WP.heq eh_2 ?_
  have c2_0 := (hup_at eh_2 (by omega)).trans c1_0
  have c2_1 : h_2 (a + 1) = some (eZ G 1000 (fun _ => 0)) := by rw [eh_2]; exact hup_self _ _ _
  change WP G mX0_init _ _ 0 0 h_2 (a + 2) 16 [some (.ref a)] [.ref (a + 1), .ref a]
  refine wp_putF fkX0_15 dX0_init_16 rfl (fun r hr => by cases hr; rfl) c2_0 rfl rfl (Nat.le_of_ble_eq_true rfl) ?_
  obtain ⟨h_3, eh_3⟩ : ∃ hh9 : AH, hh9 = hup h_2 a (eO 0 [JV 31, JV 0, .ref (a + 1)]) := ⟨_, rfl⟩
  refine WP.heq eh_3 ?_
  have c3_0 : h_3 a = some (eO 0 [JV 31, JV 0, .ref (a + 1)]) := by rw [eh_3]; exact hup_self _ _ _
  have c3_1 := (hup_at eh_3 (by omega)).trans c2_1
  refine wp_vret dX0_init_19 rfl ?_
  refine ⟨rfl, rfl, ⟨c3_0, c3_1, by omega, fun _ => Or.inl rfl, by omega⟩, ?_⟩
  exact (((FR.rf.up eh_1 ⟨by omega, by omega⟩).up eh_2 ⟨by omega, by omega⟩).up eh_3 ⟨by omega, by omega⟩)

theorem n_Crew (hc : h a = some (eO 1 [JV 0, JV 0])) : CT G mX1_init [.ref a] h (a + 1) 0 0 (fun r h' N' => r = none ∧ N' = a + 1 ∧ h' a = some (eO 1 [JV 9, JV 0]) ∧ FR a (a + 1) h h') := by
  refine CT_of (by decide +kernel) rfl (by simp [Value.category]) (Nat.le_of_ble_eq_true rfl) ?_
  change WP G mX1_init _ noX _ _ h (a + 1) 0 [some (.ref a)] []
  refine wp_aload_n dX1_init_0 rfl ?_
  refine wp_obj dX1_init_1 obX1_3 w_obj (Nat.le_of_ble_eq_true rfl) (Nat.le_of_ble_eq_true rfl) ?_
  refine wp_aload_n dX1_init_4 rfl ?_
  refine wp_bipush dX1_init_5 rfl ?_
  refine wp_put fkX1_9 dX1_init_7 hc rfl rfl (Nat.le_of_ble_eq_true rfl) ?_
  obtain ⟨h_1, eh_1⟩ : ∃ hh9 : AH, hh9 = hup h a (eO 1 [JV 9, JV 0]) := ⟨_, rfl⟩
  refine WP.heq eh_1 ?_
  have c1_0 : h_1 a = some (eO 1 [JV 9, JV 0]) := by rw [eh_1]; exact hup_self _ _ _
  refine wp_vret dX1_init_10 rfl ?_
  refine ⟨rfl, rfl, c1_0, ?_⟩
  exact (FR.rf.up eh_1 ⟨by omega, by omega⟩)

theorem n_Task (hc : h a = some (eO 9 [JV 0, JV 0, JV 0, JV 0, JV 0, JV 0, JV 0, .null])) : CT G mX9_init [.ref a] h (a + 1) 1 4 (fun r h' N' => r = none ∧ N' = a + 2 ∧ (h' a = some (eO 9 [JV 0, JV 0, JV 0, JV 0, JV 0, JV 0, JV 0, .ref (a + 1)]) ∧ h' (a + 1) = some (eI G 4 (fun _ => 0))) ∧ FR a (a + 2) h h') := by
  refine CT_of (by decide +kernel) rfl (by simp [Value.category]) (Nat.le_of_ble_eq_true rfl) ?_
  change WP G mX9_init _ noX _ _ h (a + 1) 0 [some (.ref a)] []
  refine wp_aload_n dX9_init_0 rfl ?_
  refine wp_obj dX9_init_1 obX9_3 w_obj (Nat.le_of_ble_eq_true rfl) (Nat.le_of_ble_eq_true rfl) ?_
  refine wp_aload_n dX9_init_4 rfl ?_
  refine wp_iconst dX9_init_5 ?_
  refine wp_newI (m := 4) (k2 := 0) (n2 := 0) dX9_init_6 ar_int rfl (by decide) (by omega) (by omega) ?_
  obtain ⟨h_1, eh_1⟩ : ∃ hh9 : AH, hh9 = hup h (a + 1) (eI G 4 (fun _ => 0)) := ⟨_, rfl⟩
  refine WP.heq eh_1 ?_
  have c1_0 := (hup_at eh_1 (by omega)).trans hc
  have c1_1 : h_1 (a + 1) = some (eI G 4 (fun _ => 0)) := by rw [eh_1]; exact hup_self _ _ _
  change WP G mX9_init _ _ 0 0 h_1 (a + 2) 8 [some (.ref a)] [.ref (a + 1), .ref a]
  refine wp_putF fkX9_9 dX9_init_8 rfl (fun r hr => by cases hr; rfl) c1_0 rfl rfl (Nat.le_of_ble_eq_true rfl) ?_
  obtain ⟨h_2, eh_2⟩ : ∃ hh9 : AH, hh9 = hup h_1 a (eO 9 [JV 0, JV 0, JV 0, JV 0, JV 0, JV 0, JV 0, .ref (a + 1)]) := ⟨_, rfl⟩
  refine WP.heq eh_2 ?_
  have c2_0 : h_2 a = some (eO 9 [JV 0, JV 0, JV 0, JV 0, JV 0, JV 0, JV 0, .ref (a + 1)]) := by rw [eh_2]; exact hup_self _ _ _
  have c2_1 := (hup_at eh_2 (by omega)).trans c1_1
  refine wp_vret dX9_init_11 rfl ?_
  refine ⟨rfl, rfl, ⟨c2_0, c2_1⟩, ?_⟩
  exact ((FR.rf.up eh_1 ⟨by omega, by omega⟩).up eh_2 ⟨by omega, by omega⟩)

theorem n_Link (hc : h a = some (eO 4 [JV 0, JV 0, JV 0, JV 0])) : CT G mX4_init [.ref a] h (a + 1) 0 0 (fun r h' N' => r = none ∧ N' = a + 1 ∧ h' a = some (eO 4 [JV 0, JV 0, JV 0, JV 0]) ∧ FR a (a + 1) h h') := by
  refine CT_of (by decide +kernel) rfl (by simp [Value.category]) (Nat.le_of_ble_eq_true rfl) ?_
  change WP G mX4_init _ noX _ _ h (a + 1) 0 [some (.ref a)] []
  refine wp_aload_n dX4_init_0 rfl ?_
  refine wp_obj dX4_init_1 obX4_1 w_obj (Nat.le_of_ble_eq_true rfl) (Nat.le_of_ble_eq_true rfl) ?_
  refine wp_vret dX4_init_4 rfl ?_
  refine ⟨rfl, rfl, hc, ?_⟩
  exact FR.rf

theorem n_Plan (hc : h a = some (eO 7 [.null, .null])) : CT G mX7_init [.ref a] h (a + 1) 2 48 (fun r h' N' => r = none ∧ N' = a + 3 ∧ IsPlan G h' a (fun _ => 0) (fun _ => 0) ∧ FR a (a + 3) h h') := by
  refine CT_of (by decide +kernel) rfl (by simp [Value.category]) (Nat.le_of_ble_eq_true rfl) ?_
  change WP G mX7_init _ noX _ _ h (a + 1) 0 [some (.ref a)] []
  refine wp_aload_n dX7_init_0 rfl ?_
  refine wp_obj dX7_init_1 obX7_3 w_obj (Nat.le_of_ble_eq_true rfl) (Nat.le_of_ble_eq_true rfl) ?_
  refine wp_aload_n dX7_init_4 rfl ?_
  refine wp_bipush dX7_init_5 rfl ?_
  refine wp_newI (m := 24) (k2 := 1) (n2 := 24) dX7_init_7 ar_int rfl (by decide) (by omega) (by omega) ?_
  obtain ⟨h_1, eh_1⟩ : ∃ hh9 : AH, hh9 = hup h (a + 1) (eI G 24 (fun _ => 0)) := ⟨_, rfl⟩
  refine WP.heq eh_1 ?_
  have c1_0 := (hup_at eh_1 (by omega)).trans hc
  have c1_1 : h_1 (a + 1) = some (eI G 24 (fun _ => 0)) := by rw [eh_1]; exact hup_self _ _ _
  change WP G mX7_init _ _ 1 24 h_1 (a + 2) 9 [some (.ref a)] [.ref (a + 1), .ref a]
  refine wp_putF fkX7_9 dX7_init_9 rfl (fun r hr => by cases hr; rfl) c1_0 rfl rfl (Nat.le_of_ble_eq_true rfl) ?_
  obtain ⟨h_2, eh_2⟩ : ∃ hh9 : AH, hh9 = hup h_1 a (eO 7 [.ref (a + 1), .null]) := ⟨_, rfl⟩
  refine WP.heq eh_2 ?_
  have c2_0 : h_2 a = some (eO 7 [.ref (a + 1), .null]) := by rw [eh_2]; exact hup_self _ _ _
  have c2_1 := (hup_at eh_2 (by omega)).trans c1_1
  refine wp_aload_n dX7_init_12 rfl ?_
  refine wp_bipush dX7_init_13 rfl ?_
  refine wp_newI (m := 24) (k2 := 0) (n2 := 0) dX7_init_15 ar_int rfl (by decide) (by omega) (by omega) ?_
  obtain ⟨h_3, eh_3⟩ : ∃ hh9 : AH, hh9 = hup h_2 (a + 2) (eI G 24 (fun _ => 0)) := ⟨_, rfl⟩
  refine WP.heq eh_3 ?_
  have c3_0 := (hup_at eh_3 (by omega)).trans c2_0
  have c3_1 := (hup_at eh_3 (by omega)).trans c2_1
  have c3_2 : h_3 (a + 2) = some (eI G 24 (fun _ => 0)) := by rw [eh_3]; exact hup_self _ _ _
  change WP G mX7_init _ _ 0 0 h_3 (a + 3) 17 [some (.ref a)] [.ref (a + 2), .ref a]
  refine wp_putF fkX7_15 dX7_init_17 rfl (fun r hr => by cases hr; rfl) c3_0 rfl rfl (Nat.le_of_ble_eq_true rfl) ?_
  obtain ⟨h_4, eh_4⟩ : ∃ hh9 : AH, hh9 = hup h_3 a (eO 7 [.ref (a + 1), .ref (a + 2)]) := ⟨_, rfl⟩
  refine WP.heq eh_4 ?_
  have c4_0 : h_4 a = some (eO 7 [.ref (a + 1), .ref (a + 2)]) := by rw [eh_4]; exact hup_self _ _ _
  have c4_1 := (hup_at eh_4 (by omega)).trans c3_1
  have c4_2 := (hup_at eh_4 (by omega)).trans c3_2
  refine wp_vret dX7_init_20 rfl ?_
  refine ⟨rfl, rfl, ⟨c4_0, c4_1, c4_2⟩, ?_⟩
  exact ((((FR.rf.up eh_1 ⟨by omega, by omega⟩).up eh_2 ⟨by omega, by omega⟩).up eh_3 ⟨by omega, by omega⟩).up eh_4 ⟨by omega, by omega⟩)

end Cons

/-! ===== constructors ===== -/
theorem dfX0 : ∀ j, j < 3 → defaultValue (tyX0 j) = vp_V [JV 0, JV 0, .null] j := fun j hj => by
  match j, hj with
  | 0, _ => rfl
  | 1, _ => rfl
  | 2, _ => rfl
  | n + 3, h => omega
theorem dfX1 : ∀ j, j < 2 → defaultValue (tyX1 j) = vp_V [JV 0, JV 0] j := fun j hj => by
  match j, hj with
  | 0, _ => rfl
  | 1, _ => rfl
  | n + 2, h => omega
theorem dfX9 : ∀ j, j < 8 → defaultValue (tyX9 j) = vp_V [JV 0, JV 0, JV 0, JV 0, JV 0, JV 0, JV 0, .null] j := fun j hj => by
  match j, hj with
  | 0, _ => rfl
  | 1, _ => rfl
  | 2, _ => rfl
  | 3, _ => rfl
  | 4, _ => rfl
  | 5, _ => rfl
  | 6, _ => rfl
  | 7, _ => rfl
  | n + 8, h => omega
theorem dfX4 : ∀ j, j < 4 → defaultValue (tyX4 j) = vp_V [JV 0, JV 0, JV 0, JV 0] j := fun j hj => by
  match j, hj with
  | 0, _ => rfl
  | 1, _ => rfl
  | 2, _ => rfl
  | 3, _ => rfl
  | n + 4, h => omega
theorem dfX7 : ∀ j, j < 2 → defaultValue (tyX7 j) = vp_V [.null, .null] j := fun j hj => by
  match j, hj with
  | 0, _ => rfl
  | 1, _ => rfl
  | n + 2, h => omega
theorem dfX5 : ∀ j, j < 2 → defaultValue (tyX5 j) = vp_V [.null, JV 0] j := fun j hj => by
  match j, hj with
  | 0, _ => rfl
  | 1, _ => rfl
  | n + 2, h => omega
theorem dfX6 : ∀ j, j < 5 → defaultValue (tyX6 j) = vp_V [.null, .null, .null, .null, JV 0] j := fun j hj => by
  match j, hj with
  | 0, _ => rfl
  | 1, _ => rfl
  | 2, _ => rfl
  | 3, _ => rfl
  | 4, _ => rfl
  | n + 5, h => omega
theorem dfX3 : ∀ j, j < 7 → defaultValue (tyX3 j) = vp_V [.null, .null, .null, .null, .null, JV 0, JV 0] j := fun j hj => by
  match j, hj with
  | 0, _ => rfl
  | 1, _ => rfl
  | 2, _ => rfl
  | 3, _ => rfl
  | 4, _ => rfl
  | 5, _ => rfl
  | 6, _ => rfl
  | n + 7, h => omega
theorem dfX2 : ∀ j, j < 5 → defaultValue (tyX2 j) = vp_V [.null, .null, .null, .null, .null] j := fun j hj => by
  match j, hj with
  | 0, _ => rfl
  | 1, _ => rfl
  | 2, _ => rfl
  | 3, _ => rfl
  | 4, _ => rfl
  | n + 5, h => omega
theorem dfX8 : ∀ j, j < 9 → defaultValue (tyX8 j) = vp_V [.null, .null, .null, .null, JV 0, JV 0, JV 0, .null, .null] j := fun j hj => by
  match j, hj with
  | 0, _ => rfl
  | 1, _ => rfl
  | 2, _ => rfl
  | 3, _ => rfl
  | 4, _ => rfl
  | 5, _ => rfl
  | 6, _ => rfl
  | 7, _ => rfl
  | 8, _ => rfl
  | n + 9, h => omega
theorem dfX10 : ∀ j, j < 8 → defaultValue (tyX10 j) = vp_V [.null, .null, .null, .null, .null, .null, .null, JV 0] j := fun j hj => by
  match j, hj with
  | 0, _ => rfl
  | 1, _ => rfl
  | 2, _ => rfl
  | 3, _ => rfl
  | 4, _ => rfl
  | 5, _ => rfl
  | 6, _ => rfl
  | 7, _ => rfl
  | n + 8, h => omega
section Cons
variable {G : Ctx} {h : AH} {a : Nat}
theorem n_Calendar (hc : h a = some (eO 0 [JV 0, JV 0, .null])) : CT G mX0_init [.ref a] h (a + 1) 1 1000 (fun r h' N' => r = none ∧ N' = a + 2 ∧ IsCal G h' a 31 0 (fun _ => 0) ∧ FR a (a + 2) h h') := by
  refine CT_of (by decide +kernel) rfl (by simp [Value.category]) (Nat.le_of_ble_eq_true rfl) ?_
  change WP G mX0_init _ noX _ _ h (a + 1) 0 [some (.ref a)] []
  refine wp_aload_n dX0_init_0 rfl ?_
  refine wp_obj dX0_init_1 obX0_3 w_obj (Nat.le_of_ble_eq_true rfl) (Nat.le_of_ble_eq_true rfl) ?_
  refine wp_aload_n dX0_init_4 rfl ?_
  refine wp_bipush dX0_init_5 rfl ?_
  refine wp_put fkX0_9 dX0_init_7 hc rfl rfl (Nat.le_of_ble_eq_true rfl) ?_
  obtain ⟨h_1, eh_1⟩ : ∃ hh9 : AH, hh9 = hup h a (eO 0 [JV 31, JV 0, .null]) := ⟨_, rfl⟩
  refine WP.heq eh_1 ?_
  have c1_0 : h_1 a = some (eO 0 [JV 31, JV 0, .null]) := by rw [eh_1]; exact hup_self _ _ _
  refine wp_aload_n dX0_init_10 rfl ?_
  refine wp_sipush dX0_init_11 rfl ?_
  refine wp_newZ (m := 1000) (k2 := 0) (n2 := 0) dX0_init_14 ar_boolean rfl (by decide) (by omega) (by omega) ?_
  obtain ⟨h_2, eh_2⟩ : ∃ hh9 : AH, hh9 = hup h_1 (a + 1) (eZ G 1000 (fun _ => 0)) := ⟨_, rfl⟩
  refine WP.heq eh_2 ?_
  have c2_0 := (hup_at eh_2 (by omega)).trans c1_0
  have c2_1 : h_2 (a + 1) = some (eZ G 1000 (fun _ => 0)) := by rw [eh_2]; exact hup_self _ _ _
  change WP G mX0_init _ _ 0 0 h_2 (a + 2) 16 [some (.ref a)] [.ref (a + 1), .ref a]
  refine wp_putF fkX0_15 dX0_init_16 rfl (fun r hr => by cases hr; rfl) c2_0 rfl rfl (Nat.le_of_ble_eq_true rfl) ?_
  obtain ⟨h_3, eh_3⟩ : ∃ hh9 : AH, hh9 = hup h_2 a (eO 0 [JV 31, JV 0, .ref (a + 1)]) := ⟨_, rfl⟩
  refine WP.heq eh_3 ?_
  have c3_0 : h_3 a = some (eO 0 [JV 31, JV 0, .ref (a + 1)]) := by rw [eh_3]; exact hup_self _ _ _
  have c3_1 := (hup_at eh_3 (by omega)).trans c2_1
  refine wp_vret dX0_init_19 rfl ?_
  refine ⟨rfl, rfl, ⟨c3_0, c3_1, by omega, fun _ => Or.inl rfl, by omega⟩, ?_⟩
  exact (((FR.rf.up eh_1 ⟨by omega, by omega⟩).up eh_2 ⟨by omega, by omega⟩).up eh_3 ⟨by omega, by omega⟩)

theorem n_Crew (hc : h a = some (eO 1 [JV 0, JV 0])) : CT G mX1_init [.ref a] h (a + 1) 0 0 (fun r h' N' => r = none ∧ N' = a + 1 ∧ h' a = some (eO 1 [JV 9, JV 0]) ∧ FR a (a + 1) h h') := by
  refine CT_of (by decide +kernel) rfl (by simp [Value.category]) (Nat.le_of_ble_eq_true rfl) ?_
  change WP G mX1_init _ noX _ _ h (a + 1) 0 [some (.ref a)] []
  refine wp_aload_n dX1_init_0 rfl ?_
  refine wp_obj dX1_init_1 obX1_3 w_obj (Nat.le_of_ble_eq_true rfl) (Nat.le_of_ble_eq_true rfl) ?_
  refine wp_aload_n dX1_init_4 rfl ?_
  refine wp_bipush dX1_init_5 rfl ?_
  refine wp_put fkX1_9 dX1_init_7 hc rfl rfl (Nat.le_of_ble_eq_true rfl) ?_
  obtain ⟨h_1, eh_1⟩ : ∃ hh9 : AH, hh9 = hup h a (eO 1 [JV 9, JV 0]) := ⟨_, rfl⟩
  refine WP.heq eh_1 ?_
  have c1_0 : h_1 a = some (eO 1 [JV 9, JV 0]) := by rw [eh_1]; exact hup_self _ _ _
  refine wp_vret dX1_init_10 rfl ?_
  refine ⟨rfl, rfl, c1_0, ?_⟩
  exact (FR.rf.up eh_1 ⟨by omega, by omega⟩)

theorem n_Task (hc : h a = some (eO 9 [JV 0, JV 0, JV 0, JV 0, JV 0, JV 0, JV 0, .null])) : CT G mX9_init [.ref a] h (a + 1) 1 4 (fun r h' N' => r = none ∧ N' = a + 2 ∧ (h' a = some (eO 9 [JV 0, JV 0, JV 0, JV 0, JV 0, JV 0, JV 0, .ref (a + 1)]) ∧ h' (a + 1) = some (eI G 4 (fun _ => 0))) ∧ FR a (a + 2) h h') := by
  refine CT_of (by decide +kernel) rfl (by simp [Value.category]) (Nat.le_of_ble_eq_true rfl) ?_
  change WP G mX9_init _ noX _ _ h (a + 1) 0 [some (.ref a)] []
  refine wp_aload_n dX9_init_0 rfl ?_
  refine wp_obj dX9_init_1 obX9_3 w_obj (Nat.le_of_ble_eq_true rfl) (Nat.le_of_ble_eq_true rfl) ?_
  refine wp_aload_n dX9_init_4 rfl ?_
  refine wp_iconst dX9_init_5 ?_
  refine wp_newI (m := 4) (k2 := 0) (n2 := 0) dX9_init_6 ar_int rfl (by decide) (by omega) (by omega) ?_
  obtain ⟨h_1, eh_1⟩ : ∃ hh9 : AH, hh9 = hup h (a + 1) (eI G 4 (fun _ => 0)) := ⟨_, rfl⟩
  refine WP.heq eh_1 ?_
  have c1_0 := (hup_at eh_1 (by omega)).trans hc
  have c1_1 : h_1 (a + 1) = some (eI G 4 (fun _ => 0)) := by rw [eh_1]; exact hup_self _ _ _
  change WP G mX9_init _ _ 0 0 h_1 (a + 2) 8 [some (.ref a)] [.ref (a + 1), .ref a]
  refine wp_putF fkX9_9 dX9_init_8 rfl (fun r hr => by cases hr; rfl) c1_0 rfl rfl (Nat.le_of_ble_eq_true rfl) ?_
  obtain ⟨h_2, eh_2⟩ : ∃ hh9 : AH, hh9 = hup h_1 a (eO 9 [JV 0, JV 0, JV 0, JV 0, JV 0, JV 0, JV 0, .ref (a + 1)]) := ⟨_, rfl⟩
  refine WP.heq eh_2 ?_
  have c2_0 : h_2 a = some (eO 9 [JV 0, JV 0, JV 0, JV 0, JV 0, JV 0, JV 0, .ref (a + 1)]) := by rw [eh_2]; exact hup_self _ _ _
  have c2_1 := (hup_at eh_2 (by omega)).trans c1_1
  refine wp_vret dX9_init_11 rfl ?_
  refine ⟨rfl, rfl, ⟨c2_0, c2_1⟩, ?_⟩
  exact ((FR.rf.up eh_1 ⟨by omega, by omega⟩).up eh_2 ⟨by omega, by omega⟩)

theorem n_Link (hc : h a = some (eO 4 [JV 0, JV 0, JV 0, JV 0])) : CT G mX4_init [.ref a] h (a + 1) 0 0 (fun r h' N' => r = none ∧ N' = a + 1 ∧ h' a = some (eO 4 [JV 0, JV 0, JV 0, JV 0]) ∧ FR a (a + 1) h h') := by
  refine CT_of (by decide +kernel) rfl (by simp [Value.category]) (Nat.le_of_ble_eq_true rfl) ?_
  change WP G mX4_init _ noX _ _ h (a + 1) 0 [some (.ref a)] []
  refine wp_aload_n dX4_init_0 rfl ?_
  refine wp_obj dX4_init_1 obX4_1 w_obj (Nat.le_of_ble_eq_true rfl) (Nat.le_of_ble_eq_true rfl) ?_
  refine wp_vret dX4_init_4 rfl ?_
  refine ⟨rfl, rfl, hc, ?_⟩
  exact FR.rf

theorem n_Plan (hc : h a = some (eO 7 [.null, .null])) : CT G mX7_init [.ref a] h (a + 1) 2 48 (fun r h' N' => r = none ∧ N' = a + 3 ∧ IsPlan G h' a (fun _ => 0) (fun _ => 0) ∧ FR a (a + 3) h h') := by
  refine CT_of (by decide +kernel) rfl (by simp [Value.category]) (Nat.le_of_ble_eq_true rfl) ?_
  change WP G mX7_init _ noX _ _ h (a + 1) 0 [some (.ref a)] []
  refine wp_aload_n dX7_init_0 rfl ?_
  refine wp_obj dX7_init_1 obX7_3 w_obj (Nat.le_of_ble_eq_true rfl) (Nat.le_of_ble_eq_true rfl) ?_
  refine wp_aload_n dX7_init_4 rfl ?_
  refine wp_bipush dX7_init_5 rfl ?_
  refine wp_newI (m := 24) (k2 := 1) (n2 := 24) dX7_init_7 ar_int rfl (by decide) (by omega) (by omega) ?_
  obtain ⟨h_1, eh_1⟩ : ∃ hh9 : AH, hh9 = hup h (a + 1) (eI G 24 (fun _ => 0)) := ⟨_, rfl⟩
  refine WP.heq eh_1 ?_
  have c1_0 := (hup_at eh_1 (by omega)).trans hc
  have c1_1 : h_1 (a + 1) = some (eI G 24 (fun _ => 0)) := by rw [eh_1]; exact hup_self _ _ _
  change WP G mX7_init _ _ 1 24 h_1 (a + 2) 9 [some (.ref a)] [.ref (a + 1), .ref a]
  refine wp_putF fkX7_9 dX7_init_9 rfl (fun r hr => by cases hr; rfl) c1_0 rfl rfl (Nat.le_of_ble_eq_true rfl) ?_
  obtain ⟨h_2, eh_2⟩ : ∃ hh9 : AH, hh9 = hup h_1 a (eO 7 [.ref (a + 1), .null]) := ⟨_, rfl⟩
  refine WP.heq eh_2 ?_
  have c2_0 : h_2 a = some (eO 7 [.ref (a + 1), .null]) := by rw [eh_2]; exact hup_self _ _ _
  have c2_1 := (hup_at eh_2 (by omega)).trans c1_1
  refine wp_aload_n dX7_init_12 rfl ?_
  refine wp_bipush dX7_init_13 rfl ?_
  refine wp_newI (m := 24) (k2 := 0) (n2 := 0) dX7_init_15 ar_int rfl (by decide) (by omega) (by omega) ?_
  obtain ⟨h_3, eh_3⟩ : ∃ hh9 : AH, hh9 = hup h_2 (a + 2) (eI G 24 (fun _ => 0)) := ⟨_, rfl⟩
  refine WP.heq eh_3 ?_
  have c3_0 := (hup_at eh_3 (by omega)).trans c2_0
  have c3_1 := (hup_at eh_3 (by omega)).trans c2_1
  have c3_2 : h_3 (a + 2) = some (eI G 24 (fun _ => 0)) := by rw [eh_3]; exact hup_self _ _ _
  change WP G mX7_init _ _ 0 0 h_3 (a + 3) 17 [some (.ref a)] [.ref (a + 2), .ref a]
  refine wp_putF fkX7_15 dX7_init_17 rfl (fun r hr => by cases hr; rfl) c3_0 rfl rfl (Nat.le_of_ble_eq_true rfl) ?_
  obtain ⟨h_4, eh_4⟩ : ∃ hh9 : AH, hh9 = hup h_3 a (eO 7 [.ref (a + 1), .ref (a + 2)]) := ⟨_, rfl⟩
  refine WP.heq eh_4 ?_
  have c4_0 : h_4 a = some (eO 7 [.ref (a + 1), .ref (a + 2)]) := by rw [eh_4]; exact hup_self _ _ _
  have c4_1 := (hup_at eh_4 (by omega)).trans c3_1
  have c4_2 := (hup_at eh_4 (by omega)).trans c3_2
  refine wp_vret dX7_init_20 rfl ?_
  refine ⟨rfl, rfl, ⟨c4_0, c4_1, c4_2⟩, ?_⟩
  exact ((((FR.rf.up eh_1 ⟨by omega, by omega⟩).up eh_2 ⟨by omega, by omega⟩).up eh_3 ⟨by omega, by omega⟩).up eh_4 ⟨by omega, by omega⟩)

theorem hr_ne {N r m q : Nat} (hq : q < N ∨ N + r < q) : hrows G h N r m q = h q := by
  unfold hrows
  rw [if_neg (by omega), if_neg (by omega)]
theorem LD.new {u : Int} {h1 : AH} (h0 : h1 a = some (eO 5 [.ref (a + 1), JV u])) (hr : ∀ q, a + 1 ≤ q → q < a + 6 → h1 q = hrows G h (a + 1) 4 5000 q) : LD G h1 a (fun _ _ => 0) u := by
  refine ⟨h0, ?_, fun c hc => ?_⟩
  · rw [hr _ (by omega) (by omega)]
    unfold hrows
    rw [if_pos rfl]
  · rw [hr _ (by omega) (by omega)]
    unfold hrows
    rw [if_neg (by omega), if_pos (by omega)]
theorem n_Load (hc : h a = some (eO 5 [.null, JV 0])) : CT G mX5_init [.ref a] h (a + 1) 5 20004 (fun r h' N' => r = none ∧ N' = a + 6 ∧ LD G h' a (fun _ _ => 0) 0 ∧ FR a (a + 6) h h') := by
  refine CT_of (by decide +kernel) rfl (by simp [Value.category]) (Nat.le_of_ble_eq_true rfl) ?_
  change WP G mX5_init _ noX _ _ h (a + 1) 0 [some (.ref a)] []
  refine wp_aload_n dX5_init_0 rfl ?_
  refine wp_obj dX5_init_1 obX5_3 w_obj (Nat.le_of_ble_eq_true rfl) (Nat.le_of_ble_eq_true rfl) ?_
  refine wp_aload_n dX5_init_4 rfl ?_
  refine wp_iconst dX5_init_5 ?_
  refine wp_sipush dX5_init_6 rfl ?_
  refine wp_multi (r := 4) (m := 5000) (k2 := 0) (n2 := 0) dX5_init_9 clX5_9 ar_int (by decide) (by decide) (by omega) (by omega) ?_
  obtain ⟨h_1, eh_1⟩ : ∃ hh9 : AH, hh9 = hrows G h (a + 1) 4 5000 := ⟨_, rfl⟩
  refine WP.heq eh_1 ?_
  have c1_0 : h_1 a = some (eO 5 [.null, JV 0]) := by rw [eh_1, hr_ne (by omega)]; exact hc
  change WP G mX5_init _ _ 0 0 h_1 (a + 6) 13 [some (.ref a)] [.ref (a + 1), .ref a]
  refine wp_putF fkX5_11 dX5_init_13 rfl (fun r hr => by cases hr; rfl) c1_0 rfl rfl (Nat.le_of_ble_eq_true rfl) ?_
  obtain ⟨h_2, eh_2⟩ : ∃ hh9 : AH, hh9 = hup h_1 a (eO 5 [.ref (a + 1), JV 0]) := ⟨_, rfl⟩
  refine WP.heq eh_2 ?_
  have c2_0 : h_2 a = some (eO 5 [.ref (a + 1), JV 0]) := by rw [eh_2]; exact hup_self _ _ _
  refine wp_vret dX5_init_16 rfl ?_
  refine ⟨rfl, rfl, LD.new c2_0 (fun q h1 h2 => by rw [hup_at eh_2 (by omega), eh_1]), fun q hq => ?_⟩
  rw [hup_at eh_2 (by omega), eh_1, hr_ne (by omega)]

theorem n_Network (hc : h a = some (eO 6 [.null, .null, .null, .null, JV 0])) : CT G mX6_init [.ref a, .ref (cB G + 1)] h (a + 1) 7 124 (fun r h' N' => r = none ∧ N' = a + 8 ∧ NW G h' a (fun _ => 0) (fun _ => 0) (fun _ => 0) (fun _ => 0) (fun _ => 0) 0 ∧ FR a (a + 8) h h') := by
  refine CT_of (by decide +kernel) rfl (by simp [Value.category]) (Nat.le_of_ble_eq_true rfl) ?_
  change WP G mX6_init _ noX _ _ h (a + 1) 0 [some (.ref a), some (.ref (cB G + 1))] []
  refine wp_aload_n dX6_init_0 rfl ?_
  refine wp_obj dX6_init_1 obX6_3 w_obj (Nat.le_of_ble_eq_true rfl) (Nat.le_of_ble_eq_true rfl) ?_
  refine wp_aload_n dX6_init_4 rfl ?_
  refine wp_new (fs := [.null, .null]) (k2 := 6) (n2 := 122) ckX7 clX6_9 isX7 inX7 dX6_init_5 dfX7 (by omega) (by omega) ?_
  obtain ⟨h_1, eh_1⟩ : ∃ hh9 : AH, hh9 = hup h (a + 1) (eO 7 [.null, .null]) := ⟨_, rfl⟩
  refine WP.heq eh_1 ?_
  have c1_0 := (hup_at eh_1 (by omega)).trans hc
  have c1_1 : h_1 (a + 1) = some (eO 7 [.null, .null]) := by rw [eh_1]; exact hup_self _ _ _
  change WP G mX6_init _ _ 6 122 h_1 (a + 2) 8 [some (.ref a), some (.ref (cB G + 1))] [.ref (a + 1), .ref a]
  refine wp_dup dX6_init_8 rfl ?_
  refine wp_callIN (k2 := 4) (n2 := 74) (n_Plan c1_1) ciX6_11 dX6_init_9 ⟨Nat.le_of_ble_eq_true rfl, Nat.le_of_ble_eq_true rfl⟩ (Nat.le_of_ble_eq_true rfl) rfl rfl (by omega) (by omega) (fun r h_2 N9 hq => ?_)
  obtain ⟨rfl, hN_2, p_2, f_2⟩ := hq
  rw [hN_2]
  have c2_0 := (f_2 _ (by omega)).trans c1_0
  change WP G mX6_init _ _ 4 74 h_2 (a + 4) 12 [some (.ref a), some (.ref (cB G + 1))] [.ref (a + 1), .ref a]
  refine wp_putF fkX6_12 dX6_init_12 rfl (fun r hr => by cases hr; rfl) c2_0 rfl rfl (Nat.le_of_ble_eq_true rfl) ?_
  obtain ⟨h_3, eh_3⟩ : ∃ hh9 : AH, hh9 = hup h_2 a (eO 6 [.null, .ref (a + 1), .null, .null, JV 0]) := ⟨_, rfl⟩
  refine WP.heq eh_3 ?_
  have c3_0 : h_3 a = some (eO 6 [.null, .ref (a + 1), .null, .null, JV 0]) := by rw [eh_3]; exact hup_self _ _ _
  have c3_1 := (hup_at eh_3 (by omega)).trans p_2.1
  have c3_2 := (hup_at eh_3 (by omega)).trans p_2.2.1
  have c3_3 := (hup_at eh_3 (by omega)).trans p_2.2.2
  refine wp_aload_n dX6_init_15 rfl ?_
  refine wp_new (fs := [.null, .null]) (k2 := 3) (n2 := 72) ckX7 clX6_9 isX7 inX7 dX6_init_16 dfX7 (by omega) (by omega) ?_
  obtain ⟨h_4, eh_4⟩ : ∃ hh9 : AH, hh9 = hup h_3 (a + 4) (eO 7 [.null, .null]) := ⟨_, rfl⟩
  refine WP.heq eh_4 ?_
  have c4_0 := (hup_at eh_4 (by omega)).trans c3_0
  have c4_1 := (hup_at eh_4 (by omega)).trans c3_1
  have c4_2 := (hup_at eh_4 (by omega)).trans c3_2
  have c4_3 := (hup_at eh_4 (by omega)).trans c3_3
  have c4_4 : h_4 (a + 4) = some (eO 7 [.null, .null]) := by rw [eh_4]; exact hup_self _ _ _
  change WP G mX6_init _ _ 3 72 h_4 (a + 5) 19 [some (.ref a), some (.ref (cB G + 1))] [.ref (a + 4), .ref a]
  refine wp_dup dX6_init_19 rfl ?_
  refine wp_callIN (k2 := 1) (n2 := 24) (n_Plan c4_4) ciX6_11 dX6_init_20 ⟨Nat.le_of_ble_eq_true rfl, Nat.le_of_ble_eq_true rfl⟩ (Nat.le_of_ble_eq_true rfl) rfl rfl (by omega) (by omega) (fun r h_5 N9 hq => ?_)
  obtain ⟨rfl, hN_5, p_5, f_5⟩ := hq
  rw [hN_5]
  have c5_0 := (f_5 _ (by omega)).trans c4_0
  have c5_1 := (f_5 _ (by omega)).trans c4_1
  have c5_2 := (f_5 _ (by omega)).trans c4_2
  have c5_3 := (f_5 _ (by omega)).trans c4_3
  change WP G mX6_init _ _ 1 24 h_5 (a + 7) 23 [some (.ref a), some (.ref (cB G + 1))] [.ref (a + 4), .ref a]
  refine wp_putF fkX6_18 dX6_init_23 rfl (fun r hr => by cases hr; rfl) c5_0 rfl rfl (Nat.le_of_ble_eq_true rfl) ?_
  obtain ⟨h_6, eh_6⟩ : ∃ hh9 : AH, hh9 = hup h_5 a (eO 6 [.null, .ref (a + 1), .ref (a + 4), .null, JV 0]) := ⟨_, rfl⟩
  refine WP.heq eh_6 ?_
  have c6_0 : h_6 a = some (eO 6 [.null, .ref (a + 1), .ref (a + 4), .null, JV 0]) := by rw [eh_6]; exact hup_self _ _ _
  have c6_1 := (hup_at eh_6 (by omega)).trans c5_1
  have c6_2 := (hup_at eh_6 (by omega)).trans c5_2
  have c6_3 := (hup_at eh_6 (by omega)).trans c5_3
  have c6_4 := (hup_at eh_6 (by omega)).trans p_5.1
  have c6_5 := (hup_at eh_6 (by omega)).trans p_5.2.1
  have c6_6 := (hup_at eh_6 (by omega)).trans p_5.2.2
  refine wp_aload_n dX6_init_26 rfl ?_
  refine wp_bipush dX6_init_27 rfl ?_
  refine wp_newI (m := 24) (k2 := 0) (n2 := 0) dX6_init_29 ar_int rfl (by decide) (by omega) (by omega) ?_
  obtain ⟨h_7, eh_7⟩ : ∃ hh9 : AH, hh9 = hup h_6 (a + 7) (eI G 24 (fun _ => 0)) := ⟨_, rfl⟩
  refine WP.heq eh_7 ?_
  have c7_0 := (hup_at eh_7 (by omega)).trans c6_0
  have c7_1 := (hup_at eh_7 (by omega)).trans c6_1
  have c7_2 := (hup_at eh_7 (by omega)).trans c6_2
  have c7_3 := (hup_at eh_7 (by omega)).trans c6_3
  have c7_4 := (hup_at eh_7 (by omega)).trans c6_4
  have c7_5 := (hup_at eh_7 (by omega)).trans c6_5
  have c7_6 := (hup_at eh_7 (by omega)).trans c6_6
  have c7_7 : h_7 (a + 7) = some (eI G 24 (fun _ => 0)) := by rw [eh_7]; exact hup_self _ _ _
  change WP G mX6_init _ _ 0 0 h_7 (a + 8) 31 [some (.ref a), some (.ref (cB G + 1))] [.ref (a + 7), .ref a]
  refine wp_putF fkX6_21 dX6_init_31 rfl (fun r hr => by cases hr; rfl) c7_0 rfl rfl (Nat.le_of_ble_eq_true rfl) ?_
  obtain ⟨h_8, eh_8⟩ : ∃ hh9 : AH, hh9 = hup h_7 a (eO 6 [.null, .ref (a + 1), .ref (a + 4), .ref (a + 7), JV 0]) := ⟨_, rfl⟩
  refine WP.heq eh_8 ?_
  have c8_0 : h_8 a = some (eO 6 [.null, .ref (a + 1), .ref (a + 4), .ref (a + 7), JV 0]) := by rw [eh_8]; exact hup_self _ _ _
  have c8_1 := (hup_at eh_8 (by omega)).trans c7_1
  have c8_2 := (hup_at eh_8 (by omega)).trans c7_2
  have c8_3 := (hup_at eh_8 (by omega)).trans c7_3
  have c8_4 := (hup_at eh_8 (by omega)).trans c7_4
  have c8_5 := (hup_at eh_8 (by omega)).trans c7_5
  have c8_6 := (hup_at eh_8 (by omega)).trans c7_6
  have c8_7 := (hup_at eh_8 (by omega)).trans c7_7
  refine wp_aload_n dX6_init_34 rfl ?_
  refine wp_aload_n dX6_init_35 rfl ?_
  refine wp_putF fkX6_25 dX6_init_36 rfl (fun r hr => by cases hr; rfl) c8_0 rfl rfl (Nat.le_of_ble_eq_true rfl) ?_
  obtain ⟨h_9, eh_9⟩ : ∃ hh9 : AH, hh9 = hup h_8 a (eO 6 [.ref (cB G + 1), .ref (a + 1), .ref (a + 4), .ref (a + 7), JV 0]) := ⟨_, rfl⟩
  refine WP.heq eh_9 ?_
  have c9_0 : h_9 a = some (eO 6 [.ref (cB G + 1), .ref (a + 1), .ref (a + 4), .ref (a + 7), JV 0]) := by rw [eh_9]; exact hup_self _ _ _
  have c9_1 := (hup_at eh_9 (by omega)).trans c8_1
  have c9_2 := (hup_at eh_9 (by omega)).trans c8_2
  have c9_3 := (hup_at eh_9 (by omega)).trans c8_3
  have c9_4 := (hup_at eh_9 (by omega)).trans c8_4
  have c9_5 := (hup_at eh_9 (by omega)).trans c8_5
  have c9_6 := (hup_at eh_9 (by omega)).trans c8_6
  have c9_7 := (hup_at eh_9 (by omega)).trans c8_7
  refine wp_vret dX6_init_39 rfl ?_
  refine ⟨rfl, rfl, ⟨c9_0, ⟨c9_1, c9_2, c9_3⟩, ⟨c9_4, c9_5, c9_6⟩, c9_7⟩, ?_⟩
  exact (((((((((FR.rf.up eh_1 ⟨by omega, by omega⟩).tr (f_2.mono (by omega) (by omega))).up eh_3 ⟨by omega, by omega⟩).up eh_4 ⟨by omega, by omega⟩).tr (f_5.mono (by omega) (by omega))).up eh_6 ⟨by omega, by omega⟩).up eh_7 ⟨by omega, by omega⟩).up eh_8 ⟨by omega, by omega⟩).up eh_9 ⟨by omega, by omega⟩)

theorem n_Levelling (hc : h a = some (eO 3 [.null, .null, .null, .null, .null, JV 0, JV 0])) : CT G mX3_init [.ref a, .ref (cB G + 1)] h (a + 1) 11 20104 (fun r h' N' => r = none ∧ N' = a + 12 ∧ LV G h' a (fun _ => 0) (fun _ => 0) (fun _ _ => 0) 0 (fun _ => 0) (fun _ => 0) 0 0 ∧ FR a (a + 12) h h') := by
  refine CT_of (by decide +kernel) rfl (by simp [Value.category]) (Nat.le_of_ble_eq_true rfl) ?_
  change WP G mX3_init _ noX _ _ h (a + 1) 0 [some (.ref a), some (.ref (cB G + 1))] []
  refine wp_aload_n dX3_init_0 rfl ?_
  refine wp_obj dX3_init_1 obX3_3 w_obj (Nat.le_of_ble_eq_true rfl) (Nat.le_of_ble_eq_true rfl) ?_
  refine wp_aload_n dX3_init_4 rfl ?_
  refine wp_new (fs := [.null, .null]) (k2 := 10) (n2 := 20102) ckX7 clX3_9 isX7 inX7 dX3_init_5 dfX7 (by omega) (by omega) ?_
  obtain ⟨h_1, eh_1⟩ : ∃ hh9 : AH, hh9 = hup h (a + 1) (eO 7 [.null, .null]) := ⟨_, rfl⟩
  refine WP.heq eh_1 ?_
  have c1_0 := (hup_at eh_1 (by omega)).trans hc
  have c1_1 : h_1 (a + 1) = some (eO 7 [.null, .null]) := by rw [eh_1]; exact hup_self _ _ _
  change WP G mX3_init _ _ 10 20102 h_1 (a + 2) 8 [some (.ref a), some (.ref (cB G + 1))] [.ref (a + 1), .ref a]
  refine wp_dup dX3_init_8 rfl ?_
  refine wp_callIN (k2 := 8) (n2 := 20054) (n_Plan c1_1) ciX3_11 dX3_init_9 ⟨Nat.le_of_ble_eq_true rfl, Nat.le_of_ble_eq_true rfl⟩ (Nat.le_of_ble_eq_true rfl) rfl rfl (by omega) (by omega) (fun r h_2 N9 hq => ?_)
  obtain ⟨rfl, hN_2, p_2, f_2⟩ := hq
  rw [hN_2]
  have c2_0 := (f_2 _ (by omega)).trans c1_0
  change WP G mX3_init _ _ 8 20054 h_2 (a + 4) 12 [some (.ref a), some (.ref (cB G + 1))] [.ref (a + 1), .ref a]
  refine wp_putF fkX3_12 dX3_init_12 rfl (fun r hr => by cases hr; rfl) c2_0 rfl rfl (Nat.le_of_ble_eq_true rfl) ?_
  obtain ⟨h_3, eh_3⟩ : ∃ hh9 : AH, hh9 = hup h_2 a (eO 3 [.null, .ref (a + 1), .null, .null, .null, JV 0, JV 0]) := ⟨_, rfl⟩
  refine WP.heq eh_3 ?_
  have c3_0 : h_3 a = some (eO 3 [.null, .ref (a + 1), .null, .null, .null, JV 0, JV 0]) := by rw [eh_3]; exact hup_self _ _ _
  have c3_1 := (hup_at eh_3 (by omega)).trans p_2.1
  have c3_2 := (hup_at eh_3 (by omega)).trans p_2.2.1
  have c3_3 := (hup_at eh_3 (by omega)).trans p_2.2.2
  refine wp_aload_n dX3_init_15 rfl ?_
  refine wp_new (fs := [.null, JV 0]) (k2 := 7) (n2 := 20052) ckX5 clX3_18 isX5 inX5 dX3_init_16 dfX5 (by omega) (by omega) ?_
  obtain ⟨h_4, eh_4⟩ : ∃ hh9 : AH, hh9 = hup h_3 (a + 4) (eO 5 [.null, JV 0]) := ⟨_, rfl⟩
  refine WP.heq eh_4 ?_
  have c4_0 := (hup_at eh_4 (by omega)).trans c3_0
  have c4_1 := (hup_at eh_4 (by omega)).trans c3_1
  have c4_2 := (hup_at eh_4 (by omega)).trans c3_2
  have c4_3 := (hup_at eh_4 (by omega)).trans c3_3
  have c4_4 : h_4 (a + 4) = some (eO 5 [.null, JV 0]) := by rw [eh_4]; exact hup_self _ _ _
  change WP G mX3_init _ _ 7 20052 h_4 (a + 5) 19 [some (.ref a), some (.ref (cB G + 1))] [.ref (a + 4), .ref a]
  refine wp_dup dX3_init_19 rfl ?_
  refine wp_callIN (k2 := 2) (n2 := 48) (n_Load c4_4) ciX3_20 dX3_init_20 ⟨Nat.le_of_ble_eq_true rfl, Nat.le_of_ble_eq_true rfl⟩ (Nat.le_of_ble_eq_true rfl) rfl rfl (by omega) (by omega) (fun r h_5 N9 hq => ?_)
  obtain ⟨rfl, hN_5, p_5, f_5⟩ := hq
  rw [hN_5]
  have c5_0 := (f_5 _ (by omega)).trans c4_0
  have c5_1 := (f_5 _ (by omega)).trans c4_1
  have c5_2 := (f_5 _ (by omega)).trans c4_2
  have c5_3 := (f_5 _ (by omega)).trans c4_3
  change WP G mX3_init _ _ 2 48 h_5 (a + 10) 23 [some (.ref a), some (.ref (cB G + 1))] [.ref (a + 4), .ref a]
  refine wp_putF fkX3_21 dX3_init_23 rfl (fun r hr => by cases hr; rfl) c5_0 rfl rfl (Nat.le_of_ble_eq_true rfl) ?_
  obtain ⟨h_6, eh_6⟩ : ∃ hh9 : AH, hh9 = hup h_5 a (eO 3 [.null, .ref (a + 1), .ref (a + 4), .null, .null, JV 0, JV 0]) := ⟨_, rfl⟩
  refine WP.heq eh_6 ?_
  have c6_0 : h_6 a = some (eO 3 [.null, .ref (a + 1), .ref (a + 4), .null, .null, JV 0, JV 0]) := by rw [eh_6]; exact hup_self _ _ _
  have c6_1 := (hup_at eh_6 (by omega)).trans c5_1
  have c6_2 := (hup_at eh_6 (by omega)).trans c5_2
  have c6_3 := (hup_at eh_6 (by omega)).trans c5_3
  have DX_6a_4 : LD G h_6 (a + 4) (fun _ _ => 0) 0 := p_5.frame (fun q9 hq9 hq8 => hup_at eh_6 (by omega))
  refine wp_aload_n dX3_init_26 rfl ?_
  refine wp_bipush dX3_init_27 rfl ?_
  refine wp_newZ (m := 24) (k2 := 1) (n2 := 24) dX3_init_29 ar_boolean rfl (by decide) (by omega) (by omega) ?_
  obtain ⟨h_7, eh_7⟩ : ∃ hh9 : AH, hh9 = hup h_6 (a + 10) (eZ G 24 (fun _ => 0)) := ⟨_, rfl⟩
  refine WP.heq eh_7 ?_
  have c7_0 := (hup_at eh_7 (by omega)).trans c6_0
  have c7_1 := (hup_at eh_7 (by omega)).trans c6_1
  have c7_2 := (hup_at eh_7 (by omega)).trans c6_2
  have c7_3 := (hup_at eh_7 (by omega)).trans c6_3
  have c7_4 : h_7 (a + 10) = some (eZ G 24 (fun _ => 0)) := by rw [eh_7]; exact hup_self _ _ _
  have DX_7a_4 : LD G h_7 (a + 4) (fun _ _ => 0) 0 := DX_6a_4.frame (fun q9 hq9 hq8 => hup_at eh_7 (by omega))
  change WP G mX3_init _ _ 1 24 h_7 (a + 11) 31 [some (.ref a), some (.ref (cB G + 1))] [.ref (a + 10), .ref a]
  refine wp_putF fkX3_25 dX3_init_31 rfl (fun r hr => by cases hr; rfl) c7_0 rfl rfl (Nat.le_of_ble_eq_true rfl) ?_
  obtain ⟨h_8, eh_8⟩ : ∃ hh9 : AH, hh9 = hup h_7 a (eO 3 [.null, .ref (a + 1), .ref (a + 4), .ref (a + 10), .null, JV 0, JV 0]) := ⟨_, rfl⟩
  refine WP.heq eh_8 ?_
  have c8_0 : h_8 a = some (eO 3 [.null, .ref (a + 1), .ref (a + 4), .ref (a + 10), .null, JV 0, JV 0]) := by rw [eh_8]; exact hup_self _ _ _
  have c8_1 := (hup_at eh_8 (by omega)).trans c7_1
  have c8_2 := (hup_at eh_8 (by omega)).trans c7_2
  have c8_3 := (hup_at eh_8 (by omega)).trans c7_3
  have c8_4 := (hup_at eh_8 (by omega)).trans c7_4
  have DX_8a_4 : LD G h_8 (a + 4) (fun _ _ => 0) 0 := DX_7a_4.frame (fun q9 hq9 hq8 => hup_at eh_8 (by omega))
  refine wp_aload_n dX3_init_34 rfl ?_
  refine wp_bipush dX3_init_35 rfl ?_
  refine wp_newI (m := 24) (k2 := 0) (n2 := 0) dX3_init_37 ar_int rfl (by decide) (by omega) (by omega) ?_
  obtain ⟨h_9, eh_9⟩ : ∃ hh9 : AH, hh9 = hup h_8 (a + 11) (eI G 24 (fun _ => 0)) := ⟨_, rfl⟩
  refine WP.heq eh_9 ?_
  have c9_0 := (hup_at eh_9 (by omega)).trans c8_0
  have c9_1 := (hup_at eh_9 (by omega)).trans c8_1
  have c9_2 := (hup_at eh_9 (by omega)).trans c8_2
  have c9_3 := (hup_at eh_9 (by omega)).trans c8_3
  have c9_4 := (hup_at eh_9 (by omega)).trans c8_4
  have c9_5 : h_9 (a + 11) = some (eI G 24 (fun _ => 0)) := by rw [eh_9]; exact hup_self _ _ _
  have DX_9a_4 : LD G h_9 (a + 4) (fun _ _ => 0) 0 := DX_8a_4.frame (fun q9 hq9 hq8 => hup_at eh_9 (by omega))
  change WP G mX3_init _ _ 0 0 h_9 (a + 12) 39 [some (.ref a), some (.ref (cB G + 1))] [.ref (a + 11), .ref a]
  refine wp_putF fkX3_29 dX3_init_39 rfl (fun r hr => by cases hr; rfl) c9_0 rfl rfl (Nat.le_of_ble_eq_true rfl) ?_
  obtain ⟨h_10, eh_10⟩ : ∃ hh9 : AH, hh9 = hup h_9 a (eO 3 [.null, .ref (a + 1), .ref (a + 4), .ref (a + 10), .ref (a + 11), JV 0, JV 0]) := ⟨_, rfl⟩
  refine WP.heq eh_10 ?_
  have c10_0 : h_10 a = some (eO 3 [.null, .ref (a + 1), .ref (a + 4), .ref (a + 10), .ref (a + 11), JV 0, JV 0]) := by rw [eh_10]; exact hup_self _ _ _
  have c10_1 := (hup_at eh_10 (by omega)).trans c9_1
  have c10_2 := (hup_at eh_10 (by omega)).trans c9_2
  have c10_3 := (hup_at eh_10 (by omega)).trans c9_3
  have c10_4 := (hup_at eh_10 (by omega)).trans c9_4
  have c10_5 := (hup_at eh_10 (by omega)).trans c9_5
  have DX_10a_4 : LD G h_10 (a + 4) (fun _ _ => 0) 0 := DX_9a_4.frame (fun q9 hq9 hq8 => hup_at eh_10 (by omega))
  refine wp_aload_n dX3_init_42 rfl ?_
  refine wp_aload_n dX3_init_43 rfl ?_
  refine wp_putF fkX3_33 dX3_init_44 rfl (fun r hr => by cases hr; rfl) c10_0 rfl rfl (Nat.le_of_ble_eq_true rfl) ?_
  obtain ⟨h_11, eh_11⟩ : ∃ hh9 : AH, hh9 = hup h_10 a (eO 3 [.ref (cB G + 1), .ref (a + 1), .ref (a + 4), .ref (a + 10), .ref (a + 11), JV 0, JV 0]) := ⟨_, rfl⟩
  refine WP.heq eh_11 ?_
  have c11_0 : h_11 a = some (eO 3 [.ref (cB G + 1), .ref (a + 1), .ref (a + 4), .ref (a + 10), .ref (a + 11), JV 0, JV 0]) := by rw [eh_11]; exact hup_self _ _ _
  have c11_1 := (hup_at eh_11 (by omega)).trans c10_1
  have c11_2 := (hup_at eh_11 (by omega)).trans c10_2
  have c11_3 := (hup_at eh_11 (by omega)).trans c10_3
  have c11_4 := (hup_at eh_11 (by omega)).trans c10_4
  have c11_5 := (hup_at eh_11 (by omega)).trans c10_5
  have DX_11a_4 : LD G h_11 (a + 4) (fun _ _ => 0) 0 := DX_10a_4.frame (fun q9 hq9 hq8 => hup_at eh_11 (by omega))
  refine wp_vret dX3_init_47 rfl ?_
  refine ⟨rfl, rfl, ⟨c11_0, ⟨c11_1, c11_2, c11_3⟩, DX_11a_4, c11_4, c11_5⟩, ?_⟩
  exact (((((((((((FR.rf.up eh_1 ⟨by omega, by omega⟩).tr (f_2.mono (by omega) (by omega))).up eh_3 ⟨by omega, by omega⟩).up eh_4 ⟨by omega, by omega⟩).tr (f_5.mono (by omega) (by omega))).up eh_6 ⟨by omega, by omega⟩).up eh_7 ⟨by omega, by omega⟩).up eh_8 ⟨by omega, by omega⟩).up eh_9 ⟨by omega, by omega⟩).up eh_10 ⟨by omega, by omega⟩).up eh_11 ⟨by omega, by omega⟩)

theorem WP.bud {μ : MI} {Q : PQ} {X : PX} {k n k1 n1 N pc : Nat} {L : List (Option Value)} {st : List Value} (hk : k1 ≤ k) (hn : n1 ≤ n) (w : WP G μ Q X k1 n1 h N pc L st) : WP G μ Q X k n h N pc L st := by
  intro p e R s m args below meth c H locs cells slots mc ms ls F a1 a2 a3 a4 a5 a6 hR hS hL
  exact w p e R s m args below meth c H locs cells slots mc ms ls F a1 a2 (by omega) (by omega) a5 a6 hR hS hL
theorem IsCal.fr2 {h' : AH} {w fc : Int} {f : Nat → Int} (p : IsCal G h a w fc f) (k : ∀ q, a ≤ q → q < a + 2 → h' q = h q) : IsCal G h' a w fc f := p.fr (k _ (by omega) (by omega)) (k _ (by omega) (by omega))
theorem one_fr {h' : AH} {e : va_E} (p : h a = some e) (k : ∀ q, a ≤ q → q < a + 1 → h' q = h q) : h' a = some e := (k _ (by omega) (by omega)).trans p
theorem two_fr {h' : AH} {e e2 : va_E} (p : h a = some e ∧ h (a + 1) = some e2) (k : ∀ q, a ≤ q → q < a + 2 → h' q = h q) : h' a = some e ∧ h' (a + 1) = some e2 := ⟨(k _ (by omega) (by omega)).trans p.1, (k _ (by omega) (by omega)).trans p.2⟩
theorem l_keptCals {Q : PQ} {X : PX} {kr nr : Nat} {h0 : AH} (kk : ∀ h', h' a = some (eO 2 [.ref (cB G + 1), .ref (a + 1), .ref (a + 4), .ref (a + 5), .ref (a + 6)]) → h' (a + 6) = some (eQ G 5 4 (fun i => if i < 4 then some (a + 7 + 2 * i) else none)) → (∀ c9, c9 < 4 → IsCal G h' (a + 7 + 2 * c9) 31 0 (fun _ => 0)) → (∀ q, q ≠ a + 6 → (q < a + 7 ∨ a + 7 + 2 * 4 ≤ q) → h' q = h0 q) → WP G mX2_init Q X kr nr h' (a + 7 + 2 * 4) 70 [some (.ref a), some (.ref (cB G + 1)), some (JV ((4 : Nat) : Int))] []) : ∀ (m c : Nat) (h : AH) (kb nb : Nat), 4 - c = m → c ≤ 4 → 2 * (4 - c) + kr ≤ kb → 1003 * (4 - c) + nr ≤ nb → h a = some (eO 2 [.ref (cB G + 1), .ref (a + 1), .ref (a + 4), .ref (a + 5), .ref (a + 6)]) → h (a + 6) = some (eQ G 5 4 (fun i => if i < c then some (a + 7 + 2 * i) else none)) → (∀ c9, c9 < c → IsCal G h (a + 7 + 2 * c9) 31 0 (fun _ => 0)) → (∀ q, q ≠ a + 6 → (q < a + 7 ∨ a + 7 + 2 * 4 ≤ q) → h q = h0 q) → WP G mX2_init Q X kb nb h (a + 7 + 2 * c) 46 [some (.ref a), some (.ref (cB G + 1)), some (JV (c : Int))] [] := by
  intro m
  induction m with
  | zero =>
    intro c h kb nb hm hc hk hn h1 h2 h3 h4
    have hcc : c = 4 := by omega
    subst hcc
    have w9 := kk h h1 h2 h3 h4
    exact (show WP G mX2_init Q X kb nb h (a + 7 + 2 * 4) 46 [some (.ref a), some (.ref (cB G + 1)), some (JV ((4 : Nat) : Int))] [] from by
      refine WP.bud (k1 := kr) (n1 := nr) (by omega) (by omega) ?_
      refine wp_iload_n dX2_init_46 rfl ?_
      refine wp_iconst dX2_init_47 ?_
      refine wp_icmp_ge 70 dX2_init_48 (by decide) ⟨by omega, by omega⟩ ⟨by omega, by omega⟩ (fun c_48 => ?_) (fun c_48 => ?_)
      · exact w9
      · exact absurd c_48 (by omega))
  | succ m ih =>
    intro c h kb nb hm hc hk hn h1 h2 h3 h4
    refine wp_iload_n dX2_init_46 rfl ?_
    refine wp_iconst dX2_init_47 ?_
    refine wp_icmp_ge 70 dX2_init_48 (by decide) ⟨by omega, by omega⟩ ⟨by omega, by omega⟩ (fun c_48 => ?_) (fun c_48 => ?_)
    · exact absurd c_48 (by omega)
    · refine wp_aload_n dX2_init_51 rfl ?_
      refine wp_get fkX2_28 dX2_init_52 h1 rfl ?_
      refine wp_iload_n dX2_init_55 rfl ?_
      refine wp_new (fs := [JV 0, JV 0, .null]) (k2 := kb - 1) (n2 := nb - 3) ckX0 clX2_26 isX0 inX0 dX2_init_56 dfX0 (by omega) (by omega) ?_
      obtain ⟨h_1, eh_1⟩ : ∃ hh9 : AH, hh9 = hup h (a + 7 + 2 * c) (eO 0 [JV 0, JV 0, .null]) := ⟨_, rfl⟩
      refine WP.heq eh_1 ?_
      refine wp_dup dX2_init_59 rfl ?_
      have hs : h_1 (a + 7 + 2 * c) = some (eO 0 [JV 0, JV 0, .null]) := by rw [eh_1]; exact hup_self _ _ _
      refine wp_callIN (k2 := kb - 2) (n2 := nb - 1003) (n_Calendar hs) ciX2_36 dX2_init_60 ⟨Nat.le_of_ble_eq_true rfl, Nat.le_of_ble_eq_true rfl⟩ (Nat.le_of_ble_eq_true rfl) rfl rfl (by omega) (by omega) (fun r h_2 N9 hq => ?_)
      obtain ⟨rfl, hN, p9, f9⟩ := hq
      rw [hN]
      have g1 : h_2 a = some (eO 2 [.ref (cB G + 1), .ref (a + 1), .ref (a + 4), .ref (a + 5), .ref (a + 6)]) := (f9 _ (by omega)).trans ((hup_at eh_1 (by omega)).trans h1)
      have g2 : h_2 (a + 6) = some (eQ G 5 4 (fun i => if i < c then some (a + 7 + 2 * i) else none)) := (f9 _ (by omega)).trans ((hup_at eh_1 (by omega)).trans h2)
      have g0 : ∃ vs : List Value, h_2 (a + 7 + 2 * c) = some (eO 0 vs) := ⟨_, p9.1⟩
      obtain ⟨vs, g0⟩ := g0
      refine wp_aastore dX2_init_63 g2 g0 rfl rfl (by omega) (by omega) (by omega) ?_
      obtain ⟨h_3, eh_3⟩ : ∃ hh9 : AH, hh9 = hup h_2 (a + 6) (eQ G 5 4 (fup (fun i => if i < c then some (a + 7 + 2 * i) else none) c (some (a + 7 + 2 * c)))) := ⟨_, rfl⟩
      refine WP.heq eh_3 ?_
      refine wp_iinc dX2_init_64 rfl (Nat.le_of_ble_eq_true rfl) rfl ?_
      refine wp_goto 46 dX2_init_67 (by decide) ?_
      refine ih (c + 1) h_3 (kb - 2) (nb - 1003) (by omega) (by omega) (by omega) (by omega) ((hup_at eh_3 (by omega)).trans g1) ?_ (fun c9 hc9 => ?_) (fun q hq1 hq2 => ?_)
      · rw [eh_3, hup_self]
        congr 5
        funext i
        unfold fup
        by_cases hi : i = c
        · subst hi
          rw [if_pos rfl, if_pos (by omega)]
        · rw [if_neg hi]
          show (if i < c then some (a + 7 + 2 * i) else none) = (if i < c + 1 then some (a + 7 + 2 * i) else none)
          by_cases hic : i < c
          · rw [if_pos hic, if_pos (by omega)]
          · rw [if_neg hic, if_neg (by omega)]
      · by_cases hcc : c9 = c
        · subst hcc
          exact IsCal.fr2 p9 (fun q h1 h2 => hup_at eh_3 (by omega))
        · exact IsCal.fr2 (h3 c9 (by omega)) (fun q h1 h2 => (hup_at eh_3 (by omega)).trans ((f9 _ (by omega)).trans (hup_at eh_1 (by omega))))
      · exact (hup_at eh_3 hq1).trans ((f9 _ (by omega)).trans ((hup_at eh_1 (by omega)).trans (h4 q hq1 hq2)))
theorem n_Kept (hc : h a = some (eO 2 [.null, .null, .null, .null, .null])) : CT G mX2_init [.ref a, .ref (cB G + 1)] h (a + 1) 14 4114 (fun r h' N' => r = none ∧ N' = a + 15 ∧ KP G h' a (fun _ => 0) (fun _ => 0) (fun _ => 0) (fun _ => 0) (fun _ => 31) (fun _ => 0) (fun _ _ => 0) ∧ FR a (a + 15) h h') := by
  refine CT_of (by decide +kernel) rfl (by simp [Value.category]) (Nat.le_of_ble_eq_true rfl) ?_
  change WP G mX2_init _ noX _ _ h (a + 1) 0 [some (.ref a), some (.ref (cB G + 1)), none] []
  refine wp_aload_n dX2_init_0 rfl ?_
  refine wp_obj dX2_init_1 obX2_3 w_obj (Nat.le_of_ble_eq_true rfl) (Nat.le_of_ble_eq_true rfl) ?_
  refine wp_aload_n dX2_init_4 rfl ?_
  refine wp_new (fs := [.null, .null]) (k2 := 13) (n2 := 4112) ckX7 clX2_9 isX7 inX7 dX2_init_5 dfX7 (by omega) (by omega) ?_
  obtain ⟨h_1, eh_1⟩ : ∃ hh9 : AH, hh9 = hup h (a + 1) (eO 7 [.null, .null]) := ⟨_, rfl⟩
  refine WP.heq eh_1 ?_
  have c1_0 := (hup_at eh_1 (by omega)).trans hc
  have c1_1 : h_1 (a + 1) = some (eO 7 [.null, .null]) := by rw [eh_1]; exact hup_self _ _ _
  change WP G mX2_init _ _ 13 4112 h_1 (a + 2) 8 [some (.ref a), some (.ref (cB G + 1)), none] [.ref (a + 1), .ref a]
  refine wp_dup dX2_init_8 rfl ?_
  refine wp_callIN (k2 := 11) (n2 := 4064) (n_Plan c1_1) ciX2_11 dX2_init_9 ⟨Nat.le_of_ble_eq_true rfl, Nat.le_of_ble_eq_true rfl⟩ (Nat.le_of_ble_eq_true rfl) rfl rfl (by omega) (by omega) (fun r h_2 N9 hq => ?_)
  obtain ⟨rfl, hN_2, p_2, f_2⟩ := hq
  rw [hN_2]
  have c2_0 := (f_2 _ (by omega)).trans c1_0
  change WP G mX2_init _ _ 11 4064 h_2 (a + 4) 12 [some (.ref a), some (.ref (cB G + 1)), none] [.ref (a + 1), .ref a]
  refine wp_putF fkX2_12 dX2_init_12 rfl (fun r hr => by cases hr; rfl) c2_0 rfl rfl (Nat.le_of_ble_eq_true rfl) ?_
  obtain ⟨h_3, eh_3⟩ : ∃ hh9 : AH, hh9 = hup h_2 a (eO 2 [.null, .ref (a + 1), .null, .null, .null]) := ⟨_, rfl⟩
  refine WP.heq eh_3 ?_
  have c3_0 : h_3 a = some (eO 2 [.null, .ref (a + 1), .null, .null, .null]) := by rw [eh_3]; exact hup_self _ _ _
  have c3_1 := (hup_at eh_3 (by omega)).trans p_2.1
  have c3_2 := (hup_at eh_3 (by omega)).trans p_2.2.1
  have c3_3 := (hup_at eh_3 (by omega)).trans p_2.2.2
  refine wp_aload_n dX2_init_15 rfl ?_
  refine wp_bipush dX2_init_16 rfl ?_
  refine wp_newZ (m := 24) (k2 := 10) (n2 := 4040) dX2_init_18 ar_boolean rfl (by decide) (by omega) (by omega) ?_
  obtain ⟨h_4, eh_4⟩ : ∃ hh9 : AH, hh9 = hup h_3 (a + 4) (eZ G 24 (fun _ => 0)) := ⟨_, rfl⟩
  refine WP.heq eh_4 ?_
  have c4_0 := (hup_at eh_4 (by omega)).trans c3_0
  have c4_1 := (hup_at eh_4 (by omega)).trans c3_1
  have c4_2 := (hup_at eh_4 (by omega)).trans c3_2
  have c4_3 := (hup_at eh_4 (by omega)).trans c3_3
  have c4_4 : h_4 (a + 4) = some (eZ G 24 (fun _ => 0)) := by rw [eh_4]; exact hup_self _ _ _
  change WP G mX2_init _ _ 10 4040 h_4 (a + 5) 20 [some (.ref a), some (.ref (cB G + 1)), none] [.ref (a + 4), .ref a]
  refine wp_putF fkX2_18 dX2_init_20 rfl (fun r hr => by cases hr; rfl) c4_0 rfl rfl (Nat.le_of_ble_eq_true rfl) ?_
  obtain ⟨h_5, eh_5⟩ : ∃ hh9 : AH, hh9 = hup h_4 a (eO 2 [.null, .ref (a + 1), .ref (a + 4), .null, .null]) := ⟨_, rfl⟩
  refine WP.heq eh_5 ?_
  have c5_0 : h_5 a = some (eO 2 [.null, .ref (a + 1), .ref (a + 4), .null, .null]) := by rw [eh_5]; exact hup_self _ _ _
  have c5_1 := (hup_at eh_5 (by omega)).trans c4_1
  have c5_2 := (hup_at eh_5 (by omega)).trans c4_2
  have c5_3 := (hup_at eh_5 (by omega)).trans c4_3
  have c5_4 := (hup_at eh_5 (by omega)).trans c4_4
  refine wp_aload_n dX2_init_23 rfl ?_
  refine wp_bipush dX2_init_24 rfl ?_
  refine wp_newI (m := 24) (k2 := 9) (n2 := 4016) dX2_init_26 ar_int rfl (by decide) (by omega) (by omega) ?_
  obtain ⟨h_6, eh_6⟩ : ∃ hh9 : AH, hh9 = hup h_5 (a + 5) (eI G 24 (fun _ => 0)) := ⟨_, rfl⟩
  refine WP.heq eh_6 ?_
  have c6_0 := (hup_at eh_6 (by omega)).trans c5_0
  have c6_1 := (hup_at eh_6 (by omega)).trans c5_1
  have c6_2 := (hup_at eh_6 (by omega)).trans c5_2
  have c6_3 := (hup_at eh_6 (by omega)).trans c5_3
  have c6_4 := (hup_at eh_6 (by omega)).trans c5_4
  have c6_5 : h_6 (a + 5) = some (eI G 24 (fun _ => 0)) := by rw [eh_6]; exact hup_self _ _ _
  change WP G mX2_init _ _ 9 4016 h_6 (a + 6) 28 [some (.ref a), some (.ref (cB G + 1)), none] [.ref (a + 5), .ref a]
  refine wp_putF fkX2_22 dX2_init_28 rfl (fun r hr => by cases hr; rfl) c6_0 rfl rfl (Nat.le_of_ble_eq_true rfl) ?_
  obtain ⟨h_7, eh_7⟩ : ∃ hh9 : AH, hh9 = hup h_6 a (eO 2 [.null, .ref (a + 1), .ref (a + 4), .ref (a + 5), .null]) := ⟨_, rfl⟩
  refine WP.heq eh_7 ?_
  have c7_0 : h_7 a = some (eO 2 [.null, .ref (a + 1), .ref (a + 4), .ref (a + 5), .null]) := by rw [eh_7]; exact hup_self _ _ _
  have c7_1 := (hup_at eh_7 (by omega)).trans c6_1
  have c7_2 := (hup_at eh_7 (by omega)).trans c6_2
  have c7_3 := (hup_at eh_7 (by omega)).trans c6_3
  have c7_4 := (hup_at eh_7 (by omega)).trans c6_4
  have c7_5 := (hup_at eh_7 (by omega)).trans c6_5
  refine wp_aload_n dX2_init_31 rfl ?_
  refine wp_iconst dX2_init_32 ?_
  refine wp_newQ (C := RX0) (t := 5) (m := 4) (k2 := 8) (n2 := 4012) dX2_init_33 clX2_26 (by simp) rfl rfl (by decide) (by omega) (by omega) ?_
  obtain ⟨h_8, eh_8⟩ : ∃ hh9 : AH, hh9 = hup h_7 (a + 6) (eQ G 5 4 (fun _ => none)) := ⟨_, rfl⟩
  refine WP.heq eh_8 ?_
  have c8_0 := (hup_at eh_8 (by omega)).trans c7_0
  have c8_1 := (hup_at eh_8 (by omega)).trans c7_1
  have c8_2 := (hup_at eh_8 (by omega)).trans c7_2
  have c8_3 := (hup_at eh_8 (by omega)).trans c7_3
  have c8_4 := (hup_at eh_8 (by omega)).trans c7_4
  have c8_5 := (hup_at eh_8 (by omega)).trans c7_5
  have c8_6 : h_8 (a + 6) = some (eQ G 5 4 (fun _ => none)) := by rw [eh_8]; exact hup_self _ _ _
  change WP G mX2_init _ _ 8 4012 h_8 (a + 7) 36 [some (.ref a), some (.ref (cB G + 1)), none] [.ref (a + 6), .ref a]
  refine wp_putF fkX2_28 dX2_init_36 rfl (fun r hr => by cases hr; rfl) c8_0 rfl rfl (Nat.le_of_ble_eq_true rfl) ?_
  obtain ⟨h_9, eh_9⟩ : ∃ hh9 : AH, hh9 = hup h_8 a (eO 2 [.null, .ref (a + 1), .ref (a + 4), .ref (a + 5), .ref (a + 6)]) := ⟨_, rfl⟩
  refine WP.heq eh_9 ?_
  have c9_0 : h_9 a = some (eO 2 [.null, .ref (a + 1), .ref (a + 4), .ref (a + 5), .ref (a + 6)]) := by rw [eh_9]; exact hup_self _ _ _
  have c9_1 := (hup_at eh_9 (by omega)).trans c8_1
  have c9_2 := (hup_at eh_9 (by omega)).trans c8_2
  have c9_3 := (hup_at eh_9 (by omega)).trans c8_3
  have c9_4 := (hup_at eh_9 (by omega)).trans c8_4
  have c9_5 := (hup_at eh_9 (by omega)).trans c8_5
  have c9_6 := (hup_at eh_9 (by omega)).trans c8_6
  refine wp_aload_n dX2_init_39 rfl ?_
  refine wp_aload_n dX2_init_40 rfl ?_
  refine wp_putF fkX2_32 dX2_init_41 rfl (fun r hr => by cases hr; rfl) c9_0 rfl rfl (Nat.le_of_ble_eq_true rfl) ?_
  obtain ⟨h_10, eh_10⟩ : ∃ hh9 : AH, hh9 = hup h_9 a (eO 2 [.ref (cB G + 1), .ref (a + 1), .ref (a + 4), .ref (a + 5), .ref (a + 6)]) := ⟨_, rfl⟩
  refine WP.heq eh_10 ?_
  have c10_0 : h_10 a = some (eO 2 [.ref (cB G + 1), .ref (a + 1), .ref (a + 4), .ref (a + 5), .ref (a + 6)]) := by rw [eh_10]; exact hup_self _ _ _
  have c10_1 := (hup_at eh_10 (by omega)).trans c9_1
  have c10_2 := (hup_at eh_10 (by omega)).trans c9_2
  have c10_3 := (hup_at eh_10 (by omega)).trans c9_3
  have c10_4 := (hup_at eh_10 (by omega)).trans c9_4
  have c10_5 := (hup_at eh_10 (by omega)).trans c9_5
  have c10_6 := (hup_at eh_10 (by omega)).trans c9_6
  refine wp_iconst dX2_init_44 ?_
  refine wp_istore_n dX2_init_45 (Nat.le_of_ble_eq_true rfl) rfl ?_
  change WP G mX2_init _ _ _ _ h_10 (a + 7) 46 [some (.ref a), some (.ref (cB G + 1)), some (JV 0)] []
  have fr9 : FR a (a + 15) h h_10 := ((((((((((FR.rf.up eh_1 ⟨by omega, by omega⟩).tr (f_2.mono (by omega) (by omega))).up eh_3 ⟨by omega, by omega⟩).up eh_4 ⟨by omega, by omega⟩).up eh_5 ⟨by omega, by omega⟩).up eh_6 ⟨by omega, by omega⟩).up eh_7 ⟨by omega, by omega⟩).up eh_8 ⟨by omega, by omega⟩).up eh_9 ⟨by omega, by omega⟩).up eh_10 ⟨by omega, by omega⟩)
  refine l_keptCals (kr := 0) (nr := 0) (h0 := h_10) (fun h' z1 z2 z3 z4 => ?_) 4 0 h_10 8 4012 rfl (by omega) (by omega) (by omega) c10_0 ?_ (fun c9 h9 => absurd h9 (by omega)) (fun q _ _ => rfl)
  · refine wp_vret dX2_init_70 rfl ⟨rfl, by omega, ⟨z1, ⟨(z4 _ (by omega) (by omega)).trans c10_1, (z4 _ (by omega) (by omega)).trans c10_2, (z4 _ (by omega) (by omega)).trans c10_3⟩, (z4 _ (by omega) (by omega)).trans c10_4, (z4 _ (by omega) (by omega)).trans c10_5, z2, z3⟩, fun q hq => ?_⟩
    by_cases hq6 : q = a + 6
    · omega
    · exact (z4 q hq6 (by omega)).trans (fr9 q (by omega))
  · rw [c10_6]
    congr 5

theorem l_pCals {Q : PQ} {X : PX} {kr nr : Nat} {h0 : AH} (kk : ∀ h', h' a = some (eO 8 [.ref (a + 1), .ref (a + 2), .ref (a + 3), .ref (a + 4), JV 0, JV 0, JV 0, .ref (a + 5), .ref (a + 6)]) → h' (a + 1) = some (eQ G 5 4 (fun i => if i < 4 then some (a + 7 + 2 * i) else none)) → (∀ c9, c9 < 4 → IsCal G h' (a + 7 + 2 * c9) 31 0 (fun _ => 0)) → (∀ q, q ≠ a + 1 → (q < a + 7 ∨ a + 7 + 2 * 4 ≤ q) → h' q = h0 q) → WP G mX8_init Q X kr nr h' (a + 7 + 2 * 4) 80 [some (.ref a), some (JV ((4 : Nat) : Int))] []) : ∀ (m c : Nat) (h : AH) (kb nb : Nat), 4 - c = m → c ≤ 4 → 2 * (4 - c) + kr ≤ kb → 1003 * (4 - c) + nr ≤ nb → h a = some (eO 8 [.ref (a + 1), .ref (a + 2), .ref (a + 3), .ref (a + 4), JV 0, JV 0, JV 0, .ref (a + 5), .ref (a + 6)]) → h (a + 1) = some (eQ G 5 4 (fun i => if i < c then some (a + 7 + 2 * i) else none)) → (∀ c9, c9 < c → IsCal G h (a + 7 + 2 * c9) 31 0 (fun _ => 0)) → (∀ q, q ≠ a + 1 → (q < a + 7 ∨ a + 7 + 2 * 4 ≤ q) → h q = h0 q) → WP G mX8_init Q X kb nb h (a + 7 + 2 * c) 56 [some (.ref a), some (JV (c : Int))] [] := by
  intro m
  induction m with
  | zero =>
    intro c h kb nb hm hc hk hn h1 h2 h3 h4
    have hcc : c = 4 := by omega
    subst hcc
    have w9 := kk h h1 h2 h3 h4
    exact (show WP G mX8_init Q X kb nb h (a + 7 + 2 * 4) 56 [some (.ref a), some (JV ((4 : Nat) : Int))] [] from by
      refine WP.bud (k1 := kr) (n1 := nr) (by omega) (by omega) ?_
      refine wp_iload_n dX8_init_56 rfl ?_
      refine wp_iconst dX8_init_57 ?_
      refine wp_icmp_ge 80 dX8_init_58 (by decide) ⟨by omega, by omega⟩ ⟨by omega, by omega⟩ (fun c_58 => ?_) (fun c_58 => ?_)
      · exact w9
      · exact absurd c_58 (by omega))
  | succ m ih =>
    intro c h kb nb hm hc hk hn h1 h2 h3 h4
    refine wp_iload_n dX8_init_56 rfl ?_
    refine wp_iconst dX8_init_57 ?_
    refine wp_icmp_ge 80 dX8_init_58 (by decide) ⟨by omega, by omega⟩ ⟨by omega, by omega⟩ (fun c_58 => ?_) (fun c_58 => ?_)
    · exact absurd c_58 (by omega)
    · refine wp_aload_n dX8_init_61 rfl ?_
      refine wp_get fkX8_11 dX8_init_62 h1 rfl ?_
      refine wp_iload_n dX8_init_65 rfl ?_
      refine wp_new (fs := [JV 0, JV 0, .null]) (k2 := kb - 1) (n2 := nb - 3) ckX0 clX8_9 isX0 inX0 dX8_init_66 dfX0 (by omega) (by omega) ?_
      obtain ⟨h_1, eh_1⟩ : ∃ hh9 : AH, hh9 = hup h (a + 7 + 2 * c) (eO 0 [JV 0, JV 0, .null]) := ⟨_, rfl⟩
      refine WP.heq eh_1 ?_
      refine wp_dup dX8_init_69 rfl ?_
      have hs : h_1 (a + 7 + 2 * c) = some (eO 0 [JV 0, JV 0, .null]) := by rw [eh_1]; exact hup_self _ _ _
      refine wp_callIN (k2 := kb - 2) (n2 := nb - 1003) (n_Calendar hs) ciX8_43 dX8_init_70 ⟨Nat.le_of_ble_eq_true rfl, Nat.le_of_ble_eq_true rfl⟩ (Nat.le_of_ble_eq_true rfl) rfl rfl (by omega) (by omega) (fun r h_2 N9 hq => ?_)
      obtain ⟨rfl, hN, p9, f9⟩ := hq
      rw [hN]
      have g1 : h_2 a = some (eO 8 [.ref (a + 1), .ref (a + 2), .ref (a + 3), .ref (a + 4), JV 0, JV 0, JV 0, .ref (a + 5), .ref (a + 6)]) := (f9 _ (by omega)).trans ((hup_at eh_1 (by omega)).trans h1)
      have g2 : h_2 (a + 1) = some (eQ G 5 4 (fun i => if i < c then some (a + 7 + 2 * i) else none)) := (f9 _ (by omega)).trans ((hup_at eh_1 (by omega)).trans h2)
      have g0 : ∃ vs : List Value, h_2 (a + 7 + 2 * c) = some (eO 0 vs) := ⟨_, p9.1⟩
      obtain ⟨vs, g0⟩ := g0
      refine wp_aastore dX8_init_73 g2 g0 rfl rfl (by omega) (by omega) (by omega) ?_
      obtain ⟨h_3, eh_3⟩ : ∃ hh9 : AH, hh9 = hup h_2 (a + 1) (eQ G 5 4 (fup (fun i => if i < c then some (a + 7 + 2 * i) else none) c (some (a + 7 + 2 * c)))) := ⟨_, rfl⟩
      refine WP.heq eh_3 ?_
      refine wp_iinc dX8_init_74 rfl (Nat.le_of_ble_eq_true rfl) rfl ?_
      refine wp_goto 56 dX8_init_77 (by decide) ?_
      refine ih (c + 1) h_3 (kb - 2) (nb - 1003) (by omega) (by omega) (by omega) (by omega) ((hup_at eh_3 (by omega)).trans g1) ?_ (fun c9 hc9 => ?_) (fun q hq1 hq2 => ?_)
      · rw [eh_3, hup_self]
        congr 5
        funext i
        unfold fup
        by_cases hi : i = c
        · subst hi
          rw [if_pos rfl, if_pos (by omega)]
        · rw [if_neg hi]
          show (if i < c then some (a + 7 + 2 * i) else none) = (if i < c + 1 then some (a + 7 + 2 * i) else none)
          by_cases hic : i < c
          · rw [if_pos hic, if_pos (by omega)]
          · rw [if_neg hic, if_neg (by omega)]
      · by_cases hcc : c9 = c
        · subst hcc
          exact IsCal.fr2 p9 (fun q h1 h2 => hup_at eh_3 (by omega))
        · exact IsCal.fr2 (h3 c9 (by omega)) (fun q h1 h2 => (hup_at eh_3 (by omega)).trans ((f9 _ (by omega)).trans (hup_at eh_1 (by omega))))
      · exact (hup_at eh_3 hq1).trans ((f9 _ (by omega)).trans ((hup_at eh_1 (by omega)).trans (h4 q hq1 hq2)))
theorem l_pCrews {Q : PQ} {X : PX} {kr nr : Nat} {h0 : AH} (kk : ∀ h', h' a = some (eO 8 [.ref (a + 1), .ref (a + 2), .ref (a + 3), .ref (a + 4), JV 0, JV 0, JV 0, .ref (a + 5), .ref (a + 6)]) → h' (a + 2) = some (eQ G 6 4 (fun i => if i < 4 then some (a + 15 + i) else none)) → (∀ c9, c9 < 4 → h' (a + 15 + c9) = some (eO 1 [JV 9, JV 0])) → (∀ q, q ≠ a + 2 → (q < a + 15 ∨ a + 15 + 4 ≤ q) → h' q = h0 q) → WP G mX8_init Q X kr nr h' (a + 15 + 4) 106 [some (.ref a), some (JV ((4 : Nat) : Int))] []) : ∀ (m c : Nat) (h : AH) (kb nb : Nat), 4 - c = m → c ≤ 4 → 1 * (4 - c) + kr ≤ kb → 2 * (4 - c) + nr ≤ nb → h a = some (eO 8 [.ref (a + 1), .ref (a + 2), .ref (a + 3), .ref (a + 4), JV 0, JV 0, JV 0, .ref (a + 5), .ref (a + 6)]) → h (a + 2) = some (eQ G 6 4 (fun i => if i < c then some (a + 15 + i) else none)) → (∀ c9, c9 < c → h (a + 15 + c9) = some (eO 1 [JV 9, JV 0])) → (∀ q, q ≠ a + 2 → (q < a + 15 ∨ a + 15 + 4 ≤ q) → h q = h0 q) → WP G mX8_init Q X kb nb h (a + 15 + c) 82 [some (.ref a), some (JV (c : Int))] [] := by
  intro m
  induction m with
  | zero =>
    intro c h kb nb hm hc hk hn h1 h2 h3 h4
    have hcc : c = 4 := by omega
    subst hcc
    have w9 := kk h h1 h2 h3 h4
    exact (show WP G mX8_init Q X kb nb h (a + 15 + 4) 82 [some (.ref a), some (JV ((4 : Nat) : Int))] [] from by
      refine WP.bud (k1 := kr) (n1 := nr) (by omega) (by omega) ?_
      refine wp_iload_n dX8_init_82 rfl ?_
      refine wp_iconst dX8_init_83 ?_
      refine wp_icmp_ge 106 dX8_init_84 (by decide) ⟨by omega, by omega⟩ ⟨by omega, by omega⟩ (fun c_84 => ?_) (fun c_84 => ?_)
      · exact w9
      · exact absurd c_84 (by omega))
  | succ m ih =>
    intro c h kb nb hm hc hk hn h1 h2 h3 h4
    refine wp_iload_n dX8_init_82 rfl ?_
    refine wp_iconst dX8_init_83 ?_
    refine wp_icmp_ge 106 dX8_init_84 (by decide) ⟨by omega, by omega⟩ ⟨by omega, by omega⟩ (fun c_84 => ?_) (fun c_84 => ?_)
    · exact absurd c_84 (by omega)
    · refine wp_aload_n dX8_init_87 rfl ?_
      refine wp_get fkX8_19 dX8_init_88 h1 rfl ?_
      refine wp_iload_n dX8_init_91 rfl ?_
      refine wp_new (fs := [JV 0, JV 0]) (k2 := kb - 1) (n2 := nb - 2) ckX1 clX8_17 isX1 inX1 dX8_init_92 dfX1 (by omega) (by omega) ?_
      obtain ⟨h_1, eh_1⟩ : ∃ hh9 : AH, hh9 = hup h (a + 15 + c) (eO 1 [JV 0, JV 0]) := ⟨_, rfl⟩
      refine WP.heq eh_1 ?_
      refine wp_dup dX8_init_95 rfl ?_
      have hs : h_1 (a + 15 + c) = some (eO 1 [JV 0, JV 0]) := by rw [eh_1]; exact hup_self _ _ _
      refine wp_callIN (k2 := kb - 1) (n2 := nb - 2) (n_Crew hs) ciX8_44 dX8_init_96 ⟨Nat.le_of_ble_eq_true rfl, Nat.le_of_ble_eq_true rfl⟩ (Nat.le_of_ble_eq_true rfl) rfl rfl (by omega) (by omega) (fun r h_2 N9 hq => ?_)
      obtain ⟨rfl, hN, p9, f9⟩ := hq
      rw [hN]
      have g1 : h_2 a = some (eO 8 [.ref (a + 1), .ref (a + 2), .ref (a + 3), .ref (a + 4), JV 0, JV 0, JV 0, .ref (a + 5), .ref (a + 6)]) := (f9 _ (by omega)).trans ((hup_at eh_1 (by omega)).trans h1)
      have g2 : h_2 (a + 2) = some (eQ G 6 4 (fun i => if i < c then some (a + 15 + i) else none)) := (f9 _ (by omega)).trans ((hup_at eh_1 (by omega)).trans h2)
      have g0 : ∃ vs : List Value, h_2 (a + 15 + c) = some (eO 1 vs) := ⟨_, p9⟩
      obtain ⟨vs, g0⟩ := g0
      refine wp_aastore dX8_init_99 g2 g0 rfl rfl (by omega) (by omega) (by omega) ?_
      obtain ⟨h_3, eh_3⟩ : ∃ hh9 : AH, hh9 = hup h_2 (a + 2) (eQ G 6 4 (fup (fun i => if i < c then some (a + 15 + i) else none) c (some (a + 15 + c)))) := ⟨_, rfl⟩
      refine WP.heq eh_3 ?_
      refine wp_iinc dX8_init_100 rfl (Nat.le_of_ble_eq_true rfl) rfl ?_
      refine wp_goto 82 dX8_init_103 (by decide) ?_
      refine ih (c + 1) h_3 (kb - 1) (nb - 2) (by omega) (by omega) (by omega) (by omega) ((hup_at eh_3 (by omega)).trans g1) ?_ (fun c9 hc9 => ?_) (fun q hq1 hq2 => ?_)
      · rw [eh_3, hup_self]
        congr 5
        funext i
        unfold fup
        by_cases hi : i = c
        · subst hi
          rw [if_pos rfl, if_pos (by omega)]
        · rw [if_neg hi]
          show (if i < c then some (a + 15 + i) else none) = (if i < c + 1 then some (a + 15 + i) else none)
          by_cases hic : i < c
          · rw [if_pos hic, if_pos (by omega)]
          · rw [if_neg hic, if_neg (by omega)]
      · by_cases hcc : c9 = c
        · subst hcc
          exact one_fr p9 (fun q h1 h2 => hup_at eh_3 (by omega))
        · exact one_fr (h3 c9 (by omega)) (fun q h1 h2 => (hup_at eh_3 (by omega)).trans ((f9 _ (by omega)).trans (hup_at eh_1 (by omega))))
      · exact (hup_at eh_3 hq1).trans ((f9 _ (by omega)).trans ((hup_at eh_1 (by omega)).trans (h4 q hq1 hq2)))
theorem l_pTasks {Q : PQ} {X : PX} {kr nr : Nat} {h0 : AH} (kk : ∀ h', h' a = some (eO 8 [.ref (a + 1), .ref (a + 2), .ref (a + 3), .ref (a + 4), JV 0, JV 0, JV 0, .ref (a + 5), .ref (a + 6)]) → h' (a + 3) = some (eQ G 7 24 (fun i => if i < 24 then some (a + 19 + 2 * i) else none)) → (∀ c9, c9 < 24 → (h' (a + 19 + 2 * c9) = some (eO 9 [JV 0, JV 0, JV 0, JV 0, JV 0, JV 0, JV 0, .ref (a + 19 + 2 * c9 + 1)]) ∧ h' (a + 19 + 2 * c9 + 1) = some (eI G 4 (fun _ => 0)))) → (∀ q, q ≠ a + 3 → (q < a + 19 ∨ a + 19 + 2 * 24 ≤ q) → h' q = h0 q) → WP G mX8_init Q X kr nr h' (a + 19 + 2 * 24) 133 [some (.ref a), some (JV ((24 : Nat) : Int))] []) : ∀ (m c : Nat) (h : AH) (kb nb : Nat), 24 - c = m → c ≤ 24 → 2 * (24 - c) + kr ≤ kb → 12 * (24 - c) + nr ≤ nb → h a = some (eO 8 [.ref (a + 1), .ref (a + 2), .ref (a + 3), .ref (a + 4), JV 0, JV 0, JV 0, .ref (a + 5), .ref (a + 6)]) → h (a + 3) = some (eQ G 7 24 (fun i => if i < c then some (a + 19 + 2 * i) else none)) → (∀ c9, c9 < c → (h (a + 19 + 2 * c9) = some (eO 9 [JV 0, JV 0, JV 0, JV 0, JV 0, JV 0, JV 0, .ref (a + 19 + 2 * c9 + 1)]) ∧ h (a + 19 + 2 * c9 + 1) = some (eI G 4 (fun _ => 0)))) → (∀ q, q ≠ a + 3 → (q < a + 19 ∨ a + 19 + 2 * 24 ≤ q) → h q = h0 q) → WP G mX8_init Q X kb nb h (a + 19 + 2 * c) 108 [some (.ref a), some (JV (c : Int))] [] := by
  intro m
  induction m with
  | zero =>
    intro c h kb nb hm hc hk hn h1 h2 h3 h4
    have hcc : c = 24 := by omega
    subst hcc
    have w9 := kk h h1 h2 h3 h4
    exact (show WP G mX8_init Q X kb nb h (a + 19 + 2 * 24) 108 [some (.ref a), some (JV ((24 : Nat) : Int))] [] from by
      refine WP.bud (k1 := kr) (n1 := nr) (by omega) (by omega) ?_
      refine wp_iload_n dX8_init_108 rfl ?_
      refine wp_bipush dX8_init_109 rfl ?_
      refine wp_icmp_ge 133 dX8_init_111 (by decide) ⟨by omega, by omega⟩ ⟨by omega, by omega⟩ (fun c_111 => ?_) (fun c_111 => ?_)
      · exact w9
      · exact absurd c_111 (by omega))
  | succ m ih =>
    intro c h kb nb hm hc hk hn h1 h2 h3 h4
    refine wp_iload_n dX8_init_108 rfl ?_
    refine wp_bipush dX8_init_109 rfl ?_
    refine wp_icmp_ge 133 dX8_init_111 (by decide) ⟨by omega, by omega⟩ ⟨by omega, by omega⟩ (fun c_111 => ?_) (fun c_111 => ?_)
    · exact absurd c_111 (by omega)
    · refine wp_aload_n dX8_init_114 rfl ?_
      refine wp_get fkX8_25 dX8_init_115 h1 rfl ?_
      refine wp_iload_n dX8_init_118 rfl ?_
      refine wp_new (fs := [JV 0, JV 0, JV 0, JV 0, JV 0, JV 0, JV 0, .null]) (k2 := kb - 1) (n2 := nb - 8) ckX9 clX8_23 isX9 inX9 dX8_init_119 dfX9 (by omega) (by omega) ?_
      obtain ⟨h_1, eh_1⟩ : ∃ hh9 : AH, hh9 = hup h (a + 19 + 2 * c) (eO 9 [JV 0, JV 0, JV 0, JV 0, JV 0, JV 0, JV 0, .null]) := ⟨_, rfl⟩
      refine WP.heq eh_1 ?_
      refine wp_dup dX8_init_122 rfl ?_
      have hs : h_1 (a + 19 + 2 * c) = some (eO 9 [JV 0, JV 0, JV 0, JV 0, JV 0, JV 0, JV 0, .null]) := by rw [eh_1]; exact hup_self _ _ _
      refine wp_callIN (k2 := kb - 2) (n2 := nb - 12) (n_Task hs) ciX8_45 dX8_init_123 ⟨Nat.le_of_ble_eq_true rfl, Nat.le_of_ble_eq_true rfl⟩ (Nat.le_of_ble_eq_true rfl) rfl rfl (by omega) (by omega) (fun r h_2 N9 hq => ?_)
      obtain ⟨rfl, hN, p9, f9⟩ := hq
      rw [hN]
      have g1 : h_2 a = some (eO 8 [.ref (a + 1), .ref (a + 2), .ref (a + 3), .ref (a + 4), JV 0, JV 0, JV 0, .ref (a + 5), .ref (a + 6)]) := (f9 _ (by omega)).trans ((hup_at eh_1 (by omega)).trans h1)
      have g2 : h_2 (a + 3) = some (eQ G 7 24 (fun i => if i < c then some (a + 19 + 2 * i) else none)) := (f9 _ (by omega)).trans ((hup_at eh_1 (by omega)).trans h2)
      have g0 : ∃ vs : List Value, h_2 (a + 19 + 2 * c) = some (eO 9 vs) := ⟨_, p9.1⟩
      obtain ⟨vs, g0⟩ := g0
      refine wp_aastore dX8_init_126 g2 g0 rfl rfl (by omega) (by omega) (by omega) ?_
      obtain ⟨h_3, eh_3⟩ : ∃ hh9 : AH, hh9 = hup h_2 (a + 3) (eQ G 7 24 (fup (fun i => if i < c then some (a + 19 + 2 * i) else none) c (some (a + 19 + 2 * c)))) := ⟨_, rfl⟩
      refine WP.heq eh_3 ?_
      refine wp_iinc dX8_init_127 rfl (Nat.le_of_ble_eq_true rfl) rfl ?_
      refine wp_goto 108 dX8_init_130 (by decide) ?_
      refine ih (c + 1) h_3 (kb - 2) (nb - 12) (by omega) (by omega) (by omega) (by omega) ((hup_at eh_3 (by omega)).trans g1) ?_ (fun c9 hc9 => ?_) (fun q hq1 hq2 => ?_)
      · rw [eh_3, hup_self]
        congr 5
        funext i
        unfold fup
        by_cases hi : i = c
        · subst hi
          rw [if_pos rfl, if_pos (by omega)]
        · rw [if_neg hi]
          show (if i < c then some (a + 19 + 2 * i) else none) = (if i < c + 1 then some (a + 19 + 2 * i) else none)
          by_cases hic : i < c
          · rw [if_pos hic, if_pos (by omega)]
          · rw [if_neg hic, if_neg (by omega)]
      · by_cases hcc : c9 = c
        · subst hcc
          exact two_fr p9 (fun q h1 h2 => hup_at eh_3 (by omega))
        · exact two_fr (h3 c9 (by omega)) (fun q h1 h2 => (hup_at eh_3 (by omega)).trans ((f9 _ (by omega)).trans (hup_at eh_1 (by omega))))
      · exact (hup_at eh_3 hq1).trans ((f9 _ (by omega)).trans ((hup_at eh_1 (by omega)).trans (h4 q hq1 hq2)))
theorem l_pLinks {Q : PQ} {X : PX} {kr nr : Nat} {h0 : AH} (kk : ∀ h', h' a = some (eO 8 [.ref (a + 1), .ref (a + 2), .ref (a + 3), .ref (a + 4), JV 0, JV 0, JV 0, .ref (a + 5), .ref (a + 6)]) → h' (a + 4) = some (eQ G 8 40 (fun i => if i < 40 then some (a + 67 + i) else none)) → (∀ c9, c9 < 40 → h' (a + 67 + c9) = some (eO 4 [JV 0, JV 0, JV 0, JV 0])) → (∀ q, q ≠ a + 4 → (q < a + 67 ∨ a + 67 + 40 ≤ q) → h' q = h0 q) → WP G mX8_init Q X kr nr h' (a + 67 + 40) 160 [some (.ref a), some (JV ((40 : Nat) : Int))] []) : ∀ (m c : Nat) (h : AH) (kb nb : Nat), 40 - c = m → c ≤ 40 → 1 * (40 - c) + kr ≤ kb → 4 * (40 - c) + nr ≤ nb → h a = some (eO 8 [.ref (a + 1), .ref (a + 2), .ref (a + 3), .ref (a + 4), JV 0, JV 0, JV 0, .ref (a + 5), .ref (a + 6)]) → h (a + 4) = some (eQ G 8 40 (fun i => if i < c then some (a + 67 + i) else none)) → (∀ c9, c9 < c → h (a + 67 + c9) = some (eO 4 [JV 0, JV 0, JV 0, JV 0])) → (∀ q, q ≠ a + 4 → (q < a + 67 ∨ a + 67 + 40 ≤ q) → h q = h0 q) → WP G mX8_init Q X kb nb h (a + 67 + c) 135 [some (.ref a), some (JV (c : Int))] [] := by
  intro m
  induction m with
  | zero =>
    intro c h kb nb hm hc hk hn h1 h2 h3 h4
    have hcc : c = 40 := by omega
    subst hcc
    have w9 := kk h h1 h2 h3 h4
    exact (show WP G mX8_init Q X kb nb h (a + 67 + 40) 135 [some (.ref a), some (JV ((40 : Nat) : Int))] [] from by
      refine WP.bud (k1 := kr) (n1 := nr) (by omega) (by omega) ?_
      refine wp_iload_n dX8_init_135 rfl ?_
      refine wp_bipush dX8_init_136 rfl ?_
      refine wp_icmp_ge 160 dX8_init_138 (by decide) ⟨by omega, by omega⟩ ⟨by omega, by omega⟩ (fun c_138 => ?_) (fun c_138 => ?_)
      · exact w9
      · exact absurd c_138 (by omega))
  | succ m ih =>
    intro c h kb nb hm hc hk hn h1 h2 h3 h4
    refine wp_iload_n dX8_init_135 rfl ?_
    refine wp_bipush dX8_init_136 rfl ?_
    refine wp_icmp_ge 160 dX8_init_138 (by decide) ⟨by omega, by omega⟩ ⟨by omega, by omega⟩ (fun c_138 => ?_) (fun c_138 => ?_)
    · exact absurd c_138 (by omega)
    · refine wp_aload_n dX8_init_141 rfl ?_
      refine wp_get fkX8_31 dX8_init_142 h1 rfl ?_
      refine wp_iload_n dX8_init_145 rfl ?_
      refine wp_new (fs := [JV 0, JV 0, JV 0, JV 0]) (k2 := kb - 1) (n2 := nb - 4) ckX4 clX8_29 isX4 inX4 dX8_init_146 dfX4 (by omega) (by omega) ?_
      obtain ⟨h_1, eh_1⟩ : ∃ hh9 : AH, hh9 = hup h (a + 67 + c) (eO 4 [JV 0, JV 0, JV 0, JV 0]) := ⟨_, rfl⟩
      refine WP.heq eh_1 ?_
      refine wp_dup dX8_init_149 rfl ?_
      have hs : h_1 (a + 67 + c) = some (eO 4 [JV 0, JV 0, JV 0, JV 0]) := by rw [eh_1]; exact hup_self _ _ _
      refine wp_callIN (k2 := kb - 1) (n2 := nb - 4) (n_Link hs) ciX8_46 dX8_init_150 ⟨Nat.le_of_ble_eq_true rfl, Nat.le_of_ble_eq_true rfl⟩ (Nat.le_of_ble_eq_true rfl) rfl rfl (by omega) (by omega) (fun r h_2 N9 hq => ?_)
      obtain ⟨rfl, hN, p9, f9⟩ := hq
      rw [hN]
      have g1 : h_2 a = some (eO 8 [.ref (a + 1), .ref (a + 2), .ref (a + 3), .ref (a + 4), JV 0, JV 0, JV 0, .ref (a + 5), .ref (a + 6)]) := (f9 _ (by omega)).trans ((hup_at eh_1 (by omega)).trans h1)
      have g2 : h_2 (a + 4) = some (eQ G 8 40 (fun i => if i < c then some (a + 67 + i) else none)) := (f9 _ (by omega)).trans ((hup_at eh_1 (by omega)).trans h2)
      have g0 : ∃ vs : List Value, h_2 (a + 67 + c) = some (eO 4 vs) := ⟨_, p9⟩
      obtain ⟨vs, g0⟩ := g0
      refine wp_aastore dX8_init_153 g2 g0 rfl rfl (by omega) (by omega) (by omega) ?_
      obtain ⟨h_3, eh_3⟩ : ∃ hh9 : AH, hh9 = hup h_2 (a + 4) (eQ G 8 40 (fup (fun i => if i < c then some (a + 67 + i) else none) c (some (a + 67 + c)))) := ⟨_, rfl⟩
      refine WP.heq eh_3 ?_
      refine wp_iinc dX8_init_154 rfl (Nat.le_of_ble_eq_true rfl) rfl ?_
      refine wp_goto 135 dX8_init_157 (by decide) ?_
      refine ih (c + 1) h_3 (kb - 1) (nb - 4) (by omega) (by omega) (by omega) (by omega) ((hup_at eh_3 (by omega)).trans g1) ?_ (fun c9 hc9 => ?_) (fun q hq1 hq2 => ?_)
      · rw [eh_3, hup_self]
        congr 5
        funext i
        unfold fup
        by_cases hi : i = c
        · subst hi
          rw [if_pos rfl, if_pos (by omega)]
        · rw [if_neg hi]
          show (if i < c then some (a + 67 + i) else none) = (if i < c + 1 then some (a + 67 + i) else none)
          by_cases hic : i < c
          · rw [if_pos hic, if_pos (by omega)]
          · rw [if_neg hic, if_neg (by omega)]
      · by_cases hcc : c9 = c
        · subst hcc
          exact one_fr p9 (fun q h1 h2 => hup_at eh_3 (by omega))
        · exact one_fr (h3 c9 (by omega)) (fun q h1 h2 => (hup_at eh_3 (by omega)).trans ((f9 _ (by omega)).trans (hup_at eh_1 (by omega))))
      · exact (hup_at eh_3 hq1).trans ((f9 _ (by omega)).trans ((hup_at eh_1 (by omega)).trans (h4 q hq1 hq2)))
theorem n_Project (hc : h a = some (eO 8 [.null, .null, .null, .null, JV 0, JV 0, JV 0, .null, .null])) : CT G mX8_init [.ref a] h (a + 1) 106 4588 (fun r h' N' => r = none ∧ N' = a + 107 ∧ ((h' a = some (eO 8 [.ref (a + 1), .ref (a + 2), .ref (a + 3), .ref (a + 4), JV 0, JV 0, JV 0, .ref (a + 5), .ref (a + 6)]) ∧ h' (a + 1) = some (eQ G 5 4 (fun i => if i < 4 then some (a + 7 + 2 * i) else none)) ∧ h' (a + 2) = some (eQ G 6 4 (fun i => if i < 4 then some (a + 15 + i) else none)) ∧ h' (a + 3) = some (eQ G 7 24 (fun i => if i < 24 then some (a + 19 + 2 * i) else none)) ∧ h' (a + 4) = some (eQ G 8 40 (fun i => if i < 40 then some (a + 67 + i) else none)) ∧ h' (a + 5) = some (eI G 24 (fun _ => 0)) ∧ h' (a + 6) = some (eZ G 24 (fun _ => 0)) ∧ (∀ c, c < 4 → IsCal G h' (a + 7 + 2 * c) 31 0 (fun _ => 0)) ∧ (∀ c, c < 4 → h' (a + 15 + c) = some (eO 1 [JV 9, JV 0])) ∧ (∀ c, c < 24 → h' (a + 19 + 2 * c) = some (eO 9 [JV 0, JV 0, JV 0, JV 0, JV 0, JV 0, JV 0, .ref (a + 19 + 2 * c + 1)]) ∧ h' (a + 19 + 2 * c + 1) = some (eI G 4 (fun _ => 0))) ∧ ∀ c, c < 40 → h' (a + 67 + c) = some (eO 4 [JV 0, JV 0, JV 0, JV 0]))) ∧ FR a (a + 107) h h') := by
  refine CT_of (by decide +kernel) rfl (by simp [Value.category]) (Nat.le_of_ble_eq_true rfl) ?_
  change WP G mX8_init _ noX _ _ h (a + 1) 0 [some (.ref a), none] []
  refine wp_aload_n dX8_init_0 rfl ?_
  refine wp_obj dX8_init_1 obX8_3 w_obj (Nat.le_of_ble_eq_true rfl) (Nat.le_of_ble_eq_true rfl) ?_
  refine wp_aload_n dX8_init_4 rfl ?_
  refine wp_iconst dX8_init_5 ?_
  refine wp_newQ (C := RX0) (t := 5) (m := 4) (k2 := 105) (n2 := 4584) dX8_init_6 clX8_9 (by simp) rfl rfl (by decide) (by omega) (by omega) ?_
  obtain ⟨h_1, eh_1⟩ : ∃ hh9 : AH, hh9 = hup h (a + 1) (eQ G 5 4 (fun _ => none)) := ⟨_, rfl⟩
  refine WP.heq eh_1 ?_
  have c1_0 := (hup_at eh_1 (by omega)).trans hc
  have c1_1 : h_1 (a + 1) = some (eQ G 5 4 (fun _ => none)) := by rw [eh_1]; exact hup_self _ _ _
  change WP G mX8_init _ _ 105 4584 h_1 (a + 2) 9 [some (.ref a), none] [.ref (a + 1), .ref a]
  refine wp_putF fkX8_11 dX8_init_9 rfl (fun r hr => by cases hr; rfl) c1_0 rfl rfl (Nat.le_of_ble_eq_true rfl) ?_
  obtain ⟨h_2, eh_2⟩ : ∃ hh9 : AH, hh9 = hup h_1 a (eO 8 [.ref (a + 1), .null, .null, .null, JV 0, JV 0, JV 0, .null, .null]) := ⟨_, rfl⟩
  refine WP.heq eh_2 ?_
  have c2_0 : h_2 a = some (eO 8 [.ref (a + 1), .null, .null, .null, JV 0, JV 0, JV 0, .null, .null]) := by rw [eh_2]; exact hup_self _ _ _
  have c2_1 := (hup_at eh_2 (by omega)).trans c1_1
  refine wp_aload_n dX8_init_12 rfl ?_
  refine wp_iconst dX8_init_13 ?_
  refine wp_newQ (C := RX1) (t := 6) (m := 4) (k2 := 104) (n2 := 4580) dX8_init_14 clX8_17 (by simp) rfl rfl (by decide) (by omega) (by omega) ?_
  obtain ⟨h_3, eh_3⟩ : ∃ hh9 : AH, hh9 = hup h_2 (a + 2) (eQ G 6 4 (fun _ => none)) := ⟨_, rfl⟩
  refine WP.heq eh_3 ?_
  have c3_0 := (hup_at eh_3 (by omega)).trans c2_0
  have c3_1 := (hup_at eh_3 (by omega)).trans c2_1
  have c3_2 : h_3 (a + 2) = some (eQ G 6 4 (fun _ => none)) := by rw [eh_3]; exact hup_self _ _ _
  change WP G mX8_init _ _ 104 4580 h_3 (a + 3) 17 [some (.ref a), none] [.ref (a + 2), .ref a]
  refine wp_putF fkX8_19 dX8_init_17 rfl (fun r hr => by cases hr; rfl) c3_0 rfl rfl (Nat.le_of_ble_eq_true rfl) ?_
  obtain ⟨h_4, eh_4⟩ : ∃ hh9 : AH, hh9 = hup h_3 a (eO 8 [.ref (a + 1), .ref (a + 2), .null, .null, JV 0, JV 0, JV 0, .null, .null]) := ⟨_, rfl⟩
  refine WP.heq eh_4 ?_
  have c4_0 : h_4 a = some (eO 8 [.ref (a + 1), .ref (a + 2), .null, .null, JV 0, JV 0, JV 0, .null, .null]) := by rw [eh_4]; exact hup_self _ _ _
  have c4_1 := (hup_at eh_4 (by omega)).trans c3_1
  have c4_2 := (hup_at eh_4 (by omega)).trans c3_2
  refine wp_aload_n dX8_init_20 rfl ?_
  refine wp_bipush dX8_init_21 rfl ?_
  refine wp_newQ (C := RX9) (t := 7) (m := 24) (k2 := 103) (n2 := 4556) dX8_init_23 clX8_23 (by simp) rfl rfl (by decide) (by omega) (by omega) ?_
  obtain ⟨h_5, eh_5⟩ : ∃ hh9 : AH, hh9 = hup h_4 (a + 3) (eQ G 7 24 (fun _ => none)) := ⟨_, rfl⟩
  refine WP.heq eh_5 ?_
  have c5_0 := (hup_at eh_5 (by omega)).trans c4_0
  have c5_1 := (hup_at eh_5 (by omega)).trans c4_1
  have c5_2 := (hup_at eh_5 (by omega)).trans c4_2
  have c5_3 : h_5 (a + 3) = some (eQ G 7 24 (fun _ => none)) := by rw [eh_5]; exact hup_self _ _ _
  change WP G mX8_init _ _ 103 4556 h_5 (a + 4) 26 [some (.ref a), none] [.ref (a + 3), .ref a]
  refine wp_putF fkX8_25 dX8_init_26 rfl (fun r hr => by cases hr; rfl) c5_0 rfl rfl (Nat.le_of_ble_eq_true rfl) ?_
  obtain ⟨h_6, eh_6⟩ : ∃ hh9 : AH, hh9 = hup h_5 a (eO 8 [.ref (a + 1), .ref (a + 2), .ref (a + 3), .null, JV 0, JV 0, JV 0, .null, .null]) := ⟨_, rfl⟩
  refine WP.heq eh_6 ?_
  have c6_0 : h_6 a = some (eO 8 [.ref (a + 1), .ref (a + 2), .ref (a + 3), .null, JV 0, JV 0, JV 0, .null, .null]) := by rw [eh_6]; exact hup_self _ _ _
  have c6_1 := (hup_at eh_6 (by omega)).trans c5_1
  have c6_2 := (hup_at eh_6 (by omega)).trans c5_2
  have c6_3 := (hup_at eh_6 (by omega)).trans c5_3
  refine wp_aload_n dX8_init_29 rfl ?_
  refine wp_bipush dX8_init_30 rfl ?_
  refine wp_newQ (C := RX4) (t := 8) (m := 40) (k2 := 102) (n2 := 4516) dX8_init_32 clX8_29 (by simp) rfl rfl (by decide) (by omega) (by omega) ?_
  obtain ⟨h_7, eh_7⟩ : ∃ hh9 : AH, hh9 = hup h_6 (a + 4) (eQ G 8 40 (fun _ => none)) := ⟨_, rfl⟩
  refine WP.heq eh_7 ?_
  have c7_0 := (hup_at eh_7 (by omega)).trans c6_0
  have c7_1 := (hup_at eh_7 (by omega)).trans c6_1
  have c7_2 := (hup_at eh_7 (by omega)).trans c6_2
  have c7_3 := (hup_at eh_7 (by omega)).trans c6_3
  have c7_4 : h_7 (a + 4) = some (eQ G 8 40 (fun _ => none)) := by rw [eh_7]; exact hup_self _ _ _
  change WP G mX8_init _ _ 102 4516 h_7 (a + 5) 35 [some (.ref a), none] [.ref (a + 4), .ref a]
  refine wp_putF fkX8_31 dX8_init_35 rfl (fun r hr => by cases hr; rfl) c7_0 rfl rfl (Nat.le_of_ble_eq_true rfl) ?_
  obtain ⟨h_8, eh_8⟩ : ∃ hh9 : AH, hh9 = hup h_7 a (eO 8 [.ref (a + 1), .ref (a + 2), .ref (a + 3), .ref (a + 4), JV 0, JV 0, JV 0, .null, .null]) := ⟨_, rfl⟩
  refine WP.heq eh_8 ?_
  have c8_0 : h_8 a = some (eO 8 [.ref (a + 1), .ref (a + 2), .ref (a + 3), .ref (a + 4), JV 0, JV 0, JV 0, .null, .null]) := by rw [eh_8]; exact hup_self _ _ _
  have c8_1 := (hup_at eh_8 (by omega)).trans c7_1
  have c8_2 := (hup_at eh_8 (by omega)).trans c7_2
  have c8_3 := (hup_at eh_8 (by omega)).trans c7_3
  have c8_4 := (hup_at eh_8 (by omega)).trans c7_4
  refine wp_aload_n dX8_init_38 rfl ?_
  refine wp_bipush dX8_init_39 rfl ?_
  refine wp_newI (m := 24) (k2 := 101) (n2 := 4492) dX8_init_41 ar_int rfl (by decide) (by omega) (by omega) ?_
  obtain ⟨h_9, eh_9⟩ : ∃ hh9 : AH, hh9 = hup h_8 (a + 5) (eI G 24 (fun _ => 0)) := ⟨_, rfl⟩
  refine WP.heq eh_9 ?_
  have c9_0 := (hup_at eh_9 (by omega)).trans c8_0
  have c9_1 := (hup_at eh_9 (by omega)).trans c8_1
  have c9_2 := (hup_at eh_9 (by omega)).trans c8_2
  have c9_3 := (hup_at eh_9 (by omega)).trans c8_3
  have c9_4 := (hup_at eh_9 (by omega)).trans c8_4
  have c9_5 : h_9 (a + 5) = some (eI G 24 (fun _ => 0)) := by rw [eh_9]; exact hup_self _ _ _
  change WP G mX8_init _ _ 101 4492 h_9 (a + 6) 43 [some (.ref a), none] [.ref (a + 5), .ref a]
  refine wp_putF fkX8_35 dX8_init_43 rfl (fun r hr => by cases hr; rfl) c9_0 rfl rfl (Nat.le_of_ble_eq_true rfl) ?_
  obtain ⟨h_10, eh_10⟩ : ∃ hh9 : AH, hh9 = hup h_9 a (eO 8 [.ref (a + 1), .ref (a + 2), .ref (a + 3), .ref (a + 4), JV 0, JV 0, JV 0, .ref (a + 5), .null]) := ⟨_, rfl⟩
  refine WP.heq eh_10 ?_
  have c10_0 : h_10 a = some (eO 8 [.ref (a + 1), .ref (a + 2), .ref (a + 3), .ref (a + 4), JV 0, JV 0, JV 0, .ref (a + 5), .null]) := by rw [eh_10]; exact hup_self _ _ _
  have c10_1 := (hup_at eh_10 (by omega)).trans c9_1
  have c10_2 := (hup_at eh_10 (by omega)).trans c9_2
  have c10_3 := (hup_at eh_10 (by omega)).trans c9_3
  have c10_4 := (hup_at eh_10 (by omega)).trans c9_4
  have c10_5 := (hup_at eh_10 (by omega)).trans c9_5
  refine wp_aload_n dX8_init_46 rfl ?_
  refine wp_bipush dX8_init_47 rfl ?_
  refine wp_newZ (m := 24) (k2 := 100) (n2 := 4468) dX8_init_49 ar_boolean rfl (by decide) (by omega) (by omega) ?_
  obtain ⟨h_11, eh_11⟩ : ∃ hh9 : AH, hh9 = hup h_10 (a + 6) (eZ G 24 (fun _ => 0)) := ⟨_, rfl⟩
  refine WP.heq eh_11 ?_
  have c11_0 := (hup_at eh_11 (by omega)).trans c10_0
  have c11_1 := (hup_at eh_11 (by omega)).trans c10_1
  have c11_2 := (hup_at eh_11 (by omega)).trans c10_2
  have c11_3 := (hup_at eh_11 (by omega)).trans c10_3
  have c11_4 := (hup_at eh_11 (by omega)).trans c10_4
  have c11_5 := (hup_at eh_11 (by omega)).trans c10_5
  have c11_6 : h_11 (a + 6) = some (eZ G 24 (fun _ => 0)) := by rw [eh_11]; exact hup_self _ _ _
  change WP G mX8_init _ _ 100 4468 h_11 (a + 7) 51 [some (.ref a), none] [.ref (a + 6), .ref a]
  refine wp_putF fkX8_39 dX8_init_51 rfl (fun r hr => by cases hr; rfl) c11_0 rfl rfl (Nat.le_of_ble_eq_true rfl) ?_
  obtain ⟨h_12, eh_12⟩ : ∃ hh9 : AH, hh9 = hup h_11 a (eO 8 [.ref (a + 1), .ref (a + 2), .ref (a + 3), .ref (a + 4), JV 0, JV 0, JV 0, .ref (a + 5), .ref (a + 6)]) := ⟨_, rfl⟩
  refine WP.heq eh_12 ?_
  have c12_0 : h_12 a = some (eO 8 [.ref (a + 1), .ref (a + 2), .ref (a + 3), .ref (a + 4), JV 0, JV 0, JV 0, .ref (a + 5), .ref (a + 6)]) := by rw [eh_12]; exact hup_self _ _ _
  have c12_1 := (hup_at eh_12 (by omega)).trans c11_1
  have c12_2 := (hup_at eh_12 (by omega)).trans c11_2
  have c12_3 := (hup_at eh_12 (by omega)).trans c11_3
  have c12_4 := (hup_at eh_12 (by omega)).trans c11_4
  have c12_5 := (hup_at eh_12 (by omega)).trans c11_5
  have c12_6 := (hup_at eh_12 (by omega)).trans c11_6
  refine wp_iconst dX8_init_54 ?_
  refine wp_istore_n dX8_init_55 (Nat.le_of_ble_eq_true rfl) rfl ?_
  change WP G mX8_init _ _ _ _ h_12 (a + 7) 56 [some (.ref a), some (JV 0)] []
  have fr9 : FR a (a + 107) h h_12 := ((((((((((((FR.rf.up eh_1 ⟨by omega, by omega⟩).up eh_2 ⟨by omega, by omega⟩).up eh_3 ⟨by omega, by omega⟩).up eh_4 ⟨by omega, by omega⟩).up eh_5 ⟨by omega, by omega⟩).up eh_6 ⟨by omega, by omega⟩).up eh_7 ⟨by omega, by omega⟩).up eh_8 ⟨by omega, by omega⟩).up eh_9 ⟨by omega, by omega⟩).up eh_10 ⟨by omega, by omega⟩).up eh_11 ⟨by omega, by omega⟩).up eh_12 ⟨by omega, by omega⟩)
  refine l_pCals (kr := 92) (nr := 456) (h0 := h_12) (fun h1 z1 z2 z3 z4 => ?_) 4 0 h_12 100 4468 rfl (by omega) (by omega) (by omega) c12_0 (by rw [c12_1]; congr 5) (fun c9 h9 => absurd h9 (by omega)) (fun q _ _ => rfl)
  refine wp_iconst dX8_init_80 ?_
  refine wp_istore_n dX8_init_81 (Nat.le_of_ble_eq_true rfl) rfl ?_
  change WP G mX8_init _ _ _ _ h1 (a + 15) 82 [some (.ref a), some (JV 0)] []
  refine l_pCrews (kr := 88) (nr := 448) (h0 := h1) (fun h2 y1 y2 y3 y4 => ?_) 4 0 h1 92 456 rfl (by omega) (by omega) (by omega) z1 (by rw [z4 _ (by omega) (by omega), c12_2]; congr 5) (fun c9 h9 => absurd h9 (by omega)) (fun q _ _ => rfl)
  refine wp_iconst dX8_init_106 ?_
  refine wp_istore_n dX8_init_107 (Nat.le_of_ble_eq_true rfl) rfl ?_
  change WP G mX8_init _ _ _ _ h2 (a + 19) 108 [some (.ref a), some (JV 0)] []
  refine l_pTasks (kr := 40) (nr := 160) (h0 := h2) (fun h3 x1 x2 x3 x4 => ?_) 24 0 h2 88 448 rfl (by omega) (by omega) (by omega) y1 (by rw [y4 _ (by omega) (by omega), z4 _ (by omega) (by omega), c12_3]; congr 5) (fun c9 h9 => absurd h9 (by omega)) (fun q _ _ => rfl)
  refine wp_iconst dX8_init_133 ?_
  refine wp_istore_n dX8_init_134 (Nat.le_of_ble_eq_true rfl) rfl ?_
  change WP G mX8_init _ _ _ _ h3 (a + 67) 135 [some (.ref a), some (JV 0)] []
  refine l_pLinks (kr := 0) (nr := 0) (h0 := h3) (fun h4 v1 v2 v3 v4 => ?_) 40 0 h3 40 160 rfl (by omega) (by omega) (by omega) x1 (by rw [x4 _ (by omega) (by omega), y4 _ (by omega) (by omega), z4 _ (by omega) (by omega), c12_4]; congr 5) (fun c9 h9 => absurd h9 (by omega)) (fun q _ _ => rfl)
  refine wp_vret dX8_init_160 rfl ⟨rfl, by omega, ⟨v1, (v4 _ (by omega) (by omega)).trans ((x4 _ (by omega) (by omega)).trans ((y4 _ (by omega) (by omega)).trans z2)), (v4 _ (by omega) (by omega)).trans ((x4 _ (by omega) (by omega)).trans y2), (v4 _ (by omega) (by omega)).trans x2, v2, ?_, ?_, ?_, ?_, ?_, v3⟩, fun q hq => ?_⟩
  · exact (v4 _ (by omega) (by omega)).trans ((x4 _ (by omega) (by omega)).trans ((y4 _ (by omega) (by omega)).trans ((z4 _ (by omega) (by omega)).trans c12_5)))
  · exact (v4 _ (by omega) (by omega)).trans ((x4 _ (by omega) (by omega)).trans ((y4 _ (by omega) (by omega)).trans ((z4 _ (by omega) (by omega)).trans c12_6)))
  · exact fun c hc => IsCal.fr2 (z3 c hc) (fun q h1 h2 => (v4 _ (by omega) (by omega)).trans ((x4 _ (by omega) (by omega)).trans (y4 _ (by omega) (by omega))))
  · exact fun c hc => one_fr (y3 c hc) (fun q h1 h2 => (v4 _ (by omega) (by omega)).trans (x4 _ (by omega) (by omega)))
  · exact fun c hc => two_fr (x3 c hc) (fun q h1 h2 => v4 _ (by omega) (by omega))
  · exact (v4 q (by omega) (by omega)).trans ((x4 q (by omega) (by omega)).trans ((y4 q (by omega) (by omega)).trans ((z4 q (by omega) (by omega)).trans (fr9 q (by omega)))))

/-- the table of the project that was just made -/
def S00 : ST := fun f i _ => if f = 0 then 31 else if f = 3 then 9 else if f = 18 then (i : Int) else 0
theorem HP.mk0 {h : AH} {a : Nat} (ea : a = cB G + 1) (p : ((h a = some (eO 8 [.ref (a + 1), .ref (a + 2), .ref (a + 3), .ref (a + 4), JV 0, JV 0, JV 0, .ref (a + 5), .ref (a + 6)]) ∧ h (a + 1) = some (eQ G 5 4 (fun i => if i < 4 then some (a + 7 + 2 * i) else none)) ∧ h (a + 2) = some (eQ G 6 4 (fun i => if i < 4 then some (a + 15 + i) else none)) ∧ h (a + 3) = some (eQ G 7 24 (fun i => if i < 24 then some (a + 19 + 2 * i) else none)) ∧ h (a + 4) = some (eQ G 8 40 (fun i => if i < 40 then some (a + 67 + i) else none)) ∧ h (a + 5) = some (eI G 24 (fun _ => 0)) ∧ h (a + 6) = some (eZ G 24 (fun _ => 0)) ∧ (∀ c, c < 4 → IsCal G h (a + 7 + 2 * c) 31 0 (fun _ => 0)) ∧ (∀ c, c < 4 → h (a + 15 + c) = some (eO 1 [JV 9, JV 0])) ∧ (∀ c, c < 24 → h (a + 19 + 2 * c) = some (eO 9 [JV 0, JV 0, JV 0, JV 0, JV 0, JV 0, JV 0, .ref (a + 19 + 2 * c + 1)]) ∧ h (a + 19 + 2 * c + 1) = some (eI G 4 (fun _ => 0))) ∧ ∀ c, c < 40 → h (a + 67 + c) = some (eO 4 [JV 0, JV 0, JV 0, JV 0])))) : HP G S00 h := by
  subst ea
  obtain ⟨p0, p1, p2, p3, p4, p5, p6, p7, p8, p9, p10⟩ := p
  refine ⟨p0, ?_, ?_, ?_, ?_, p5, p6, fun c hc => ?_, fun c hc => ?_, fun c hc => ?_, fun c hc => ?_, fun c hc => ?_, fun c hc => ?_⟩
  · rw [show cB G + 2 = cB G + 1 + 1 from rfl, p1]
  · rw [show cB G + 3 = cB G + 1 + 2 from rfl, p2]
  · rw [show cB G + 4 = cB G + 1 + 3 from rfl, p3]
  · rw [show cB G + 5 = cB G + 1 + 4 from rfl, p4]
    congr 5
  · exact (p7 c hc).1
  · exact (p7 c hc).2.1
  · exact p8 c hc
  · exact (p9 c hc).1
  · exact (p9 c hc).2
  · exact p10 c hc
abbrev cSP (G : Ctx) (st : Int) : va_E := eO 10 [.ref (cB G + 1), .ref (cB G + 108), .ref (cB G + 116), .ref (cB G + 128), .ref (cB G + 134), .ref (cB G + 142), .ref (cB G + 154), JV st]
theorem n_SlipwayPlan (hc : h (cB G) = some (eO 10 [.null, .null, .null, .null, .null, .null, .null, JV 0])) : CT G mX10_init [.ref (cB G)] h (cB G + 1) 168 89202 (fun r h' N' => r = none ∧ N' = cB G + 169 ∧ h' (cB G) = some (cSP G 1) ∧ HP G S00 h' ∧ NW G h' (cB G + 108) (fun _ => 0) (fun _ => 0) (fun _ => 0) (fun _ => 0) (fun _ => 0) 0 ∧ LV G h' (cB G + 116) (fun _ => 0) (fun _ => 0) (fun _ _ => 0) 0 (fun _ => 0) (fun _ => 0) 0 0 ∧ LD G h' (cB G + 128) (fun _ _ => 0) 0 ∧ NW G h' (cB G + 134) (fun _ => 0) (fun _ => 0) (fun _ => 0) (fun _ => 0) (fun _ => 0) 0 ∧ LV G h' (cB G + 142) (fun _ => 0) (fun _ => 0) (fun _ _ => 0) 0 (fun _ => 0) (fun _ => 0) 0 0 ∧ KP G h' (cB G + 154) (fun _ => 0) (fun _ => 0) (fun _ => 0) (fun _ => 0) (fun _ => 31) (fun _ => 0) (fun _ _ => 0)) := by
  refine CT_of (by decide +kernel) rfl (by simp [Value.category]) (Nat.le_of_ble_eq_true rfl) ?_
  change WP G mX10_init _ noX _ _ h (cB G + 1) 0 [some (.ref (cB G))] []
  refine wp_aload_n dX10_init_0 rfl ?_
  refine wp_obj dX10_init_1 obX10_1 w_obj (Nat.le_of_ble_eq_true rfl) (Nat.le_of_ble_eq_true rfl) ?_
  refine wp_aload_n dX10_init_4 rfl ?_
  refine wp_new (fs := [.null, .null, .null, .null, JV 0, JV 0, JV 0, .null, .null]) (k2 := 167) (n2 := 89193) ckX8 clX10_7 isX8 inX8 dX10_init_5 dfX8 (by omega) (by omega) ?_
  obtain ⟨h_1, eh_1⟩ : ∃ hh9 : AH, hh9 = hup h (cB G + 1) (eO 8 [.null, .null, .null, .null, JV 0, JV 0, JV 0, .null, .null]) := ⟨_, rfl⟩
  refine WP.heq eh_1 ?_
  have c1_0 := (hup_at eh_1 (by omega)).trans hc
  have c1_1 : h_1 (cB G + 1) = some (eO 8 [.null, .null, .null, .null, JV 0, JV 0, JV 0, .null, .null]) := by rw [eh_1]; exact hup_self _ _ _
  change WP G mX10_init _ _ 167 89193 h_1 (cB G + 2) 8 [some (.ref (cB G))] [.ref (cB G + 1), .ref (cB G)]
  refine wp_dup dX10_init_8 rfl ?_
  refine wp_callI (k2 := 61) (n2 := 84605) (n_Project c1_1) ciX10_9 dX10_init_9 ⟨Nat.le_of_ble_eq_true rfl, Nat.le_of_ble_eq_true rfl⟩ (Nat.le_of_ble_eq_true rfl) rfl rfl (by omega) (by omega) (fun r h_2 N9 hq => ?_)
  obtain ⟨rfl, hN_2, p_2, f_2⟩ := hq
  rw [hN_2]
  have c2_0 := (f_2 _ (by omega)).trans c1_0
  change WP G mX10_init _ _ 61 84605 h_2 (cB G + 108) 12 [some (.ref (cB G))] [.ref (cB G + 1), .ref (cB G)]
  have HP0 : HP G S00 h_2 := HP.mk0 rfl p_2
  refine wp_putF fkX10_10 dX10_init_12 rfl (fun r hr => by cases hr; rfl) c2_0 rfl rfl (Nat.le_of_ble_eq_true rfl) ?_
  obtain ⟨h_3, eh_3⟩ : ∃ hh9 : AH, hh9 = hup h_2 (cB G) (eO 10 [.ref (cB G + 1), .null, .null, .null, .null, .null, .null, JV 0]) := ⟨_, rfl⟩
  refine WP.heq eh_3 ?_
  have c3_0 : h_3 (cB G) = some (eO 10 [.ref (cB G + 1), .null, .null, .null, .null, .null, .null, JV 0]) := by rw [eh_3]; exact hup_self _ _ _
  have HX_3 : HP G S00 h_3 := HP0.frame (fun q9 hq9 hq8 => hup_at eh_3 (by omega))
  refine wp_aload_n dX10_init_15 rfl ?_
  refine wp_new (fs := [.null, .null, .null, .null, JV 0]) (k2 := 60) (n2 := 84600) ckX6 clX10_16 isX6 inX6 dX10_init_16 dfX6 (by omega) (by omega) ?_
  obtain ⟨h_4, eh_4⟩ : ∃ hh9 : AH, hh9 = hup h_3 (cB G + 108) (eO 6 [.null, .null, .null, .null, JV 0]) := ⟨_, rfl⟩
  refine WP.heq eh_4 ?_
  have c4_0 := (hup_at eh_4 (by omega)).trans c3_0
  have c4_1 : h_4 (cB G + 108) = some (eO 6 [.null, .null, .null, .null, JV 0]) := by rw [eh_4]; exact hup_self _ _ _
  have HX_4 : HP G S00 h_4 := HX_3.frame (fun q9 hq9 hq8 => hup_at eh_4 (by omega))
  change WP G mX10_init _ _ 60 84600 h_4 (cB G + 109) 19 [some (.ref (cB G))] [.ref (cB G + 108), .ref (cB G)]
  refine wp_dup dX10_init_19 rfl ?_
  refine wp_aload_n dX10_init_20 rfl ?_
  refine wp_get fkX10_10 dX10_init_21 c4_0 rfl ?_
  refine wp_callI (k2 := 53) (n2 := 84476) (n_Network c4_1) ciX10_18 dX10_init_24 ⟨Nat.le_of_ble_eq_true rfl, Nat.le_of_ble_eq_true rfl⟩ (Nat.le_of_ble_eq_true rfl) rfl rfl (by omega) (by omega) (fun r h_5 N9 hq => ?_)
  obtain ⟨rfl, hN_5, p_5, f_5⟩ := hq
  rw [hN_5]
  have c5_0 := (f_5 _ (by omega)).trans c4_0
  have HF_5 : HP G S00 h_5 := HX_4.fr f_5 (by omega)
  change WP G mX10_init _ _ 53 84476 h_5 (cB G + 116) 27 [some (.ref (cB G))] [.ref (cB G + 108), .ref (cB G)]
  refine wp_putF fkX10_21 dX10_init_27 rfl (fun r hr => by cases hr; rfl) c5_0 rfl rfl (Nat.le_of_ble_eq_true rfl) ?_
  obtain ⟨h_6, eh_6⟩ : ∃ hh9 : AH, hh9 = hup h_5 (cB G) (eO 10 [.ref (cB G + 1), .ref (cB G + 108), .null, .null, .null, .null, .null, JV 0]) := ⟨_, rfl⟩
  refine WP.heq eh_6 ?_
  have c6_0 : h_6 (cB G) = some (eO 10 [.ref (cB G + 1), .ref (cB G + 108), .null, .null, .null, .null, .null, JV 0]) := by rw [eh_6]; exact hup_self _ _ _
  have HX_6 : HP G S00 h_6 := HF_5.frame (fun q9 hq9 hq8 => hup_at eh_6 (by omega))
  have WX_6_______108 : NW G h_6 (cB G + 108) (fun _ => 0) (fun _ => 0) (fun _ => 0) (fun _ => 0) (fun _ => 0) 0 := p_5.frame (fun q9 hq9 hq8 => hup_at eh_6 (by omega))
  refine wp_aload_n dX10_init_30 rfl ?_
  refine wp_new (fs := [.null, .null, .null, .null, .null, JV 0, JV 0]) (k2 := 52) (n2 := 84469) ckX3 clX10_25 isX3 inX3 dX10_init_31 dfX3 (by omega) (by omega) ?_
  obtain ⟨h_7, eh_7⟩ : ∃ hh9 : AH, hh9 = hup h_6 (cB G + 116) (eO 3 [.null, .null, .null, .null, .null, JV 0, JV 0]) := ⟨_, rfl⟩
  refine WP.heq eh_7 ?_
  have c7_0 := (hup_at eh_7 (by omega)).trans c6_0
  have c7_1 : h_7 (cB G + 116) = some (eO 3 [.null, .null, .null, .null, .null, JV 0, JV 0]) := by rw [eh_7]; exact hup_self _ _ _
  have HX_7 : HP G S00 h_7 := HX_6.frame (fun q9 hq9 hq8 => hup_at eh_7 (by omega))
  have WX_7_______108 : NW G h_7 (cB G + 108) (fun _ => 0) (fun _ => 0) (fun _ => 0) (fun _ => 0) (fun _ => 0) 0 := WX_6_______108.frame (fun q9 hq9 hq8 => hup_at eh_7 (by omega))
  change WP G mX10_init _ _ 52 84469 h_7 (cB G + 117) 34 [some (.ref (cB G))] [.ref (cB G + 116), .ref (cB G)]
  refine wp_dup dX10_init_34 rfl ?_
  refine wp_aload_n dX10_init_35 rfl ?_
  refine wp_get fkX10_10 dX10_init_36 c7_0 rfl ?_
  refine wp_callI (k2 := 41) (n2 := 64365) (n_Levelling c7_1) ciX10_27 dX10_init_39 ⟨Nat.le_of_ble_eq_true rfl, Nat.le_of_ble_eq_true rfl⟩ (Nat.le_of_ble_eq_true rfl) rfl rfl (by omega) (by omega) (fun r h_8 N9 hq => ?_)
  obtain ⟨rfl, hN_8, p_8, f_8⟩ := hq
  rw [hN_8]
  have c8_0 := (f_8 _ (by omega)).trans c7_0
  have HF_8 : HP G S00 h_8 := HX_7.fr f_8 (by omega)
  have WF_8_______108 : NW G h_8 (cB G + 108) (fun _ => 0) (fun _ => 0) (fun _ => 0) (fun _ => 0) (fun _ => 0) 0 := WX_7_______108.frame (fun q9 hq9 hq8 => f_8 _ (by omega))
  change WP G mX10_init _ _ 41 64365 h_8 (cB G + 128) 42 [some (.ref (cB G))] [.ref (cB G + 116), .ref (cB G)]
  refine wp_putF fkX10_28 dX10_init_42 rfl (fun r hr => by cases hr; rfl) c8_0 rfl rfl (Nat.le_of_ble_eq_true rfl) ?_
  obtain ⟨h_9, eh_9⟩ : ∃ hh9 : AH, hh9 = hup h_8 (cB G) (eO 10 [.ref (cB G + 1), .ref (cB G + 108), .ref (cB G + 116), .null, .null, .null, .null, JV 0]) := ⟨_, rfl⟩
  refine WP.heq eh_9 ?_
  have c9_0 : h_9 (cB G) = some (eO 10 [.ref (cB G + 1), .ref (cB G + 108), .ref (cB G + 116), .null, .null, .null, .null, JV 0]) := by rw [eh_9]; exact hup_self _ _ _
  have HX_9 : HP G S00 h_9 := HF_8.frame (fun q9 hq9 hq8 => hup_at eh_9 (by omega))
  have WX_9_______108 : NW G h_9 (cB G + 108) (fun _ => 0) (fun _ => 0) (fun _ => 0) (fun _ => 0) (fun _ => 0) 0 := WF_8_______108.frame (fun q9 hq9 hq8 => hup_at eh_9 (by omega))
  have VX_9_______116 : LV G h_9 (cB G + 116) (fun _ => 0) (fun _ => 0) (fun _ _ => 0) 0 (fun _ => 0) (fun _ => 0) 0 0 := p_8.frame (fun q9 hq9 hq8 => hup_at eh_9 (by omega))
  refine wp_aload_n dX10_init_45 rfl ?_
  refine wp_new (fs := [.null, JV 0]) (k2 := 40) (n2 := 64363) ckX5 clX10_32 isX5 inX5 dX10_init_46 dfX5 (by omega) (by omega) ?_
  obtain ⟨h_10, eh_10⟩ : ∃ hh9 : AH, hh9 = hup h_9 (cB G + 128) (eO 5 [.null, JV 0]) := ⟨_, rfl⟩
  refine WP.heq eh_10 ?_
  have c10_0 := (hup_at eh_10 (by omega)).trans c9_0
  have c10_1 : h_10 (cB G + 128) = some (eO 5 [.null, JV 0]) := by rw [eh_10]; exact hup_self _ _ _
  have HX_10 : HP G S00 h_10 := HX_9.frame (fun q9 hq9 hq8 => hup_at eh_10 (by omega))
  have WX_10_______108 : NW G h_10 (cB G + 108) (fun _ => 0) (fun _ => 0) (fun _ => 0) (fun _ => 0) (fun _ => 0) 0 := WX_9_______108.frame (fun q9 hq9 hq8 => hup_at eh_10 (by omega))
  have VX_10_______116 : LV G h_10 (cB G + 116) (fun _ => 0) (fun _ => 0) (fun _ _ => 0) 0 (fun _ => 0) (fun _ => 0) 0 0 := VX_9_______116.frame (fun q9 hq9 hq8 => hup_at eh_10 (by omega))
  change WP G mX10_init _ _ 40 64363 h_10 (cB G + 129) 49 [some (.ref (cB G))] [.ref (cB G + 128), .ref (cB G)]
  refine wp_dup dX10_init_49 rfl ?_
  refine wp_callIN (k2 := 35) (n2 := 44359) (n_Load c10_1) ciX10_34 dX10_init_50 ⟨Nat.le_of_ble_eq_true rfl, Nat.le_of_ble_eq_true rfl⟩ (Nat.le_of_ble_eq_true rfl) rfl rfl (by omega) (by omega) (fun r h_11 N9 hq => ?_)
  obtain ⟨rfl, hN_11, p_11, f_11⟩ := hq
  rw [hN_11]
  have c11_0 := (f_11 _ (by omega)).trans c10_0
  have HF_11 : HP G S00 h_11 := HX_10.fr f_11 (by omega)
  have WF_11_______108 : NW G h_11 (cB G + 108) (fun _ => 0) (fun _ => 0) (fun _ => 0) (fun _ => 0) (fun _ => 0) 0 := WX_10_______108.frame (fun q9 hq9 hq8 => f_11 _ (by omega))
  have VF_11_______116 : LV G h_11 (cB G + 116) (fun _ => 0) (fun _ => 0) (fun _ _ => 0) 0 (fun _ => 0) (fun _ => 0) 0 0 := VX_10_______116.frame (fun q9 hq9 hq8 => f_11 _ (by omega))
  change WP G mX10_init _ _ 35 44359 h_11 (cB G + 134) 53 [some (.ref (cB G))] [.ref (cB G + 128), .ref (cB G)]
  refine wp_putF fkX10_35 dX10_init_53 rfl (fun r hr => by cases hr; rfl) c11_0 rfl rfl (Nat.le_of_ble_eq_true rfl) ?_
  obtain ⟨h_12, eh_12⟩ : ∃ hh9 : AH, hh9 = hup h_11 (cB G) (eO 10 [.ref (cB G + 1), .ref (cB G + 108), .ref (cB G + 116), .ref (cB G + 128), .null, .null, .null, JV 0]) := ⟨_, rfl⟩
  refine WP.heq eh_12 ?_
  have c12_0 : h_12 (cB G) = some (eO 10 [.ref (cB G + 1), .ref (cB G + 108), .ref (cB G + 116), .ref (cB G + 128), .null, .null, .null, JV 0]) := by rw [eh_12]; exact hup_self _ _ _
  have HX_12 : HP G S00 h_12 := HF_11.frame (fun q9 hq9 hq8 => hup_at eh_12 (by omega))
  have WX_12_______108 : NW G h_12 (cB G + 108) (fun _ => 0) (fun _ => 0) (fun _ => 0) (fun _ => 0) (fun _ => 0) 0 := WF_11_______108.frame (fun q9 hq9 hq8 => hup_at eh_12 (by omega))
  have VX_12_______116 : LV G h_12 (cB G + 116) (fun _ => 0) (fun _ => 0) (fun _ _ => 0) 0 (fun _ => 0) (fun _ => 0) 0 0 := VF_11_______116.frame (fun q9 hq9 hq8 => hup_at eh_12 (by omega))
  have DX_12B_128 : LD G h_12 (cB G + 128) (fun _ _ => 0) 0 := p_11.frame (fun q9 hq9 hq8 => hup_at eh_12 (by omega))
  refine wp_aload_n dX10_init_56 rfl ?_
  refine wp_new (fs := [.null, .null, .null, .null, JV 0]) (k2 := 34) (n2 := 44354) ckX6 clX10_16 isX6 inX6 dX10_init_57 dfX6 (by omega) (by omega) ?_
  obtain ⟨h_13, eh_13⟩ : ∃ hh9 : AH, hh9 = hup h_12 (cB G + 134) (eO 6 [.null, .null, .null, .null, JV 0]) := ⟨_, rfl⟩
  refine WP.heq eh_13 ?_
  have c13_0 := (hup_at eh_13 (by omega)).trans c12_0
  have c13_1 : h_13 (cB G + 134) = some (eO 6 [.null, .null, .null, .null, JV 0]) := by rw [eh_13]; exact hup_self _ _ _
  have HX_13 : HP G S00 h_13 := HX_12.frame (fun q9 hq9 hq8 => hup_at eh_13 (by omega))
  have WX_13_______108 : NW G h_13 (cB G + 108) (fun _ => 0) (fun _ => 0) (fun _ => 0) (fun _ => 0) (fun _ => 0) 0 := WX_12_______108.frame (fun q9 hq9 hq8 => hup_at eh_13 (by omega))
  have VX_13_______116 : LV G h_13 (cB G + 116) (fun _ => 0) (fun _ => 0) (fun _ _ => 0) 0 (fun _ => 0) (fun _ => 0) 0 0 := VX_12_______116.frame (fun q9 hq9 hq8 => hup_at eh_13 (by omega))
  have DX_13B_128 : LD G h_13 (cB G + 128) (fun _ _ => 0) 0 := DX_12B_128.frame (fun q9 hq9 hq8 => hup_at eh_13 (by omega))
  change WP G mX10_init _ _ 34 44354 h_13 (cB G + 135) 60 [some (.ref (cB G))] [.ref (cB G + 134), .ref (cB G)]
  refine wp_dup dX10_init_60 rfl ?_
  refine wp_aload_n dX10_init_61 rfl ?_
  refine wp_get fkX10_10 dX10_init_62 c13_0 rfl ?_
  refine wp_callI (k2 := 27) (n2 := 44230) (n_Network c13_1) ciX10_18 dX10_init_65 ⟨Nat.le_of_ble_eq_true rfl, Nat.le_of_ble_eq_true rfl⟩ (Nat.le_of_ble_eq_true rfl) rfl rfl (by omega) (by omega) (fun r h_14 N9 hq => ?_)
  obtain ⟨rfl, hN_14, p_14, f_14⟩ := hq
  rw [hN_14]
  have c14_0 := (f_14 _ (by omega)).trans c13_0
  have HF_14 : HP G S00 h_14 := HX_13.fr f_14 (by omega)
  have WF_14_______108 : NW G h_14 (cB G + 108) (fun _ => 0) (fun _ => 0) (fun _ => 0) (fun _ => 0) (fun _ => 0) 0 := WX_13_______108.frame (fun q9 hq9 hq8 => f_14 _ (by omega))
  have VF_14_______116 : LV G h_14 (cB G + 116) (fun _ => 0) (fun _ => 0) (fun _ _ => 0) 0 (fun _ => 0) (fun _ => 0) 0 0 := VX_13_______116.frame (fun q9 hq9 hq8 => f_14 _ (by omega))
  have DF_14 : LD G h_14 (cB G + 128) (fun _ _ => 0) 0 := DX_13B_128.frame (fun q9 hq9 hq8 => f_14 _ (by omega))
  change WP G mX10_init _ _ 27 44230 h_14 (cB G + 142) 68 [some (.ref (cB G))] [.ref (cB G + 134), .ref (cB G)]
  refine wp_putF fkX10_39 dX10_init_68 rfl (fun r hr => by cases hr; rfl) c14_0 rfl rfl (Nat.le_of_ble_eq_true rfl) ?_
  obtain ⟨h_15, eh_15⟩ : ∃ hh9 : AH, hh9 = hup h_14 (cB G) (eO 10 [.ref (cB G + 1), .ref (cB G + 108), .ref (cB G + 116), .ref (cB G + 128), .ref (cB G + 134), .null, .null, JV 0]) := ⟨_, rfl⟩
  refine WP.heq eh_15 ?_
  have c15_0 : h_15 (cB G) = some (eO 10 [.ref (cB G + 1), .ref (cB G + 108), .ref (cB G + 116), .ref (cB G + 128), .ref (cB G + 134), .null, .null, JV 0]) := by rw [eh_15]; exact hup_self _ _ _
  have HX_15 : HP G S00 h_15 := HF_14.frame (fun q9 hq9 hq8 => hup_at eh_15 (by omega))
  have WX_15_______108 : NW G h_15 (cB G + 108) (fun _ => 0) (fun _ => 0) (fun _ => 0) (fun _ => 0) (fun _ => 0) 0 := WF_14_______108.frame (fun q9 hq9 hq8 => hup_at eh_15 (by omega))
  have VX_15_______116 : LV G h_15 (cB G + 116) (fun _ => 0) (fun _ => 0) (fun _ _ => 0) 0 (fun _ => 0) (fun _ => 0) 0 0 := VF_14_______116.frame (fun q9 hq9 hq8 => hup_at eh_15 (by omega))
  have DX_15B_128 : LD G h_15 (cB G + 128) (fun _ _ => 0) 0 := DF_14.frame (fun q9 hq9 hq8 => hup_at eh_15 (by omega))
  have WX_15_______134 : NW G h_15 (cB G + 134) (fun _ => 0) (fun _ => 0) (fun _ => 0) (fun _ => 0) (fun _ => 0) 0 := p_14.frame (fun q9 hq9 hq8 => hup_at eh_15 (by omega))
  refine wp_aload_n dX10_init_71 rfl ?_
  refine wp_new (fs := [.null, .null, .null, .null, .null, JV 0, JV 0]) (k2 := 26) (n2 := 44223) ckX3 clX10_25 isX3 inX3 dX10_init_72 dfX3 (by omega) (by omega) ?_
  obtain ⟨h_16, eh_16⟩ : ∃ hh9 : AH, hh9 = hup h_15 (cB G + 142) (eO 3 [.null, .null, .null, .null, .null, JV 0, JV 0]) := ⟨_, rfl⟩
  refine WP.heq eh_16 ?_
  have c16_0 := (hup_at eh_16 (by omega)).trans c15_0
  have c16_1 : h_16 (cB G + 142) = some (eO 3 [.null, .null, .null, .null, .null, JV 0, JV 0]) := by rw [eh_16]; exact hup_self _ _ _
  have HX_16 : HP G S00 h_16 := HX_15.frame (fun q9 hq9 hq8 => hup_at eh_16 (by omega))
  have WX_16_______108 : NW G h_16 (cB G + 108) (fun _ => 0) (fun _ => 0) (fun _ => 0) (fun _ => 0) (fun _ => 0) 0 := WX_15_______108.frame (fun q9 hq9 hq8 => hup_at eh_16 (by omega))
  have VX_16_______116 : LV G h_16 (cB G + 116) (fun _ => 0) (fun _ => 0) (fun _ _ => 0) 0 (fun _ => 0) (fun _ => 0) 0 0 := VX_15_______116.frame (fun q9 hq9 hq8 => hup_at eh_16 (by omega))
  have DX_16B_128 : LD G h_16 (cB G + 128) (fun _ _ => 0) 0 := DX_15B_128.frame (fun q9 hq9 hq8 => hup_at eh_16 (by omega))
  have WX_16_______134 : NW G h_16 (cB G + 134) (fun _ => 0) (fun _ => 0) (fun _ => 0) (fun _ => 0) (fun _ => 0) 0 := WX_15_______134.frame (fun q9 hq9 hq8 => hup_at eh_16 (by omega))
  change WP G mX10_init _ _ 26 44223 h_16 (cB G + 143) 75 [some (.ref (cB G))] [.ref (cB G + 142), .ref (cB G)]
  refine wp_dup dX10_init_75 rfl ?_
  refine wp_aload_n dX10_init_76 rfl ?_
  refine wp_get fkX10_10 dX10_init_77 c16_0 rfl ?_
  refine wp_callI (k2 := 15) (n2 := 24119) (n_Levelling c16_1) ciX10_27 dX10_init_80 ⟨Nat.le_of_ble_eq_true rfl, Nat.le_of_ble_eq_true rfl⟩ (Nat.le_of_ble_eq_true rfl) rfl rfl (by omega) (by omega) (fun r h_17 N9 hq => ?_)
  obtain ⟨rfl, hN_17, p_17, f_17⟩ := hq
  rw [hN_17]
  have c17_0 := (f_17 _ (by omega)).trans c16_0
  have HF_17 : HP G S00 h_17 := HX_16.fr f_17 (by omega)
  have WF_17_______108 : NW G h_17 (cB G + 108) (fun _ => 0) (fun _ => 0) (fun _ => 0) (fun _ => 0) (fun _ => 0) 0 := WX_16_______108.frame (fun q9 hq9 hq8 => f_17 _ (by omega))
  have VF_17_______116 : LV G h_17 (cB G + 116) (fun _ => 0) (fun _ => 0) (fun _ _ => 0) 0 (fun _ => 0) (fun _ => 0) 0 0 := VX_16_______116.frame (fun q9 hq9 hq8 => f_17 _ (by omega))
  have DF_17 : LD G h_17 (cB G + 128) (fun _ _ => 0) 0 := DX_16B_128.frame (fun q9 hq9 hq8 => f_17 _ (by omega))
  have WF_17_______134 : NW G h_17 (cB G + 134) (fun _ => 0) (fun _ => 0) (fun _ => 0) (fun _ => 0) (fun _ => 0) 0 := WX_16_______134.frame (fun q9 hq9 hq8 => f_17 _ (by omega))
  change WP G mX10_init _ _ 15 24119 h_17 (cB G + 154) 83 [some (.ref (cB G))] [.ref (cB G + 142), .ref (cB G)]
  refine wp_putF fkX10_42 dX10_init_83 rfl (fun r hr => by cases hr; rfl) c17_0 rfl rfl (Nat.le_of_ble_eq_true rfl) ?_
  obtain ⟨h_18, eh_18⟩ : ∃ hh9 : AH, hh9 = hup h_17 (cB G) (eO 10 [.ref (cB G + 1), .ref (cB G + 108), .ref (cB G + 116), .ref (cB G + 128), .ref (cB G + 134), .ref (cB G + 142), .null, JV 0]) := ⟨_, rfl⟩
  refine WP.heq eh_18 ?_
  have c18_0 : h_18 (cB G) = some (eO 10 [.ref (cB G + 1), .ref (cB G + 108), .ref (cB G + 116), .ref (cB G + 128), .ref (cB G + 134), .ref (cB G + 142), .null, JV 0]) := by rw [eh_18]; exact hup_self _ _ _
  have HX_18 : HP G S00 h_18 := HF_17.frame (fun q9 hq9 hq8 => hup_at eh_18 (by omega))
  have WX_18_______108 : NW G h_18 (cB G + 108) (fun _ => 0) (fun _ => 0) (fun _ => 0) (fun _ => 0) (fun _ => 0) 0 := WF_17_______108.frame (fun q9 hq9 hq8 => hup_at eh_18 (by omega))
  have VX_18_______116 : LV G h_18 (cB G + 116) (fun _ => 0) (fun _ => 0) (fun _ _ => 0) 0 (fun _ => 0) (fun _ => 0) 0 0 := VF_17_______116.frame (fun q9 hq9 hq8 => hup_at eh_18 (by omega))
  have DX_18B_128 : LD G h_18 (cB G + 128) (fun _ _ => 0) 0 := DF_17.frame (fun q9 hq9 hq8 => hup_at eh_18 (by omega))
  have WX_18_______134 : NW G h_18 (cB G + 134) (fun _ => 0) (fun _ => 0) (fun _ => 0) (fun _ => 0) (fun _ => 0) 0 := WF_17_______134.frame (fun q9 hq9 hq8 => hup_at eh_18 (by omega))
  have VX_18_______142 : LV G h_18 (cB G + 142) (fun _ => 0) (fun _ => 0) (fun _ _ => 0) 0 (fun _ => 0) (fun _ => 0) 0 0 := p_17.frame (fun q9 hq9 hq8 => hup_at eh_18 (by omega))
  refine wp_aload_n dX10_init_86 rfl ?_
  refine wp_new (fs := [.null, .null, .null, .null, .null]) (k2 := 14) (n2 := 24114) ckX2 clX10_45 isX2 inX2 dX10_init_87 dfX2 (by omega) (by omega) ?_
  obtain ⟨h_19, eh_19⟩ : ∃ hh9 : AH, hh9 = hup h_18 (cB G + 154) (eO 2 [.null, .null, .null, .null, .null]) := ⟨_, rfl⟩
  refine WP.heq eh_19 ?_
  have c19_0 := (hup_at eh_19 (by omega)).trans c18_0
  have c19_1 : h_19 (cB G + 154) = some (eO 2 [.null, .null, .null, .null, .null]) := by rw [eh_19]; exact hup_self _ _ _
  have HX_19 : HP G S00 h_19 := HX_18.frame (fun q9 hq9 hq8 => hup_at eh_19 (by omega))
  have WX_19_______108 : NW G h_19 (cB G + 108) (fun _ => 0) (fun _ => 0) (fun _ => 0) (fun _ => 0) (fun _ => 0) 0 := WX_18_______108.frame (fun q9 hq9 hq8 => hup_at eh_19 (by omega))
  have VX_19_______116 : LV G h_19 (cB G + 116) (fun _ => 0) (fun _ => 0) (fun _ _ => 0) 0 (fun _ => 0) (fun _ => 0) 0 0 := VX_18_______116.frame (fun q9 hq9 hq8 => hup_at eh_19 (by omega))
  have DX_19B_128 : LD G h_19 (cB G + 128) (fun _ _ => 0) 0 := DX_18B_128.frame (fun q9 hq9 hq8 => hup_at eh_19 (by omega))
  have WX_19_______134 : NW G h_19 (cB G + 134) (fun _ => 0) (fun _ => 0) (fun _ => 0) (fun _ => 0) (fun _ => 0) 0 := WX_18_______134.frame (fun q9 hq9 hq8 => hup_at eh_19 (by omega))
  have VX_19_______142 : LV G h_19 (cB G + 142) (fun _ => 0) (fun _ => 0) (fun _ _ => 0) 0 (fun _ => 0) (fun _ => 0) 0 0 := VX_18_______142.frame (fun q9 hq9 hq8 => hup_at eh_19 (by omega))
  change WP G mX10_init _ _ 14 24114 h_19 (cB G + 155) 90 [some (.ref (cB G))] [.ref (cB G + 154), .ref (cB G)]
  refine wp_dup dX10_init_90 rfl ?_
  refine wp_aload_n dX10_init_91 rfl ?_
  refine wp_get fkX10_10 dX10_init_92 c19_0 rfl ?_
  refine wp_callI (k2 := 0) (n2 := 20000) (n_Kept c19_1) ciX10_47 dX10_init_95 ⟨Nat.le_of_ble_eq_true rfl, Nat.le_of_ble_eq_true rfl⟩ (Nat.le_of_ble_eq_true rfl) rfl rfl (by omega) (by omega) (fun r h_20 N9 hq => ?_)
  obtain ⟨rfl, hN_20, p_20, f_20⟩ := hq
  rw [hN_20]
  have c20_0 := (f_20 _ (by omega)).trans c19_0
  have HF_20 : HP G S00 h_20 := HX_19.fr f_20 (by omega)
  have WF_20_______108 : NW G h_20 (cB G + 108) (fun _ => 0) (fun _ => 0) (fun _ => 0) (fun _ => 0) (fun _ => 0) 0 := WX_19_______108.frame (fun q9 hq9 hq8 => f_20 _ (by omega))
  have VF_20_______116 : LV G h_20 (cB G + 116) (fun _ => 0) (fun _ => 0) (fun _ _ => 0) 0 (fun _ => 0) (fun _ => 0) 0 0 := VX_19_______116.frame (fun q9 hq9 hq8 => f_20 _ (by omega))
  have DF_20 : LD G h_20 (cB G + 128) (fun _ _ => 0) 0 := DX_19B_128.frame (fun q9 hq9 hq8 => f_20 _ (by omega))
  have WF_20_______134 : NW G h_20 (cB G + 134) (fun _ => 0) (fun _ => 0) (fun _ => 0) (fun _ => 0) (fun _ => 0) 0 := WX_19_______134.frame (fun q9 hq9 hq8 => f_20 _ (by omega))
  have VF_20_______142 : LV G h_20 (cB G + 142) (fun _ => 0) (fun _ => 0) (fun _ _ => 0) 0 (fun _ => 0) (fun _ => 0) 0 0 := VX_19_______142.frame (fun q9 hq9 hq8 => f_20 _ (by omega))
  change WP G mX10_init _ _ 0 20000 h_20 (cB G + 169) 98 [some (.ref (cB G))] [.ref (cB G + 154), .ref (cB G)]
  refine wp_putF fkX10_48 dX10_init_98 rfl (fun r hr => by cases hr; rfl) c20_0 rfl rfl (Nat.le_of_ble_eq_true rfl) ?_
  obtain ⟨h_21, eh_21⟩ : ∃ hh9 : AH, hh9 = hup h_20 (cB G) (eO 10 [.ref (cB G + 1), .ref (cB G + 108), .ref (cB G + 116), .ref (cB G + 128), .ref (cB G + 134), .ref (cB G + 142), .ref (cB G + 154), JV 0]) := ⟨_, rfl⟩
  refine WP.heq eh_21 ?_
  have c21_0 : h_21 (cB G) = some (eO 10 [.ref (cB G + 1), .ref (cB G + 108), .ref (cB G + 116), .ref (cB G + 128), .ref (cB G + 134), .ref (cB G + 142), .ref (cB G + 154), JV 0]) := by rw [eh_21]; exact hup_self _ _ _
  have HX_21 : HP G S00 h_21 := HF_20.frame (fun q9 hq9 hq8 => hup_at eh_21 (by omega))
  have WX_21_______108 : NW G h_21 (cB G + 108) (fun _ => 0) (fun _ => 0) (fun _ => 0) (fun _ => 0) (fun _ => 0) 0 := WF_20_______108.frame (fun q9 hq9 hq8 => hup_at eh_21 (by omega))
  have VX_21_______116 : LV G h_21 (cB G + 116) (fun _ => 0) (fun _ => 0) (fun _ _ => 0) 0 (fun _ => 0) (fun _ => 0) 0 0 := VF_20_______116.frame (fun q9 hq9 hq8 => hup_at eh_21 (by omega))
  have DX_21B_128 : LD G h_21 (cB G + 128) (fun _ _ => 0) 0 := DF_20.frame (fun q9 hq9 hq8 => hup_at eh_21 (by omega))
  have WX_21_______134 : NW G h_21 (cB G + 134) (fun _ => 0) (fun _ => 0) (fun _ => 0) (fun _ => 0) (fun _ => 0) 0 := WF_20_______134.frame (fun q9 hq9 hq8 => hup_at eh_21 (by omega))
  have VX_21_______142 : LV G h_21 (cB G + 142) (fun _ => 0) (fun _ => 0) (fun _ _ => 0) 0 (fun _ => 0) (fun _ => 0) 0 0 := VF_20_______142.frame (fun q9 hq9 hq8 => hup_at eh_21 (by omega))
  have KX_21_______154 : KP G h_21 (cB G + 154) (fun _ => 0) (fun _ => 0) (fun _ => 0) (fun _ => 0) (fun _ => 31) (fun _ => 0) (fun _ _ => 0) := p_20.frame (fun q9 hq9 hq8 => hup_at eh_21 (by omega))
  refine wp_aload_n dX10_init_101 rfl ?_
  refine wp_iconst dX10_init_102 ?_
  refine wp_put fkX10_52 dX10_init_103 c21_0 rfl rfl (Nat.le_of_ble_eq_true rfl) ?_
  obtain ⟨h_22, eh_22⟩ : ∃ hh9 : AH, hh9 = hup h_21 (cB G) (eO 10 [.ref (cB G + 1), .ref (cB G + 108), .ref (cB G + 116), .ref (cB G + 128), .ref (cB G + 134), .ref (cB G + 142), .ref (cB G + 154), JV 1]) := ⟨_, rfl⟩
  refine WP.heq eh_22 ?_
  have c22_0 : h_22 (cB G) = some (eO 10 [.ref (cB G + 1), .ref (cB G + 108), .ref (cB G + 116), .ref (cB G + 128), .ref (cB G + 134), .ref (cB G + 142), .ref (cB G + 154), JV 1]) := by rw [eh_22]; exact hup_self _ _ _
  have HX_22 : HP G S00 h_22 := HX_21.frame (fun q9 hq9 hq8 => hup_at eh_22 (by omega))
  have WX_22_______108 : NW G h_22 (cB G + 108) (fun _ => 0) (fun _ => 0) (fun _ => 0) (fun _ => 0) (fun _ => 0) 0 := WX_21_______108.frame (fun q9 hq9 hq8 => hup_at eh_22 (by omega))
  have VX_22_______116 : LV G h_22 (cB G + 116) (fun _ => 0) (fun _ => 0) (fun _ _ => 0) 0 (fun _ => 0) (fun _ => 0) 0 0 := VX_21_______116.frame (fun q9 hq9 hq8 => hup_at eh_22 (by omega))
  have DX_22B_128 : LD G h_22 (cB G + 128) (fun _ _ => 0) 0 := DX_21B_128.frame (fun q9 hq9 hq8 => hup_at eh_22 (by omega))
  have WX_22_______134 : NW G h_22 (cB G + 134) (fun _ => 0) (fun _ => 0) (fun _ => 0) (fun _ => 0) (fun _ => 0) 0 := WX_21_______134.frame (fun q9 hq9 hq8 => hup_at eh_22 (by omega))
  have VX_22_______142 : LV G h_22 (cB G + 142) (fun _ => 0) (fun _ => 0) (fun _ _ => 0) 0 (fun _ => 0) (fun _ => 0) 0 0 := VX_21_______142.frame (fun q9 hq9 hq8 => hup_at eh_22 (by omega))
  have KX_22_______154 : KP G h_22 (cB G + 154) (fun _ => 0) (fun _ => 0) (fun _ => 0) (fun _ => 0) (fun _ => 31) (fun _ => 0) (fun _ _ => 0) := KX_21_______154.frame (fun q9 hq9 hq8 => hup_at eh_22 (by omega))
  refine wp_vret dX10_init_106 rfl ?_
  exact ⟨rfl, rfl, c22_0, HX_22, WX_22_______108, VX_22_______116, DX_22B_128, WX_22_______134, VX_22_______142, KX_22_______154⟩

end Cons

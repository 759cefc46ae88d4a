/-! ===== the law's own little methods: a call of the class, its answer kept in a cell, or the number of what it threw ===== -/
section Wr
variable {G : Ctx} {h : AH} {N : Nat} {st : Int} {Q Qc : PQ} {Xc : PX} {k1 n1 : Nat}
theorem L_setWeek {a1 a2 : Int} (hk1 : k1 ≤ 1) (hn1 : n1 ≤ 6) (hs : h (cB G) = some (cSP G st)) (c : CX G mX10_setWeek [.ref (cB G), JV a1, JV a2] h N k1 n1 Qc Xc) (hq : ∀ r h1 N1, Qc r h1 N1 → ∃ v : Int, r = some (JV v) ∧ ∃ o, h1 (cB G + 281) = some (eL G 1 o) ∧ Q (some (JV 0)) (hup h1 (cB G + 281) (eL G 1 (fup o 0 ((Int32.ofInt v).toInt64)))) N1) (hx : ∀ E h1 N1, Xc E h1 N1 → (E = x_ioobe ∧ Q (some (JV 1)) h1 N1) ∨ (E = x_iae ∧ Q (some (JV 2)) h1 N1)) : CH G mL_setWeek [.ref (cB G), JV a1, JV a2, .ref (cB G + 281)] h N 1 6 Q := by
  refine CH_of (by decide +kernel) (by simp [Value.category]) (Nat.le_of_ble_eq_true rfl) ?_
  change WP G mL_setWeek _ noX _ _ h N 0 [some (.ref (cB G)), some (JV a1), some (JV a2), some (.ref (cB G + 281)), none] []
  refine wp_aload_n dL_setWeek_0 rfl ?_
  refine wp_iconst dL_setWeek_1 ?_
  refine wp_aload_n dL_setWeek_2 rfl ?_
  refine wp_iload_n dL_setWeek_3 rfl ?_
  refine wp_iload_n dL_setWeek_4 rfl ?_
  refine wp_callVx (k2 := 0) (n2 := 0) c cvL_7 dL_setWeek_5 ⟨Nat.le_of_ble_eq_true rfl, Nat.le_of_ble_eq_true rfl⟩ (Nat.le_of_ble_eq_true rfl) hs rfl rfl rfl rfl (by omega) (by omega) (fun r h1 N1 q => ?_) (fun E h1 N1 q => ?_)
  · obtain ⟨v, rfl, o, ho, hQ⟩ := hq r h1 N1 q
    change WP G mL_setWeek _ noX _ _ h1 N1 8 [some (.ref (cB G)), some (JV a1), some (JV a2), some (.ref (cB G + 281)), none] [JV v, JV 0, .ref (cB G + 281)]
    refine wp_i2l dL_setWeek_8 ?_
    refine wp_lastore dL_setWeek_9 ho (by omega) (by omega) (by omega) ?_
    refine wp_goto 21 dL_setWeek_10 (by decide) ?_
    refine wp_iconst dL_setWeek_21 ?_
    refine wp_iret dL_setWeek_22 rfl ?_
    exact hQ
  · rcases hx E h1 N1 q with ⟨rfl, hQ⟩ | ⟨rfl, hQ⟩
    · refine VX_catch [] ⟨0, 10, 13, 13⟩ [⟨0, 10, 17, 15⟩] rfl (fun z hz => absurd hz List.not_mem_nil) (by decide) (by decide) clL_13 (by decide) (fun q9 => ?_)
      change WP G mL_setWeek _ noX _ _ h1 N1 13 [some (.ref (cB G)), some (JV a1), some (JV a2), some (.ref (cB G + 281)), none] [.ref q9]
      refine wp_astore dL_setWeek_13 (Nat.le_of_ble_eq_true rfl) rfl ?_
      refine wp_iconst dL_setWeek_15 ?_
      refine wp_iret dL_setWeek_16 rfl ?_
      exact hQ
    · refine VX_catch [⟨0, 10, 13, 13⟩] ⟨0, 10, 17, 15⟩ [] rfl (fun z hz => by
          simp only [List.mem_cons, List.not_mem_nil, or_false] at hz
          subst hz
          · exact ⟨by decide, _, clL_13, by decide⟩) (by decide) (by decide) clL_15 (by decide) (fun q9 => ?_)
      change WP G mL_setWeek _ noX _ _ h1 N1 17 [some (.ref (cB G)), some (JV a1), some (JV a2), some (.ref (cB G + 281)), none] [.ref q9]
      refine wp_astore dL_setWeek_17 (Nat.le_of_ble_eq_true rfl) rfl ?_
      refine wp_iconst dL_setWeek_19 ?_
      refine wp_iret dL_setWeek_20 rfl ?_
      exact hQ
theorem L_setFree {a1 a2 a3 : Int} (hk1 : k1 ≤ 1) (hn1 : n1 ≤ 6) (hs : h (cB G) = some (cSP G st)) (c : CX G mX10_setFree [.ref (cB G), JV a1, JV a2, JV a3] h N k1 n1 Qc Xc) (hq : ∀ r h1 N1, Qc r h1 N1 → ∃ v : Int, r = some (JV v) ∧ (v = 0 ∨ v = 1) ∧ ∃ o, h1 (cB G + 281) = some (eL G 1 o) ∧ Q (some (JV 0)) (hup h1 (cB G + 281) (eL G 1 (fup o 0 ((Int32.ofInt v).toInt64)))) N1) (hx : ∀ E h1 N1, Xc E h1 N1 → (E = x_ioobe ∧ Q (some (JV 1)) h1 N1) ∨ (E = x_iae ∧ Q (some (JV 2)) h1 N1) ∨ (E = x_ise ∧ Q (some (JV 3)) h1 N1)) : CH G mL_setFree [.ref (cB G), JV a1, JV a2, JV a3, .ref (cB G + 281)] h N 1 6 Q := by
  refine CH_of (by decide +kernel) (by simp [Value.category]) (Nat.le_of_ble_eq_true rfl) ?_
  change WP G mL_setFree _ noX _ _ h N 0 [some (.ref (cB G)), some (JV a1), some (JV a2), some (JV a3), some (.ref (cB G + 281)), none] []
  refine wp_aload dL_setFree_0 rfl ?_
  refine wp_iconst dL_setFree_2 ?_
  refine wp_aload_n dL_setFree_3 rfl ?_
  refine wp_iload_n dL_setFree_4 rfl ?_
  refine wp_iload_n dL_setFree_5 rfl ?_
  refine wp_iload_n dL_setFree_6 rfl ?_
  refine wp_callVx (k2 := 0) (n2 := 0) c cvL_17 dL_setFree_7 ⟨Nat.le_of_ble_eq_true rfl, Nat.le_of_ble_eq_true rfl⟩ (Nat.le_of_ble_eq_true rfl) hs rfl rfl rfl rfl (by omega) (by omega) (fun r h1 N1 q => ?_) (fun E h1 N1 q => ?_)
  · obtain ⟨v, rfl, hv, o, ho, hQ⟩ := hq r h1 N1 q
    change WP G mL_setFree _ noX _ _ h1 N1 10 [some (.ref (cB G)), some (JV a1), some (JV a2), some (JV a3), some (.ref (cB G + 281)), none] [JV v, JV 0, .ref (cB G + 281)]
    rcases hv with rfl | rfl
    · have hQ9 : Q (some (JV 0)) (hup h1 (cB G + 281) (eL G 1 (fup o (0 : Int).toNat (Int64.ofNat ((0 : Fin 2) : Nat))))) N1 := by
        have e : Int64.ofNat ((0 : Fin 2) : Nat) = (Int32.ofInt 0).toInt64 := by decide
        rw [e]; exact hQ
      refine wp_if_eq 17 dL_setFree_10 (by decide) ⟨by omega, by omega⟩ (fun c9 => ?_) (fun c9 => absurd rfl c9)
      refine wp_lconst dL_setFree_17 ?_
      refine wp_lastore dL_setFree_18 ho (by omega) (by omega) (by omega) ?_
      refine wp_goto 34 dL_setFree_19 (by decide) ?_
      refine wp_iconst dL_setFree_34 ?_
      refine wp_iret dL_setFree_35 rfl ?_
      exact hQ9
    · have hQ9 : Q (some (JV 0)) (hup h1 (cB G + 281) (eL G 1 (fup o (0 : Int).toNat (Int64.ofNat ((1 : Fin 2) : Nat))))) N1 := by
        have e : Int64.ofNat ((1 : Fin 2) : Nat) = (Int32.ofInt 1).toInt64 := by decide
        rw [e]; exact hQ
      refine wp_if_eq 17 dL_setFree_10 (by decide) ⟨by omega, by omega⟩ (fun c9 => absurd c9 (by decide)) (fun c9 => ?_)
      refine wp_lconst dL_setFree_13 ?_
      refine wp_goto 18 dL_setFree_14 (by decide) ?_
      refine wp_lastore dL_setFree_18 ho (by omega) (by omega) (by omega) ?_
      refine wp_goto 34 dL_setFree_19 (by decide) ?_
      refine wp_iconst dL_setFree_34 ?_
      refine wp_iret dL_setFree_35 rfl ?_
      exact hQ9
  · rcases hx E h1 N1 q with ⟨rfl, hQ⟩ | ⟨rfl, hQ⟩ | ⟨rfl, hQ⟩
    · refine VX_catch [] ⟨0, 19, 22, 13⟩ [⟨0, 19, 26, 15⟩, ⟨0, 19, 30, 21⟩] rfl (fun z hz => absurd hz List.not_mem_nil) (by decide) (by decide) clL_13 (by decide) (fun q9 => ?_)
      change WP G mL_setFree _ noX _ _ h1 N1 22 [some (.ref (cB G)), some (JV a1), some (JV a2), some (JV a3), some (.ref (cB G + 281)), none] [.ref q9]
      refine wp_astore dL_setFree_22 (Nat.le_of_ble_eq_true rfl) rfl ?_
      refine wp_iconst dL_setFree_24 ?_
      refine wp_iret dL_setFree_25 rfl ?_
      exact hQ
    · refine VX_catch [⟨0, 19, 22, 13⟩] ⟨0, 19, 26, 15⟩ [⟨0, 19, 30, 21⟩] rfl (fun z hz => by
          simp only [List.mem_cons, List.not_mem_nil, or_false] at hz
          subst hz
          · exact ⟨by decide, _, clL_13, by decide⟩) (by decide) (by decide) clL_15 (by decide) (fun q9 => ?_)
      change WP G mL_setFree _ noX _ _ h1 N1 26 [some (.ref (cB G)), some (JV a1), some (JV a2), some (JV a3), some (.ref (cB G + 281)), none] [.ref q9]
      refine wp_astore dL_setFree_26 (Nat.le_of_ble_eq_true rfl) rfl ?_
      refine wp_iconst dL_setFree_28 ?_
      refine wp_iret dL_setFree_29 rfl ?_
      exact hQ
    · refine VX_catch [⟨0, 19, 22, 13⟩, ⟨0, 19, 26, 15⟩] ⟨0, 19, 30, 21⟩ [] rfl (fun z hz => by
          simp only [List.mem_cons, List.not_mem_nil, or_false] at hz
          rcases hz with rfl | rfl
          · exact ⟨by decide, _, clL_13, by decide⟩
          · exact ⟨by decide, _, clL_15, by decide⟩) (by decide) (by decide) clL_21 (by decide) (fun q9 => ?_)
      change WP G mL_setFree _ noX _ _ h1 N1 30 [some (.ref (cB G)), some (JV a1), some (JV a2), some (JV a3), some (.ref (cB G + 281)), none] [.ref q9]
      refine wp_astore dL_setFree_30 (Nat.le_of_ble_eq_true rfl) rfl ?_
      refine wp_iconst dL_setFree_32 ?_
      refine wp_iret dL_setFree_33 rfl ?_
      exact hQ
theorem L_setCrew {a1 a2 a3 : Int} (hk1 : k1 ≤ 1) (hn1 : n1 ≤ 6) (hs : h (cB G) = some (cSP G st)) (c : CX G mX10_setCrew [.ref (cB G), JV a1, JV a2, JV a3] h N k1 n1 Qc Xc) (hq : ∀ r h1 N1, Qc r h1 N1 → ∃ v : Int, r = some (JV v) ∧ ∃ o, h1 (cB G + 281) = some (eL G 1 o) ∧ Q (some (JV 0)) (hup h1 (cB G + 281) (eL G 1 (fup o 0 ((Int32.ofInt v).toInt64)))) N1) (hx : ∀ E h1 N1, Xc E h1 N1 → (E = x_ioobe ∧ Q (some (JV 1)) h1 N1) ∨ (E = x_iae ∧ Q (some (JV 2)) h1 N1)) : CH G mL_setCrew [.ref (cB G), JV a1, JV a2, JV a3, .ref (cB G + 281)] h N 1 6 Q := by
  refine CH_of (by decide +kernel) (by simp [Value.category]) (Nat.le_of_ble_eq_true rfl) ?_
  change WP G mL_setCrew _ noX _ _ h N 0 [some (.ref (cB G)), some (JV a1), some (JV a2), some (JV a3), some (.ref (cB G + 281)), none] []
  refine wp_aload dL_setCrew_0 rfl ?_
  refine wp_iconst dL_setCrew_2 ?_
  refine wp_aload_n dL_setCrew_3 rfl ?_
  refine wp_iload_n dL_setCrew_4 rfl ?_
  refine wp_iload_n dL_setCrew_5 rfl ?_
  refine wp_iload_n dL_setCrew_6 rfl ?_
  refine wp_callVx (k2 := 0) (n2 := 0) c cvL_23 dL_setCrew_7 ⟨Nat.le_of_ble_eq_true rfl, Nat.le_of_ble_eq_true rfl⟩ (Nat.le_of_ble_eq_true rfl) hs rfl rfl rfl rfl (by omega) (by omega) (fun r h1 N1 q => ?_) (fun E h1 N1 q => ?_)
  · obtain ⟨v, rfl, o, ho, hQ⟩ := hq r h1 N1 q
    change WP G mL_setCrew _ noX _ _ h1 N1 10 [some (.ref (cB G)), some (JV a1), some (JV a2), some (JV a3), some (.ref (cB G + 281)), none] [JV v, JV 0, .ref (cB G + 281)]
    refine wp_i2l dL_setCrew_10 ?_
    refine wp_lastore dL_setCrew_11 ho (by omega) (by omega) (by omega) ?_
    refine wp_goto 23 dL_setCrew_12 (by decide) ?_
    refine wp_iconst dL_setCrew_23 ?_
    refine wp_iret dL_setCrew_24 rfl ?_
    exact hQ
  · rcases hx E h1 N1 q with ⟨rfl, hQ⟩ | ⟨rfl, hQ⟩
    · refine VX_catch [] ⟨0, 12, 15, 13⟩ [⟨0, 12, 19, 15⟩] rfl (fun z hz => absurd hz List.not_mem_nil) (by decide) (by decide) clL_13 (by decide) (fun q9 => ?_)
      change WP G mL_setCrew _ noX _ _ h1 N1 15 [some (.ref (cB G)), some (JV a1), some (JV a2), some (JV a3), some (.ref (cB G + 281)), none] [.ref q9]
      refine wp_astore dL_setCrew_15 (Nat.le_of_ble_eq_true rfl) rfl ?_
      refine wp_iconst dL_setCrew_17 ?_
      refine wp_iret dL_setCrew_18 rfl ?_
      exact hQ
    · refine VX_catch [⟨0, 12, 15, 13⟩] ⟨0, 12, 19, 15⟩ [] rfl (fun z hz => by
          simp only [List.mem_cons, List.not_mem_nil, or_false] at hz
          subst hz
          · exact ⟨by decide, _, clL_13, by decide⟩) (by decide) (by decide) clL_15 (by decide) (fun q9 => ?_)
      change WP G mL_setCrew _ noX _ _ h1 N1 19 [some (.ref (cB G)), some (JV a1), some (JV a2), some (JV a3), some (.ref (cB G + 281)), none] [.ref q9]
      refine wp_astore dL_setCrew_19 (Nat.le_of_ble_eq_true rfl) rfl ?_
      refine wp_iconst dL_setCrew_21 ?_
      refine wp_iret dL_setCrew_22 rfl ?_
      exact hQ
theorem L_addTask {a1 a2 : Int} (hk1 : k1 ≤ 1) (hn1 : n1 ≤ 6) (hs : h (cB G) = some (cSP G st)) (c : CX G mX10_addTask [.ref (cB G), JV a1, JV a2] h N k1 n1 Qc Xc) (hq : ∀ r h1 N1, Qc r h1 N1 → ∃ v : Int, r = some (JV v) ∧ ∃ o, h1 (cB G + 281) = some (eL G 1 o) ∧ Q (some (JV 0)) (hup h1 (cB G + 281) (eL G 1 (fup o 0 ((Int32.ofInt v).toInt64)))) N1) (hx : ∀ E h1 N1, Xc E h1 N1 → (E = x_ioobe ∧ Q (some (JV 1)) h1 N1) ∨ (E = x_iae ∧ Q (some (JV 2)) h1 N1) ∨ (E = x_ise ∧ Q (some (JV 3)) h1 N1)) : CH G mL_addTask [.ref (cB G), JV a1, JV a2, .ref (cB G + 281)] h N 1 6 Q := by
  refine CH_of (by decide +kernel) (by simp [Value.category]) (Nat.le_of_ble_eq_true rfl) ?_
  change WP G mL_addTask _ noX _ _ h N 0 [some (.ref (cB G)), some (JV a1), some (JV a2), some (.ref (cB G + 281)), none] []
  refine wp_aload_n dL_addTask_0 rfl ?_
  refine wp_iconst dL_addTask_1 ?_
  refine wp_aload_n dL_addTask_2 rfl ?_
  refine wp_iload_n dL_addTask_3 rfl ?_
  refine wp_iload_n dL_addTask_4 rfl ?_
  refine wp_callVx (k2 := 0) (n2 := 0) c cvL_27 dL_addTask_5 ⟨Nat.le_of_ble_eq_true rfl, Nat.le_of_ble_eq_true rfl⟩ (Nat.le_of_ble_eq_true rfl) hs rfl rfl rfl rfl (by omega) (by omega) (fun r h1 N1 q => ?_) (fun E h1 N1 q => ?_)
  · obtain ⟨v, rfl, o, ho, hQ⟩ := hq r h1 N1 q
    change WP G mL_addTask _ noX _ _ h1 N1 8 [some (.ref (cB G)), some (JV a1), some (JV a2), some (.ref (cB G + 281)), none] [JV v, JV 0, .ref (cB G + 281)]
    refine wp_i2l dL_addTask_8 ?_
    refine wp_lastore dL_addTask_9 ho (by omega) (by omega) (by omega) ?_
    refine wp_goto 25 dL_addTask_10 (by decide) ?_
    refine wp_iconst dL_addTask_25 ?_
    refine wp_iret dL_addTask_26 rfl ?_
    exact hQ
  · rcases hx E h1 N1 q with ⟨rfl, hQ⟩ | ⟨rfl, hQ⟩ | ⟨rfl, hQ⟩
    · refine VX_catch [] ⟨0, 10, 13, 13⟩ [⟨0, 10, 17, 15⟩, ⟨0, 10, 21, 21⟩] rfl (fun z hz => absurd hz List.not_mem_nil) (by decide) (by decide) clL_13 (by decide) (fun q9 => ?_)
      change WP G mL_addTask _ noX _ _ h1 N1 13 [some (.ref (cB G)), some (JV a1), some (JV a2), some (.ref (cB G + 281)), none] [.ref q9]
      refine wp_astore dL_addTask_13 (Nat.le_of_ble_eq_true rfl) rfl ?_
      refine wp_iconst dL_addTask_15 ?_
      refine wp_iret dL_addTask_16 rfl ?_
      exact hQ
    · refine VX_catch [⟨0, 10, 13, 13⟩] ⟨0, 10, 17, 15⟩ [⟨0, 10, 21, 21⟩] rfl (fun z hz => by
          simp only [List.mem_cons, List.not_mem_nil, or_false] at hz
          subst hz
          · exact ⟨by decide, _, clL_13, by decide⟩) (by decide) (by decide) clL_15 (by decide) (fun q9 => ?_)
      change WP G mL_addTask _ noX _ _ h1 N1 17 [some (.ref (cB G)), some (JV a1), some (JV a2), some (.ref (cB G + 281)), none] [.ref q9]
      refine wp_astore dL_addTask_17 (Nat.le_of_ble_eq_true rfl) rfl ?_
      refine wp_iconst dL_addTask_19 ?_
      refine wp_iret dL_addTask_20 rfl ?_
      exact hQ
    · refine VX_catch [⟨0, 10, 13, 13⟩, ⟨0, 10, 17, 15⟩] ⟨0, 10, 21, 21⟩ [] rfl (fun z hz => by
          simp only [List.mem_cons, List.not_mem_nil, or_false] at hz
          rcases hz with rfl | rfl
          · exact ⟨by decide, _, clL_13, by decide⟩
          · exact ⟨by decide, _, clL_15, by decide⟩) (by decide) (by decide) clL_21 (by decide) (fun q9 => ?_)
      change WP G mL_addTask _ noX _ _ h1 N1 21 [some (.ref (cB G)), some (JV a1), some (JV a2), some (.ref (cB G + 281)), none] [.ref q9]
      refine wp_astore dL_addTask_21 (Nat.le_of_ble_eq_true rfl) rfl ?_
      refine wp_iconst dL_addTask_23 ?_
      refine wp_iret dL_addTask_24 rfl ?_
      exact hQ
theorem L_setLength {a1 a2 : Int} (hk1 : k1 ≤ 1) (hn1 : n1 ≤ 6) (hs : h (cB G) = some (cSP G st)) (c : CX G mX10_setLength [.ref (cB G), JV a1, JV a2] h N k1 n1 Qc Xc) (hq : ∀ r h1 N1, Qc r h1 N1 → ∃ v : Int, r = some (JV v) ∧ ∃ o, h1 (cB G + 281) = some (eL G 1 o) ∧ Q (some (JV 0)) (hup h1 (cB G + 281) (eL G 1 (fup o 0 ((Int32.ofInt v).toInt64)))) N1) (hx : ∀ E h1 N1, Xc E h1 N1 → (E = x_ioobe ∧ Q (some (JV 1)) h1 N1) ∨ (E = x_iae ∧ Q (some (JV 2)) h1 N1)) : CH G mL_setLength [.ref (cB G), JV a1, JV a2, .ref (cB G + 281)] h N 1 6 Q := by
  refine CH_of (by decide +kernel) (by simp [Value.category]) (Nat.le_of_ble_eq_true rfl) ?_
  change WP G mL_setLength _ noX _ _ h N 0 [some (.ref (cB G)), some (JV a1), some (JV a2), some (.ref (cB G + 281)), none] []
  refine wp_aload_n dL_setLength_0 rfl ?_
  refine wp_iconst dL_setLength_1 ?_
  refine wp_aload_n dL_setLength_2 rfl ?_
  refine wp_iload_n dL_setLength_3 rfl ?_
  refine wp_iload_n dL_setLength_4 rfl ?_
  refine wp_callVx (k2 := 0) (n2 := 0) c cvL_30 dL_setLength_5 ⟨Nat.le_of_ble_eq_true rfl, Nat.le_of_ble_eq_true rfl⟩ (Nat.le_of_ble_eq_true rfl) hs rfl rfl rfl rfl (by omega) (by omega) (fun r h1 N1 q => ?_) (fun E h1 N1 q => ?_)
  · obtain ⟨v, rfl, o, ho, hQ⟩ := hq r h1 N1 q
    change WP G mL_setLength _ noX _ _ h1 N1 8 [some (.ref (cB G)), some (JV a1), some (JV a2), some (.ref (cB G + 281)), none] [JV v, JV 0, .ref (cB G + 281)]
    refine wp_i2l dL_setLength_8 ?_
    refine wp_lastore dL_setLength_9 ho (by omega) (by omega) (by omega) ?_
    refine wp_goto 21 dL_setLength_10 (by decide) ?_
    refine wp_iconst dL_setLength_21 ?_
    refine wp_iret dL_setLength_22 rfl ?_
    exact hQ
  · rcases hx E h1 N1 q with ⟨rfl, hQ⟩ | ⟨rfl, hQ⟩
    · refine VX_catch [] ⟨0, 10, 13, 13⟩ [⟨0, 10, 17, 15⟩] rfl (fun z hz => absurd hz List.not_mem_nil) (by decide) (by decide) clL_13 (by decide) (fun q9 => ?_)
      change WP G mL_setLength _ noX _ _ h1 N1 13 [some (.ref (cB G)), some (JV a1), some (JV a2), some (.ref (cB G + 281)), none] [.ref q9]
      refine wp_astore dL_setLength_13 (Nat.le_of_ble_eq_true rfl) rfl ?_
      refine wp_iconst dL_setLength_15 ?_
      refine wp_iret dL_setLength_16 rfl ?_
      exact hQ
    · refine VX_catch [⟨0, 10, 13, 13⟩] ⟨0, 10, 17, 15⟩ [] rfl (fun z hz => by
          simp only [List.mem_cons, List.not_mem_nil, or_false] at hz
          subst hz
          · exact ⟨by decide, _, clL_13, by decide⟩) (by decide) (by decide) clL_15 (by decide) (fun q9 => ?_)
      change WP G mL_setLength _ noX _ _ h1 N1 17 [some (.ref (cB G)), some (JV a1), some (JV a2), some (.ref (cB G + 281)), none] [.ref q9]
      refine wp_astore dL_setLength_17 (Nat.le_of_ble_eq_true rfl) rfl ?_
      refine wp_iconst dL_setLength_19 ?_
      refine wp_iret dL_setLength_20 rfl ?_
      exact hQ
theorem L_setTerms {a1 a2 a3 : Int} (hk1 : k1 ≤ 1) (hn1 : n1 ≤ 6) (hs : h (cB G) = some (cSP G st)) (c : CX G mX10_setTerms [.ref (cB G), JV a1, JV a2, JV a3] h N k1 n1 Qc Xc) (hq : ∀ r h1 N1, Qc r h1 N1 → ∃ v : Int, r = some (JV v) ∧ ∃ o, h1 (cB G + 281) = some (eL G 1 o) ∧ Q (some (JV 0)) (hup h1 (cB G + 281) (eL G 1 (fup o 0 ((Int32.ofInt v).toInt64)))) N1) (hx : ∀ E h1 N1, Xc E h1 N1 → (E = x_ioobe ∧ Q (some (JV 1)) h1 N1) ∨ (E = x_iae ∧ Q (some (JV 2)) h1 N1)) : CH G mL_setTerms [.ref (cB G), JV a1, JV a2, JV a3, .ref (cB G + 281)] h N 1 6 Q := by
  refine CH_of (by decide +kernel) (by simp [Value.category]) (Nat.le_of_ble_eq_true rfl) ?_
  change WP G mL_setTerms _ noX _ _ h N 0 [some (.ref (cB G)), some (JV a1), some (JV a2), some (JV a3), some (.ref (cB G + 281)), none] []
  refine wp_aload dL_setTerms_0 rfl ?_
  refine wp_iconst dL_setTerms_2 ?_
  refine wp_aload_n dL_setTerms_3 rfl ?_
  refine wp_iload_n dL_setTerms_4 rfl ?_
  refine wp_iload_n dL_setTerms_5 rfl ?_
  refine wp_iload_n dL_setTerms_6 rfl ?_
  refine wp_callVx (k2 := 0) (n2 := 0) c cvL_33 dL_setTerms_7 ⟨Nat.le_of_ble_eq_true rfl, Nat.le_of_ble_eq_true rfl⟩ (Nat.le_of_ble_eq_true rfl) hs rfl rfl rfl rfl (by omega) (by omega) (fun r h1 N1 q => ?_) (fun E h1 N1 q => ?_)
  · obtain ⟨v, rfl, o, ho, hQ⟩ := hq r h1 N1 q
    change WP G mL_setTerms _ noX _ _ h1 N1 10 [some (.ref (cB G)), some (JV a1), some (JV a2), some (JV a3), some (.ref (cB G + 281)), none] [JV v, JV 0, .ref (cB G + 281)]
    refine wp_i2l dL_setTerms_10 ?_
    refine wp_lastore dL_setTerms_11 ho (by omega) (by omega) (by omega) ?_
    refine wp_goto 23 dL_setTerms_12 (by decide) ?_
    refine wp_iconst dL_setTerms_23 ?_
    refine wp_iret dL_setTerms_24 rfl ?_
    exact hQ
  · rcases hx E h1 N1 q with ⟨rfl, hQ⟩ | ⟨rfl, hQ⟩
    · refine VX_catch [] ⟨0, 12, 15, 13⟩ [⟨0, 12, 19, 15⟩] rfl (fun z hz => absurd hz List.not_mem_nil) (by decide) (by decide) clL_13 (by decide) (fun q9 => ?_)
      change WP G mL_setTerms _ noX _ _ h1 N1 15 [some (.ref (cB G)), some (JV a1), some (JV a2), some (JV a3), some (.ref (cB G + 281)), none] [.ref q9]
      refine wp_astore dL_setTerms_15 (Nat.le_of_ble_eq_true rfl) rfl ?_
      refine wp_iconst dL_setTerms_17 ?_
      refine wp_iret dL_setTerms_18 rfl ?_
      exact hQ
    · refine VX_catch [⟨0, 12, 15, 13⟩] ⟨0, 12, 19, 15⟩ [] rfl (fun z hz => by
          simp only [List.mem_cons, List.not_mem_nil, or_false] at hz
          subst hz
          · exact ⟨by decide, _, clL_13, by decide⟩) (by decide) (by decide) clL_15 (by decide) (fun q9 => ?_)
      change WP G mL_setTerms _ noX _ _ h1 N1 19 [some (.ref (cB G)), some (JV a1), some (JV a2), some (JV a3), some (.ref (cB G + 281)), none] [.ref q9]
      refine wp_astore dL_setTerms_19 (Nat.le_of_ble_eq_true rfl) rfl ?_
      refine wp_iconst dL_setTerms_21 ?_
      refine wp_iret dL_setTerms_22 rfl ?_
      exact hQ
theorem L_setNeed {a1 a2 a3 : Int} (hk1 : k1 ≤ 1) (hn1 : n1 ≤ 6) (hs : h (cB G) = some (cSP G st)) (c : CX G mX10_setNeed [.ref (cB G), JV a1, JV a2, JV a3] h N k1 n1 Qc Xc) (hq : ∀ r h1 N1, Qc r h1 N1 → ∃ v : Int, r = some (JV v) ∧ ∃ o, h1 (cB G + 281) = some (eL G 1 o) ∧ Q (some (JV 0)) (hup h1 (cB G + 281) (eL G 1 (fup o 0 ((Int32.ofInt v).toInt64)))) N1) (hx : ∀ E h1 N1, Xc E h1 N1 → (E = x_ioobe ∧ Q (some (JV 1)) h1 N1) ∨ (E = x_iae ∧ Q (some (JV 2)) h1 N1)) : CH G mL_setNeed [.ref (cB G), JV a1, JV a2, JV a3, .ref (cB G + 281)] h N 1 6 Q := by
  refine CH_of (by decide +kernel) (by simp [Value.category]) (Nat.le_of_ble_eq_true rfl) ?_
  change WP G mL_setNeed _ noX _ _ h N 0 [some (.ref (cB G)), some (JV a1), some (JV a2), some (JV a3), some (.ref (cB G + 281)), none] []
  refine wp_aload dL_setNeed_0 rfl ?_
  refine wp_iconst dL_setNeed_2 ?_
  refine wp_aload_n dL_setNeed_3 rfl ?_
  refine wp_iload_n dL_setNeed_4 rfl ?_
  refine wp_iload_n dL_setNeed_5 rfl ?_
  refine wp_iload_n dL_setNeed_6 rfl ?_
  refine wp_callVx (k2 := 0) (n2 := 0) c cvL_36 dL_setNeed_7 ⟨Nat.le_of_ble_eq_true rfl, Nat.le_of_ble_eq_true rfl⟩ (Nat.le_of_ble_eq_true rfl) hs rfl rfl rfl rfl (by omega) (by omega) (fun r h1 N1 q => ?_) (fun E h1 N1 q => ?_)
  · obtain ⟨v, rfl, o, ho, hQ⟩ := hq r h1 N1 q
    change WP G mL_setNeed _ noX _ _ h1 N1 10 [some (.ref (cB G)), some (JV a1), some (JV a2), some (JV a3), some (.ref (cB G + 281)), none] [JV v, JV 0, .ref (cB G + 281)]
    refine wp_i2l dL_setNeed_10 ?_
    refine wp_lastore dL_setNeed_11 ho (by omega) (by omega) (by omega) ?_
    refine wp_goto 23 dL_setNeed_12 (by decide) ?_
    refine wp_iconst dL_setNeed_23 ?_
    refine wp_iret dL_setNeed_24 rfl ?_
    exact hQ
  · rcases hx E h1 N1 q with ⟨rfl, hQ⟩ | ⟨rfl, hQ⟩
    · refine VX_catch [] ⟨0, 12, 15, 13⟩ [⟨0, 12, 19, 15⟩] rfl (fun z hz => absurd hz List.not_mem_nil) (by decide) (by decide) clL_13 (by decide) (fun q9 => ?_)
      change WP G mL_setNeed _ noX _ _ h1 N1 15 [some (.ref (cB G)), some (JV a1), some (JV a2), some (JV a3), some (.ref (cB G + 281)), none] [.ref q9]
      refine wp_astore dL_setNeed_15 (Nat.le_of_ble_eq_true rfl) rfl ?_
      refine wp_iconst dL_setNeed_17 ?_
      refine wp_iret dL_setNeed_18 rfl ?_
      exact hQ
    · refine VX_catch [⟨0, 12, 15, 13⟩] ⟨0, 12, 19, 15⟩ [] rfl (fun z hz => by
          simp only [List.mem_cons, List.not_mem_nil, or_false] at hz
          subst hz
          · exact ⟨by decide, _, clL_13, by decide⟩) (by decide) (by decide) clL_15 (by decide) (fun q9 => ?_)
      change WP G mL_setNeed _ noX _ _ h1 N1 19 [some (.ref (cB G)), some (JV a1), some (JV a2), some (JV a3), some (.ref (cB G + 281)), none] [.ref q9]
      refine wp_astore dL_setNeed_19 (Nat.le_of_ble_eq_true rfl) rfl ?_
      refine wp_iconst dL_setNeed_21 ?_
      refine wp_iret dL_setNeed_22 rfl ?_
      exact hQ
theorem L_link {a1 a2 a3 a4 : Int} (hk1 : k1 ≤ 1) (hn1 : n1 ≤ 6) (hs : h (cB G) = some (cSP G st)) (c : CX G mX10_link [.ref (cB G), JV a1, JV a2, JV a3, JV a4] h N k1 n1 Qc Xc) (hq : ∀ r h1 N1, Qc r h1 N1 → ∃ v : Int, r = some (JV v) ∧ ∃ o, h1 (cB G + 281) = some (eL G 1 o) ∧ Q (some (JV 0)) (hup h1 (cB G + 281) (eL G 1 (fup o 0 ((Int32.ofInt v).toInt64)))) N1) (hx : ∀ E h1 N1, Xc E h1 N1 → (E = x_ioobe ∧ Q (some (JV 1)) h1 N1) ∨ (E = x_iae ∧ Q (some (JV 2)) h1 N1) ∨ (E = x_ise ∧ Q (some (JV 3)) h1 N1)) : CH G mL_link [.ref (cB G), JV a1, JV a2, JV a3, JV a4, .ref (cB G + 281)] h N 1 6 Q := by
  refine CH_of (by decide +kernel) (by simp [Value.category]) (Nat.le_of_ble_eq_true rfl) ?_
  change WP G mL_link _ noX _ _ h N 0 [some (.ref (cB G)), some (JV a1), some (JV a2), some (JV a3), some (JV a4), some (.ref (cB G + 281)), none] []
  refine wp_aload dL_link_0 rfl ?_
  refine wp_iconst dL_link_2 ?_
  refine wp_aload_n dL_link_3 rfl ?_
  refine wp_iload_n dL_link_4 rfl ?_
  refine wp_iload_n dL_link_5 rfl ?_
  refine wp_iload_n dL_link_6 rfl ?_
  refine wp_iload dL_link_7 rfl ?_
  refine wp_callVx (k2 := 0) (n2 := 0) c cvL_39 dL_link_9 ⟨Nat.le_of_ble_eq_true rfl, Nat.le_of_ble_eq_true rfl⟩ (Nat.le_of_ble_eq_true rfl) hs rfl rfl rfl rfl (by omega) (by omega) (fun r h1 N1 q => ?_) (fun E h1 N1 q => ?_)
  · obtain ⟨v, rfl, o, ho, hQ⟩ := hq r h1 N1 q
    change WP G mL_link _ noX _ _ h1 N1 12 [some (.ref (cB G)), some (JV a1), some (JV a2), some (JV a3), some (JV a4), some (.ref (cB G + 281)), none] [JV v, JV 0, .ref (cB G + 281)]
    refine wp_i2l dL_link_12 ?_
    refine wp_lastore dL_link_13 ho (by omega) (by omega) (by omega) ?_
    refine wp_goto 29 dL_link_14 (by decide) ?_
    refine wp_iconst dL_link_29 ?_
    refine wp_iret dL_link_30 rfl ?_
    exact hQ
  · rcases hx E h1 N1 q with ⟨rfl, hQ⟩ | ⟨rfl, hQ⟩ | ⟨rfl, hQ⟩
    · refine VX_catch [] ⟨0, 14, 17, 13⟩ [⟨0, 14, 21, 15⟩, ⟨0, 14, 25, 21⟩] rfl (fun z hz => absurd hz List.not_mem_nil) (by decide) (by decide) clL_13 (by decide) (fun q9 => ?_)
      change WP G mL_link _ noX _ _ h1 N1 17 [some (.ref (cB G)), some (JV a1), some (JV a2), some (JV a3), some (JV a4), some (.ref (cB G + 281)), none] [.ref q9]
      refine wp_astore dL_link_17 (Nat.le_of_ble_eq_true rfl) rfl ?_
      refine wp_iconst dL_link_19 ?_
      refine wp_iret dL_link_20 rfl ?_
      exact hQ
    · refine VX_catch [⟨0, 14, 17, 13⟩] ⟨0, 14, 21, 15⟩ [⟨0, 14, 25, 21⟩] rfl (fun z hz => by
          simp only [List.mem_cons, List.not_mem_nil, or_false] at hz
          subst hz
          · exact ⟨by decide, _, clL_13, by decide⟩) (by decide) (by decide) clL_15 (by decide) (fun q9 => ?_)
      change WP G mL_link _ noX _ _ h1 N1 21 [some (.ref (cB G)), some (JV a1), some (JV a2), some (JV a3), some (JV a4), some (.ref (cB G + 281)), none] [.ref q9]
      refine wp_astore dL_link_21 (Nat.le_of_ble_eq_true rfl) rfl ?_
      refine wp_iconst dL_link_23 ?_
      refine wp_iret dL_link_24 rfl ?_
      exact hQ
    · refine VX_catch [⟨0, 14, 17, 13⟩, ⟨0, 14, 21, 15⟩] ⟨0, 14, 25, 21⟩ [] rfl (fun z hz => by
          simp only [List.mem_cons, List.not_mem_nil, or_false] at hz
          rcases hz with rfl | rfl
          · exact ⟨by decide, _, clL_13, by decide⟩
          · exact ⟨by decide, _, clL_15, by decide⟩) (by decide) (by decide) clL_21 (by decide) (fun q9 => ?_)
      change WP G mL_link _ noX _ _ h1 N1 25 [some (.ref (cB G)), some (JV a1), some (JV a2), some (JV a3), some (JV a4), some (.ref (cB G + 281)), none] [.ref q9]
      refine wp_astore dL_link_25 (Nat.le_of_ble_eq_true rfl) rfl ?_
      refine wp_iconst dL_link_27 ?_
      refine wp_iret dL_link_28 rfl ?_
      exact hQ
theorem L_drop {a1 : Int} (hk1 : k1 ≤ 1) (hn1 : n1 ≤ 6) (hs : h (cB G) = some (cSP G st)) (c : CX G mX10_drop [.ref (cB G), JV a1] h N k1 n1 Qc Xc) (hq : ∀ r h1 N1, Qc r h1 N1 → ∃ v : Int, r = some (JV v) ∧ ∃ o, h1 (cB G + 281) = some (eL G 1 o) ∧ Q (some (JV 0)) (hup h1 (cB G + 281) (eL G 1 (fup o 0 ((Int32.ofInt v).toInt64)))) N1) (hx : ∀ E h1 N1, Xc E h1 N1 → (E = x_ioobe ∧ Q (some (JV 1)) h1 N1)) : CH G mL_drop [.ref (cB G), JV a1, .ref (cB G + 281)] h N 1 6 Q := by
  refine CH_of (by decide +kernel) (by simp [Value.category]) (Nat.le_of_ble_eq_true rfl) ?_
  change WP G mL_drop _ noX _ _ h N 0 [some (.ref (cB G)), some (JV a1), some (.ref (cB G + 281)), none] []
  refine wp_aload_n dL_drop_0 rfl ?_
  refine wp_iconst dL_drop_1 ?_
  refine wp_aload_n dL_drop_2 rfl ?_
  refine wp_iload_n dL_drop_3 rfl ?_
  refine wp_callVx (k2 := 0) (n2 := 0) c cvL_43 dL_drop_4 ⟨Nat.le_of_ble_eq_true rfl, Nat.le_of_ble_eq_true rfl⟩ (Nat.le_of_ble_eq_true rfl) hs rfl rfl rfl rfl (by omega) (by omega) (fun r h1 N1 q => ?_) (fun E h1 N1 q => ?_)
  · obtain ⟨v, rfl, o, ho, hQ⟩ := hq r h1 N1 q
    change WP G mL_drop _ noX _ _ h1 N1 7 [some (.ref (cB G)), some (JV a1), some (.ref (cB G + 281)), none] [JV v, JV 0, .ref (cB G + 281)]
    refine wp_i2l dL_drop_7 ?_
    refine wp_lastore dL_drop_8 ho (by omega) (by omega) (by omega) ?_
    refine wp_goto 15 dL_drop_9 (by decide) ?_
    refine wp_iconst dL_drop_15 ?_
    refine wp_iret dL_drop_16 rfl ?_
    exact hQ
  · obtain ⟨rfl, hQ⟩ := hx E h1 N1 q
    refine VX_catch [] ⟨0, 9, 12, 13⟩ [] rfl (fun z hz => absurd hz List.not_mem_nil) (by decide) (by decide) clL_13 (by decide) (fun q9 => ?_)
    change WP G mL_drop _ noX _ _ h1 N1 12 [some (.ref (cB G)), some (JV a1), some (.ref (cB G + 281)), none] [.ref q9]
    refine wp_astore_n dL_drop_12 (Nat.le_of_ble_eq_true rfl) rfl ?_
    refine wp_iconst dL_drop_13 ?_
    refine wp_iret dL_drop_14 rfl ?_
    exact hQ
theorem L_finish {a1 a2 a3 : Int} (hk1 : k1 ≤ 1) (hn1 : n1 ≤ 6) (hs : h (cB G) = some (cSP G st)) (c : CX G mX10_finish [.ref (cB G), JV a1, JV a2, JV a3] h N k1 n1 Qc Xc) (hq : ∀ r h1 N1, Qc r h1 N1 → ∃ v : Int, r = some (JV v) ∧ (v = 0 ∨ v = 1) ∧ ∃ o, h1 (cB G + 281) = some (eL G 1 o) ∧ Q (some (JV 0)) (hup h1 (cB G + 281) (eL G 1 (fup o 0 ((Int32.ofInt v).toInt64)))) N1) (hx : ∀ E h1 N1, Xc E h1 N1 → (E = x_ioobe ∧ Q (some (JV 1)) h1 N1) ∨ (E = x_iae ∧ Q (some (JV 2)) h1 N1)) : CH G mL_finish [.ref (cB G), JV a1, JV a2, JV a3, .ref (cB G + 281)] h N 1 6 Q := by
  refine CH_of (by decide +kernel) (by simp [Value.category]) (Nat.le_of_ble_eq_true rfl) ?_
  change WP G mL_finish _ noX _ _ h N 0 [some (.ref (cB G)), some (JV a1), some (JV a2), some (JV a3), some (.ref (cB G + 281)), none] []
  refine wp_aload dL_finish_0 rfl ?_
  refine wp_iconst dL_finish_2 ?_
  refine wp_aload_n dL_finish_3 rfl ?_
  refine wp_iload_n dL_finish_4 rfl ?_
  refine wp_iload_n dL_finish_5 rfl ?_
  refine wp_iload_n dL_finish_6 rfl ?_
  refine wp_callVx (k2 := 0) (n2 := 0) c cvL_47 dL_finish_7 ⟨Nat.le_of_ble_eq_true rfl, Nat.le_of_ble_eq_true rfl⟩ (Nat.le_of_ble_eq_true rfl) hs rfl rfl rfl rfl (by omega) (by omega) (fun r h1 N1 q => ?_) (fun E h1 N1 q => ?_)
  · obtain ⟨v, rfl, hv, o, ho, hQ⟩ := hq r h1 N1 q
    change WP G mL_finish _ noX _ _ h1 N1 10 [some (.ref (cB G)), some (JV a1), some (JV a2), some (JV a3), some (.ref (cB G + 281)), none] [JV v, JV 0, .ref (cB G + 281)]
    rcases hv with rfl | rfl
    · have hQ9 : Q (some (JV 0)) (hup h1 (cB G + 281) (eL G 1 (fup o (0 : Int).toNat (Int64.ofNat ((0 : Fin 2) : Nat))))) N1 := by
        have e : Int64.ofNat ((0 : Fin 2) : Nat) = (Int32.ofInt 0).toInt64 := by decide
        rw [e]; exact hQ
      refine wp_if_eq 17 dL_finish_10 (by decide) ⟨by omega, by omega⟩ (fun c9 => ?_) (fun c9 => absurd rfl c9)
      refine wp_lconst dL_finish_17 ?_
      refine wp_lastore dL_finish_18 ho (by omega) (by omega) (by omega) ?_
      refine wp_goto 30 dL_finish_19 (by decide) ?_
      refine wp_iconst dL_finish_30 ?_
      refine wp_iret dL_finish_31 rfl ?_
      exact hQ9
    · have hQ9 : Q (some (JV 0)) (hup h1 (cB G + 281) (eL G 1 (fup o (0 : Int).toNat (Int64.ofNat ((1 : Fin 2) : Nat))))) N1 := by
        have e : Int64.ofNat ((1 : Fin 2) : Nat) = (Int32.ofInt 1).toInt64 := by decide
        rw [e]; exact hQ
      refine wp_if_eq 17 dL_finish_10 (by decide) ⟨by omega, by omega⟩ (fun c9 => absurd c9 (by decide)) (fun c9 => ?_)
      refine wp_lconst dL_finish_13 ?_
      refine wp_goto 18 dL_finish_14 (by decide) ?_
      refine wp_lastore dL_finish_18 ho (by omega) (by omega) (by omega) ?_
      refine wp_goto 30 dL_finish_19 (by decide) ?_
      refine wp_iconst dL_finish_30 ?_
      refine wp_iret dL_finish_31 rfl ?_
      exact hQ9
  · rcases hx E h1 N1 q with ⟨rfl, hQ⟩ | ⟨rfl, hQ⟩
    · refine VX_catch [] ⟨0, 19, 22, 13⟩ [⟨0, 19, 26, 15⟩] rfl (fun z hz => absurd hz List.not_mem_nil) (by decide) (by decide) clL_13 (by decide) (fun q9 => ?_)
      change WP G mL_finish _ noX _ _ h1 N1 22 [some (.ref (cB G)), some (JV a1), some (JV a2), some (JV a3), some (.ref (cB G + 281)), none] [.ref q9]
      refine wp_astore dL_finish_22 (Nat.le_of_ble_eq_true rfl) rfl ?_
      refine wp_iconst dL_finish_24 ?_
      refine wp_iret dL_finish_25 rfl ?_
      exact hQ
    · refine VX_catch [⟨0, 19, 22, 13⟩] ⟨0, 19, 26, 15⟩ [] rfl (fun z hz => by
          simp only [List.mem_cons, List.not_mem_nil, or_false] at hz
          subst hz
          · exact ⟨by decide, _, clL_13, by decide⟩) (by decide) (by decide) clL_15 (by decide) (fun q9 => ?_)
      change WP G mL_finish _ noX _ _ h1 N1 26 [some (.ref (cB G)), some (JV a1), some (JV a2), some (JV a3), some (.ref (cB G + 281)), none] [.ref q9]
      refine wp_astore dL_finish_26 (Nat.le_of_ble_eq_true rfl) rfl ?_
      refine wp_iconst dL_finish_28 ?_
      refine wp_iret dL_finish_29 rfl ?_
      exact hQ
theorem L_reopen {a1 : Int} (hk1 : k1 ≤ 1) (hn1 : n1 ≤ 6) (hs : h (cB G) = some (cSP G st)) (c : CX G mX10_reopen [.ref (cB G), JV a1] h N k1 n1 Qc Xc) (hq : ∀ r h1 N1, Qc r h1 N1 → ∃ v : Int, r = some (JV v) ∧ (v = 0 ∨ v = 1) ∧ ∃ o, h1 (cB G + 281) = some (eL G 1 o) ∧ Q (some (JV 0)) (hup h1 (cB G + 281) (eL G 1 (fup o 0 ((Int32.ofInt v).toInt64)))) N1) (hx : ∀ E h1 N1, Xc E h1 N1 → (E = x_ioobe ∧ Q (some (JV 1)) h1 N1)) : CH G mL_reopen [.ref (cB G), JV a1, .ref (cB G + 281)] h N 1 6 Q := by
  refine CH_of (by decide +kernel) (by simp [Value.category]) (Nat.le_of_ble_eq_true rfl) ?_
  change WP G mL_reopen _ noX _ _ h N 0 [some (.ref (cB G)), some (JV a1), some (.ref (cB G + 281)), none] []
  refine wp_aload_n dL_reopen_0 rfl ?_
  refine wp_iconst dL_reopen_1 ?_
  refine wp_aload_n dL_reopen_2 rfl ?_
  refine wp_iload_n dL_reopen_3 rfl ?_
  refine wp_callVx (k2 := 0) (n2 := 0) c cvL_51 dL_reopen_4 ⟨Nat.le_of_ble_eq_true rfl, Nat.le_of_ble_eq_true rfl⟩ (Nat.le_of_ble_eq_true rfl) hs rfl rfl rfl rfl (by omega) (by omega) (fun r h1 N1 q => ?_) (fun E h1 N1 q => ?_)
  · obtain ⟨v, rfl, hv, o, ho, hQ⟩ := hq r h1 N1 q
    change WP G mL_reopen _ noX _ _ h1 N1 7 [some (.ref (cB G)), some (JV a1), some (.ref (cB G + 281)), none] [JV v, JV 0, .ref (cB G + 281)]
    rcases hv with rfl | rfl
    · have hQ9 : Q (some (JV 0)) (hup h1 (cB G + 281) (eL G 1 (fup o (0 : Int).toNat (Int64.ofNat ((0 : Fin 2) : Nat))))) N1 := by
        have e : Int64.ofNat ((0 : Fin 2) : Nat) = (Int32.ofInt 0).toInt64 := by decide
        rw [e]; exact hQ
      refine wp_if_eq 14 dL_reopen_7 (by decide) ⟨by omega, by omega⟩ (fun c9 => ?_) (fun c9 => absurd rfl c9)
      refine wp_lconst dL_reopen_14 ?_
      refine wp_lastore dL_reopen_15 ho (by omega) (by omega) (by omega) ?_
      refine wp_goto 22 dL_reopen_16 (by decide) ?_
      refine wp_iconst dL_reopen_22 ?_
      refine wp_iret dL_reopen_23 rfl ?_
      exact hQ9
    · have hQ9 : Q (some (JV 0)) (hup h1 (cB G + 281) (eL G 1 (fup o (0 : Int).toNat (Int64.ofNat ((1 : Fin 2) : Nat))))) N1 := by
        have e : Int64.ofNat ((1 : Fin 2) : Nat) = (Int32.ofInt 1).toInt64 := by decide
        rw [e]; exact hQ
      refine wp_if_eq 14 dL_reopen_7 (by decide) ⟨by omega, by omega⟩ (fun c9 => absurd c9 (by decide)) (fun c9 => ?_)
      refine wp_lconst dL_reopen_10 ?_
      refine wp_goto 15 dL_reopen_11 (by decide) ?_
      refine wp_lastore dL_reopen_15 ho (by omega) (by omega) (by omega) ?_
      refine wp_goto 22 dL_reopen_16 (by decide) ?_
      refine wp_iconst dL_reopen_22 ?_
      refine wp_iret dL_reopen_23 rfl ?_
      exact hQ9
  · obtain ⟨rfl, hQ⟩ := hx E h1 N1 q
    refine VX_catch [] ⟨0, 16, 19, 13⟩ [] rfl (fun z hz => absurd hz List.not_mem_nil) (by decide) (by decide) clL_13 (by decide) (fun q9 => ?_)
    change WP G mL_reopen _ noX _ _ h1 N1 19 [some (.ref (cB G)), some (JV a1), some (.ref (cB G + 281)), none] [.ref q9]
    refine wp_astore_n dL_reopen_19 (Nat.le_of_ble_eq_true rfl) rfl ?_
    refine wp_iconst dL_reopen_20 ?_
    refine wp_iret dL_reopen_21 rfl ?_
    exact hQ
theorem L_setRule {a1 : Int} (hk1 : k1 ≤ 1) (hn1 : n1 ≤ 6) (hs : h (cB G) = some (cSP G st)) (c : CX G mX10_setRule [.ref (cB G), JV a1] h N k1 n1 Qc Xc) (hq : ∀ r h1 N1, Qc r h1 N1 → ∃ v : Int, r = some (JV v) ∧ ∃ o, h1 (cB G + 281) = some (eL G 1 o) ∧ Q (some (JV 0)) (hup h1 (cB G + 281) (eL G 1 (fup o 0 ((Int32.ofInt v).toInt64)))) N1) (hx : ∀ E h1 N1, Xc E h1 N1 → (E = x_iae ∧ Q (some (JV 1)) h1 N1)) : CH G mL_setRule [.ref (cB G), JV a1, .ref (cB G + 281)] h N 1 6 Q := by
  refine CH_of (by decide +kernel) (by simp [Value.category]) (Nat.le_of_ble_eq_true rfl) ?_
  change WP G mL_setRule _ noX _ _ h N 0 [some (.ref (cB G)), some (JV a1), some (.ref (cB G + 281)), none] []
  refine wp_aload_n dL_setRule_0 rfl ?_
  refine wp_iconst dL_setRule_1 ?_
  refine wp_aload_n dL_setRule_2 rfl ?_
  refine wp_iload_n dL_setRule_3 rfl ?_
  refine wp_callVx (k2 := 0) (n2 := 0) c cvL_55 dL_setRule_4 ⟨Nat.le_of_ble_eq_true rfl, Nat.le_of_ble_eq_true rfl⟩ (Nat.le_of_ble_eq_true rfl) hs rfl rfl rfl rfl (by omega) (by omega) (fun r h1 N1 q => ?_) (fun E h1 N1 q => ?_)
  · obtain ⟨v, rfl, o, ho, hQ⟩ := hq r h1 N1 q
    change WP G mL_setRule _ noX _ _ h1 N1 7 [some (.ref (cB G)), some (JV a1), some (.ref (cB G + 281)), none] [JV v, JV 0, .ref (cB G + 281)]
    refine wp_i2l dL_setRule_7 ?_
    refine wp_lastore dL_setRule_8 ho (by omega) (by omega) (by omega) ?_
    refine wp_goto 15 dL_setRule_9 (by decide) ?_
    refine wp_iconst dL_setRule_15 ?_
    refine wp_iret dL_setRule_16 rfl ?_
    exact hQ
  · obtain ⟨rfl, hQ⟩ := hx E h1 N1 q
    refine VX_catch [] ⟨0, 9, 12, 15⟩ [] rfl (fun z hz => absurd hz List.not_mem_nil) (by decide) (by decide) clL_15 (by decide) (fun q9 => ?_)
    change WP G mL_setRule _ noX _ _ h1 N1 12 [some (.ref (cB G)), some (JV a1), some (.ref (cB G + 281)), none] [.ref q9]
    refine wp_astore_n dL_setRule_12 (Nat.le_of_ble_eq_true rfl) rfl ?_
    refine wp_iconst dL_setRule_13 ?_
    refine wp_iret dL_setRule_14 rfl ?_
    exact hQ
theorem L_works {a1 a2 : Int} (hk1 : k1 ≤ 1) (hn1 : n1 ≤ 6) (hs : h (cB G) = some (cSP G st)) (c : CX G mX10_works [.ref (cB G), JV a1, JV a2] h N k1 n1 Qc Xc) (hq : ∀ r h1 N1, Qc r h1 N1 → ∃ v : Int, r = some (JV v) ∧ (v = 0 ∨ v = 1) ∧ ∃ o, h1 (cB G + 281) = some (eL G 1 o) ∧ Q (some (JV 0)) (hup h1 (cB G + 281) (eL G 1 (fup o 0 ((Int32.ofInt v).toInt64)))) N1) (hx : ∀ E h1 N1, Xc E h1 N1 → (E = x_ioobe ∧ Q (some (JV 1)) h1 N1) ∨ (E = x_iae ∧ Q (some (JV 2)) h1 N1)) : CH G mL_works [.ref (cB G), JV a1, JV a2, .ref (cB G + 281)] h N 1 6 Q := by
  refine CH_of (by decide +kernel) (by simp [Value.category]) (Nat.le_of_ble_eq_true rfl) ?_
  change WP G mL_works _ noX _ _ h N 0 [some (.ref (cB G)), some (JV a1), some (JV a2), some (.ref (cB G + 281)), none] []
  refine wp_aload_n dL_works_0 rfl ?_
  refine wp_iconst dL_works_1 ?_
  refine wp_aload_n dL_works_2 rfl ?_
  refine wp_iload_n dL_works_3 rfl ?_
  refine wp_iload_n dL_works_4 rfl ?_
  refine wp_callVx (k2 := 0) (n2 := 0) c cvL_58 dL_works_5 ⟨Nat.le_of_ble_eq_true rfl, Nat.le_of_ble_eq_true rfl⟩ (Nat.le_of_ble_eq_true rfl) hs rfl rfl rfl rfl (by omega) (by omega) (fun r h1 N1 q => ?_) (fun E h1 N1 q => ?_)
  · obtain ⟨v, rfl, hv, o, ho, hQ⟩ := hq r h1 N1 q
    change WP G mL_works _ noX _ _ h1 N1 8 [some (.ref (cB G)), some (JV a1), some (JV a2), some (.ref (cB G + 281)), none] [JV v, JV 0, .ref (cB G + 281)]
    rcases hv with rfl | rfl
    · have hQ9 : Q (some (JV 0)) (hup h1 (cB G + 281) (eL G 1 (fup o (0 : Int).toNat (Int64.ofNat ((0 : Fin 2) : Nat))))) N1 := by
        have e : Int64.ofNat ((0 : Fin 2) : Nat) = (Int32.ofInt 0).toInt64 := by decide
        rw [e]; exact hQ
      refine wp_if_eq 15 dL_works_8 (by decide) ⟨by omega, by omega⟩ (fun c9 => ?_) (fun c9 => absurd rfl c9)
      refine wp_lconst dL_works_15 ?_
      refine wp_lastore dL_works_16 ho (by omega) (by omega) (by omega) ?_
      refine wp_goto 28 dL_works_17 (by decide) ?_
      refine wp_iconst dL_works_28 ?_
      refine wp_iret dL_works_29 rfl ?_
      exact hQ9
    · have hQ9 : Q (some (JV 0)) (hup h1 (cB G + 281) (eL G 1 (fup o (0 : Int).toNat (Int64.ofNat ((1 : Fin 2) : Nat))))) N1 := by
        have e : Int64.ofNat ((1 : Fin 2) : Nat) = (Int32.ofInt 1).toInt64 := by decide
        rw [e]; exact hQ
      refine wp_if_eq 15 dL_works_8 (by decide) ⟨by omega, by omega⟩ (fun c9 => absurd c9 (by decide)) (fun c9 => ?_)
      refine wp_lconst dL_works_11 ?_
      refine wp_goto 16 dL_works_12 (by decide) ?_
      refine wp_lastore dL_works_16 ho (by omega) (by omega) (by omega) ?_
      refine wp_goto 28 dL_works_17 (by decide) ?_
      refine wp_iconst dL_works_28 ?_
      refine wp_iret dL_works_29 rfl ?_
      exact hQ9
  · rcases hx E h1 N1 q with ⟨rfl, hQ⟩ | ⟨rfl, hQ⟩
    · refine VX_catch [] ⟨0, 17, 20, 13⟩ [⟨0, 17, 24, 15⟩] rfl (fun z hz => absurd hz List.not_mem_nil) (by decide) (by decide) clL_13 (by decide) (fun q9 => ?_)
      change WP G mL_works _ noX _ _ h1 N1 20 [some (.ref (cB G)), some (JV a1), some (JV a2), some (.ref (cB G + 281)), none] [.ref q9]
      refine wp_astore dL_works_20 (Nat.le_of_ble_eq_true rfl) rfl ?_
      refine wp_iconst dL_works_22 ?_
      refine wp_iret dL_works_23 rfl ?_
      exact hQ
    · refine VX_catch [⟨0, 17, 20, 13⟩] ⟨0, 17, 24, 15⟩ [] rfl (fun z hz => by
          simp only [List.mem_cons, List.not_mem_nil, or_false] at hz
          subst hz
          · exact ⟨by decide, _, clL_13, by decide⟩) (by decide) (by decide) clL_15 (by decide) (fun q9 => ?_)
      change WP G mL_works _ noX _ _ h1 N1 24 [some (.ref (cB G)), some (JV a1), some (JV a2), some (.ref (cB G + 281)), none] [.ref q9]
      refine wp_astore dL_works_24 (Nat.le_of_ble_eq_true rfl) rfl ?_
      refine wp_iconst dL_works_26 ?_
      refine wp_iret dL_works_27 rfl ?_
      exact hQ
theorem L_earlyBegin {a1 : Int} (hk1 : k1 ≤ 1) (hn1 : n1 ≤ 6) (hs : h (cB G) = some (cSP G st)) (c : CX G mX10_earlyBegin [.ref (cB G), JV a1] h N k1 n1 Qc Xc) (hq : ∀ r h1 N1, Qc r h1 N1 → ∃ v : Int, r = some (JV v) ∧ ∃ o, h1 (cB G + 281) = some (eL G 1 o) ∧ Q (some (JV 0)) (hup h1 (cB G + 281) (eL G 1 (fup o 0 ((Int32.ofInt v).toInt64)))) N1) (hx : ∀ E h1 N1, Xc E h1 N1 → (E = x_ioobe ∧ Q (some (JV 1)) h1 N1)) : CH G mL_earlyBegin [.ref (cB G), JV a1, .ref (cB G + 281)] h N 1 6 Q := by
  refine CH_of (by decide +kernel) (by simp [Value.category]) (Nat.le_of_ble_eq_true rfl) ?_
  change WP G mL_earlyBegin _ noX _ _ h N 0 [some (.ref (cB G)), some (JV a1), some (.ref (cB G + 281)), none] []
  refine wp_aload_n dL_earlyBegin_0 rfl ?_
  refine wp_iconst dL_earlyBegin_1 ?_
  refine wp_aload_n dL_earlyBegin_2 rfl ?_
  refine wp_iload_n dL_earlyBegin_3 rfl ?_
  refine wp_callVx (k2 := 0) (n2 := 0) c cvL_62 dL_earlyBegin_4 ⟨Nat.le_of_ble_eq_true rfl, Nat.le_of_ble_eq_true rfl⟩ (Nat.le_of_ble_eq_true rfl) hs rfl rfl rfl rfl (by omega) (by omega) (fun r h1 N1 q => ?_) (fun E h1 N1 q => ?_)
  · obtain ⟨v, rfl, o, ho, hQ⟩ := hq r h1 N1 q
    change WP G mL_earlyBegin _ noX _ _ h1 N1 7 [some (.ref (cB G)), some (JV a1), some (.ref (cB G + 281)), none] [JV v, JV 0, .ref (cB G + 281)]
    refine wp_i2l dL_earlyBegin_7 ?_
    refine wp_lastore dL_earlyBegin_8 ho (by omega) (by omega) (by omega) ?_
    refine wp_goto 15 dL_earlyBegin_9 (by decide) ?_
    refine wp_iconst dL_earlyBegin_15 ?_
    refine wp_iret dL_earlyBegin_16 rfl ?_
    exact hQ
  · obtain ⟨rfl, hQ⟩ := hx E h1 N1 q
    refine VX_catch [] ⟨0, 9, 12, 13⟩ [] rfl (fun z hz => absurd hz List.not_mem_nil) (by decide) (by decide) clL_13 (by decide) (fun q9 => ?_)
    change WP G mL_earlyBegin _ noX _ _ h1 N1 12 [some (.ref (cB G)), some (JV a1), some (.ref (cB G + 281)), none] [.ref q9]
    refine wp_astore_n dL_earlyBegin_12 (Nat.le_of_ble_eq_true rfl) rfl ?_
    refine wp_iconst dL_earlyBegin_13 ?_
    refine wp_iret dL_earlyBegin_14 rfl ?_
    exact hQ
theorem L_earlyEnd {a1 : Int} (hk1 : k1 ≤ 1) (hn1 : n1 ≤ 6) (hs : h (cB G) = some (cSP G st)) (c : CX G mX10_earlyEnd [.ref (cB G), JV a1] h N k1 n1 Qc Xc) (hq : ∀ r h1 N1, Qc r h1 N1 → ∃ v : Int, r = some (JV v) ∧ ∃ o, h1 (cB G + 281) = some (eL G 1 o) ∧ Q (some (JV 0)) (hup h1 (cB G + 281) (eL G 1 (fup o 0 ((Int32.ofInt v).toInt64)))) N1) (hx : ∀ E h1 N1, Xc E h1 N1 → (E = x_ioobe ∧ Q (some (JV 1)) h1 N1)) : CH G mL_earlyEnd [.ref (cB G), JV a1, .ref (cB G + 281)] h N 1 6 Q := by
  refine CH_of (by decide +kernel) (by simp [Value.category]) (Nat.le_of_ble_eq_true rfl) ?_
  change WP G mL_earlyEnd _ noX _ _ h N 0 [some (.ref (cB G)), some (JV a1), some (.ref (cB G + 281)), none] []
  refine wp_aload_n dL_earlyEnd_0 rfl ?_
  refine wp_iconst dL_earlyEnd_1 ?_
  refine wp_aload_n dL_earlyEnd_2 rfl ?_
  refine wp_iload_n dL_earlyEnd_3 rfl ?_
  refine wp_callVx (k2 := 0) (n2 := 0) c cvL_65 dL_earlyEnd_4 ⟨Nat.le_of_ble_eq_true rfl, Nat.le_of_ble_eq_true rfl⟩ (Nat.le_of_ble_eq_true rfl) hs rfl rfl rfl rfl (by omega) (by omega) (fun r h1 N1 q => ?_) (fun E h1 N1 q => ?_)
  · obtain ⟨v, rfl, o, ho, hQ⟩ := hq r h1 N1 q
    change WP G mL_earlyEnd _ noX _ _ h1 N1 7 [some (.ref (cB G)), some (JV a1), some (.ref (cB G + 281)), none] [JV v, JV 0, .ref (cB G + 281)]
    refine wp_i2l dL_earlyEnd_7 ?_
    refine wp_lastore dL_earlyEnd_8 ho (by omega) (by omega) (by omega) ?_
    refine wp_goto 15 dL_earlyEnd_9 (by decide) ?_
    refine wp_iconst dL_earlyEnd_15 ?_
    refine wp_iret dL_earlyEnd_16 rfl ?_
    exact hQ
  · obtain ⟨rfl, hQ⟩ := hx E h1 N1 q
    refine VX_catch [] ⟨0, 9, 12, 13⟩ [] rfl (fun z hz => absurd hz List.not_mem_nil) (by decide) (by decide) clL_13 (by decide) (fun q9 => ?_)
    change WP G mL_earlyEnd _ noX _ _ h1 N1 12 [some (.ref (cB G)), some (JV a1), some (.ref (cB G + 281)), none] [.ref q9]
    refine wp_astore_n dL_earlyEnd_12 (Nat.le_of_ble_eq_true rfl) rfl ?_
    refine wp_iconst dL_earlyEnd_13 ?_
    refine wp_iret dL_earlyEnd_14 rfl ?_
    exact hQ
theorem L_lateBegin {a1 : Int} (hk1 : k1 ≤ 1) (hn1 : n1 ≤ 6) (hs : h (cB G) = some (cSP G st)) (c : CX G mX10_lateBegin [.ref (cB G), JV a1] h N k1 n1 Qc Xc) (hq : ∀ r h1 N1, Qc r h1 N1 → ∃ v : Int, r = some (JV v) ∧ ∃ o, h1 (cB G + 281) = some (eL G 1 o) ∧ Q (some (JV 0)) (hup h1 (cB G + 281) (eL G 1 (fup o 0 ((Int32.ofInt v).toInt64)))) N1) (hx : ∀ E h1 N1, Xc E h1 N1 → (E = x_ioobe ∧ Q (some (JV 1)) h1 N1)) : CH G mL_lateBegin [.ref (cB G), JV a1, .ref (cB G + 281)] h N 1 6 Q := by
  refine CH_of (by decide +kernel) (by simp [Value.category]) (Nat.le_of_ble_eq_true rfl) ?_
  change WP G mL_lateBegin _ noX _ _ h N 0 [some (.ref (cB G)), some (JV a1), some (.ref (cB G + 281)), none] []
  refine wp_aload_n dL_lateBegin_0 rfl ?_
  refine wp_iconst dL_lateBegin_1 ?_
  refine wp_aload_n dL_lateBegin_2 rfl ?_
  refine wp_iload_n dL_lateBegin_3 rfl ?_
  refine wp_callVx (k2 := 0) (n2 := 0) c cvL_68 dL_lateBegin_4 ⟨Nat.le_of_ble_eq_true rfl, Nat.le_of_ble_eq_true rfl⟩ (Nat.le_of_ble_eq_true rfl) hs rfl rfl rfl rfl (by omega) (by omega) (fun r h1 N1 q => ?_) (fun E h1 N1 q => ?_)
  · obtain ⟨v, rfl, o, ho, hQ⟩ := hq r h1 N1 q
    change WP G mL_lateBegin _ noX _ _ h1 N1 7 [some (.ref (cB G)), some (JV a1), some (.ref (cB G + 281)), none] [JV v, JV 0, .ref (cB G + 281)]
    refine wp_i2l dL_lateBegin_7 ?_
    refine wp_lastore dL_lateBegin_8 ho (by omega) (by omega) (by omega) ?_
    refine wp_goto 15 dL_lateBegin_9 (by decide) ?_
    refine wp_iconst dL_lateBegin_15 ?_
    refine wp_iret dL_lateBegin_16 rfl ?_
    exact hQ
  · obtain ⟨rfl, hQ⟩ := hx E h1 N1 q
    refine VX_catch [] ⟨0, 9, 12, 13⟩ [] rfl (fun z hz => absurd hz List.not_mem_nil) (by decide) (by decide) clL_13 (by decide) (fun q9 => ?_)
    change WP G mL_lateBegin _ noX _ _ h1 N1 12 [some (.ref (cB G)), some (JV a1), some (.ref (cB G + 281)), none] [.ref q9]
    refine wp_astore_n dL_lateBegin_12 (Nat.le_of_ble_eq_true rfl) rfl ?_
    refine wp_iconst dL_lateBegin_13 ?_
    refine wp_iret dL_lateBegin_14 rfl ?_
    exact hQ
theorem L_lateEnd {a1 : Int} (hk1 : k1 ≤ 1) (hn1 : n1 ≤ 6) (hs : h (cB G) = some (cSP G st)) (c : CX G mX10_lateEnd [.ref (cB G), JV a1] h N k1 n1 Qc Xc) (hq : ∀ r h1 N1, Qc r h1 N1 → ∃ v : Int, r = some (JV v) ∧ ∃ o, h1 (cB G + 281) = some (eL G 1 o) ∧ Q (some (JV 0)) (hup h1 (cB G + 281) (eL G 1 (fup o 0 ((Int32.ofInt v).toInt64)))) N1) (hx : ∀ E h1 N1, Xc E h1 N1 → (E = x_ioobe ∧ Q (some (JV 1)) h1 N1)) : CH G mL_lateEnd [.ref (cB G), JV a1, .ref (cB G + 281)] h N 1 6 Q := by
  refine CH_of (by decide +kernel) (by simp [Value.category]) (Nat.le_of_ble_eq_true rfl) ?_
  change WP G mL_lateEnd _ noX _ _ h N 0 [some (.ref (cB G)), some (JV a1), some (.ref (cB G + 281)), none] []
  refine wp_aload_n dL_lateEnd_0 rfl ?_
  refine wp_iconst dL_lateEnd_1 ?_
  refine wp_aload_n dL_lateEnd_2 rfl ?_
  refine wp_iload_n dL_lateEnd_3 rfl ?_
  refine wp_callVx (k2 := 0) (n2 := 0) c cvL_71 dL_lateEnd_4 ⟨Nat.le_of_ble_eq_true rfl, Nat.le_of_ble_eq_true rfl⟩ (Nat.le_of_ble_eq_true rfl) hs rfl rfl rfl rfl (by omega) (by omega) (fun r h1 N1 q => ?_) (fun E h1 N1 q => ?_)
  · obtain ⟨v, rfl, o, ho, hQ⟩ := hq r h1 N1 q
    change WP G mL_lateEnd _ noX _ _ h1 N1 7 [some (.ref (cB G)), some (JV a1), some (.ref (cB G + 281)), none] [JV v, JV 0, .ref (cB G + 281)]
    refine wp_i2l dL_lateEnd_7 ?_
    refine wp_lastore dL_lateEnd_8 ho (by omega) (by omega) (by omega) ?_
    refine wp_goto 15 dL_lateEnd_9 (by decide) ?_
    refine wp_iconst dL_lateEnd_15 ?_
    refine wp_iret dL_lateEnd_16 rfl ?_
    exact hQ
  · obtain ⟨rfl, hQ⟩ := hx E h1 N1 q
    refine VX_catch [] ⟨0, 9, 12, 13⟩ [] rfl (fun z hz => absurd hz List.not_mem_nil) (by decide) (by decide) clL_13 (by decide) (fun q9 => ?_)
    change WP G mL_lateEnd _ noX _ _ h1 N1 12 [some (.ref (cB G)), some (JV a1), some (.ref (cB G + 281)), none] [.ref q9]
    refine wp_astore_n dL_lateEnd_12 (Nat.le_of_ble_eq_true rfl) rfl ?_
    refine wp_iconst dL_lateEnd_13 ?_
    refine wp_iret dL_lateEnd_14 rfl ?_
    exact hQ
theorem L_room {a1 : Int} (hk1 : k1 ≤ 1) (hn1 : n1 ≤ 6) (hs : h (cB G) = some (cSP G st)) (c : CX G mX10_room [.ref (cB G), JV a1] h N k1 n1 Qc Xc) (hq : ∀ r h1 N1, Qc r h1 N1 → ∃ v : Int, r = some (JV v) ∧ ∃ o, h1 (cB G + 281) = some (eL G 1 o) ∧ Q (some (JV 0)) (hup h1 (cB G + 281) (eL G 1 (fup o 0 ((Int32.ofInt v).toInt64)))) N1) (hx : ∀ E h1 N1, Xc E h1 N1 → (E = x_ioobe ∧ Q (some (JV 1)) h1 N1)) : CH G mL_room [.ref (cB G), JV a1, .ref (cB G + 281)] h N 1 6 Q := by
  refine CH_of (by decide +kernel) (by simp [Value.category]) (Nat.le_of_ble_eq_true rfl) ?_
  change WP G mL_room _ noX _ _ h N 0 [some (.ref (cB G)), some (JV a1), some (.ref (cB G + 281)), none] []
  refine wp_aload_n dL_room_0 rfl ?_
  refine wp_iconst dL_room_1 ?_
  refine wp_aload_n dL_room_2 rfl ?_
  refine wp_iload_n dL_room_3 rfl ?_
  refine wp_callVx (k2 := 0) (n2 := 0) c cvL_74 dL_room_4 ⟨Nat.le_of_ble_eq_true rfl, Nat.le_of_ble_eq_true rfl⟩ (Nat.le_of_ble_eq_true rfl) hs rfl rfl rfl rfl (by omega) (by omega) (fun r h1 N1 q => ?_) (fun E h1 N1 q => ?_)
  · obtain ⟨v, rfl, o, ho, hQ⟩ := hq r h1 N1 q
    change WP G mL_room _ noX _ _ h1 N1 7 [some (.ref (cB G)), some (JV a1), some (.ref (cB G + 281)), none] [JV v, JV 0, .ref (cB G + 281)]
    refine wp_i2l dL_room_7 ?_
    refine wp_lastore dL_room_8 ho (by omega) (by omega) (by omega) ?_
    refine wp_goto 15 dL_room_9 (by decide) ?_
    refine wp_iconst dL_room_15 ?_
    refine wp_iret dL_room_16 rfl ?_
    exact hQ
  · obtain ⟨rfl, hQ⟩ := hx E h1 N1 q
    refine VX_catch [] ⟨0, 9, 12, 13⟩ [] rfl (fun z hz => absurd hz List.not_mem_nil) (by decide) (by decide) clL_13 (by decide) (fun q9 => ?_)
    change WP G mL_room _ noX _ _ h1 N1 12 [some (.ref (cB G)), some (JV a1), some (.ref (cB G + 281)), none] [.ref q9]
    refine wp_astore_n dL_room_12 (Nat.le_of_ble_eq_true rfl) rfl ?_
    refine wp_iconst dL_room_13 ?_
    refine wp_iret dL_room_14 rfl ?_
    exact hQ
theorem L_wanted {a1 a2 : Int} (hk1 : k1 ≤ 1) (hn1 : n1 ≤ 6) (hs : h (cB G) = some (cSP G st)) (c : CX G mX10_wanted [.ref (cB G), JV a1, JV a2] h N k1 n1 Qc Xc) (hq : ∀ r h1 N1, Qc r h1 N1 → ∃ v : Int, r = some (JV v) ∧ ∃ o, h1 (cB G + 281) = some (eL G 1 o) ∧ Q (some (JV 0)) (hup h1 (cB G + 281) (eL G 1 (fup o 0 ((Int32.ofInt v).toInt64)))) N1) (hx : ∀ E h1 N1, Xc E h1 N1 → (E = x_ioobe ∧ Q (some (JV 1)) h1 N1) ∨ (E = x_iae ∧ Q (some (JV 2)) h1 N1)) : CH G mL_wanted [.ref (cB G), JV a1, JV a2, .ref (cB G + 281)] h N 1 6 Q := by
  refine CH_of (by decide +kernel) (by simp [Value.category]) (Nat.le_of_ble_eq_true rfl) ?_
  change WP G mL_wanted _ noX _ _ h N 0 [some (.ref (cB G)), some (JV a1), some (JV a2), some (.ref (cB G + 281)), none] []
  refine wp_aload_n dL_wanted_0 rfl ?_
  refine wp_iconst dL_wanted_1 ?_
  refine wp_aload_n dL_wanted_2 rfl ?_
  refine wp_iload_n dL_wanted_3 rfl ?_
  refine wp_iload_n dL_wanted_4 rfl ?_
  refine wp_callVx (k2 := 0) (n2 := 0) c cvL_77 dL_wanted_5 ⟨Nat.le_of_ble_eq_true rfl, Nat.le_of_ble_eq_true rfl⟩ (Nat.le_of_ble_eq_true rfl) hs rfl rfl rfl rfl (by omega) (by omega) (fun r h1 N1 q => ?_) (fun E h1 N1 q => ?_)
  · obtain ⟨v, rfl, o, ho, hQ⟩ := hq r h1 N1 q
    change WP G mL_wanted _ noX _ _ h1 N1 8 [some (.ref (cB G)), some (JV a1), some (JV a2), some (.ref (cB G + 281)), none] [JV v, JV 0, .ref (cB G + 281)]
    refine wp_i2l dL_wanted_8 ?_
    refine wp_lastore dL_wanted_9 ho (by omega) (by omega) (by omega) ?_
    refine wp_goto 21 dL_wanted_10 (by decide) ?_
    refine wp_iconst dL_wanted_21 ?_
    refine wp_iret dL_wanted_22 rfl ?_
    exact hQ
  · rcases hx E h1 N1 q with ⟨rfl, hQ⟩ | ⟨rfl, hQ⟩
    · refine VX_catch [] ⟨0, 10, 13, 13⟩ [⟨0, 10, 17, 15⟩] rfl (fun z hz => absurd hz List.not_mem_nil) (by decide) (by decide) clL_13 (by decide) (fun q9 => ?_)
      change WP G mL_wanted _ noX _ _ h1 N1 13 [some (.ref (cB G)), some (JV a1), some (JV a2), some (.ref (cB G + 281)), none] [.ref q9]
      refine wp_astore dL_wanted_13 (Nat.le_of_ble_eq_true rfl) rfl ?_
      refine wp_iconst dL_wanted_15 ?_
      refine wp_iret dL_wanted_16 rfl ?_
      exact hQ
    · refine VX_catch [⟨0, 10, 13, 13⟩] ⟨0, 10, 17, 15⟩ [] rfl (fun z hz => by
          simp only [List.mem_cons, List.not_mem_nil, or_false] at hz
          subst hz
          · exact ⟨by decide, _, clL_13, by decide⟩) (by decide) (by decide) clL_15 (by decide) (fun q9 => ?_)
      change WP G mL_wanted _ noX _ _ h1 N1 17 [some (.ref (cB G)), some (JV a1), some (JV a2), some (.ref (cB G + 281)), none] [.ref q9]
      refine wp_astore dL_wanted_17 (Nat.le_of_ble_eq_true rfl) rfl ?_
      refine wp_iconst dL_wanted_19 ?_
      refine wp_iret dL_wanted_20 rfl ?_
      exact hQ
theorem L_overloaded {a1 : Int} (hk1 : k1 ≤ 1) (hn1 : n1 ≤ 6) (hs : h (cB G) = some (cSP G st)) (c : CX G mX10_overloaded [.ref (cB G), JV a1] h N k1 n1 Qc Xc) (hq : ∀ r h1 N1, Qc r h1 N1 → ∃ v : Int, r = some (JV v) ∧ ∃ o, h1 (cB G + 281) = some (eL G 1 o) ∧ Q (some (JV 0)) (hup h1 (cB G + 281) (eL G 1 (fup o 0 ((Int32.ofInt v).toInt64)))) N1) (hx : ∀ E h1 N1, Xc E h1 N1 → (E = x_ioobe ∧ Q (some (JV 1)) h1 N1)) : CH G mL_overloaded [.ref (cB G), JV a1, .ref (cB G + 281)] h N 1 6 Q := by
  refine CH_of (by decide +kernel) (by simp [Value.category]) (Nat.le_of_ble_eq_true rfl) ?_
  change WP G mL_overloaded _ noX _ _ h N 0 [some (.ref (cB G)), some (JV a1), some (.ref (cB G + 281)), none] []
  refine wp_aload_n dL_overloaded_0 rfl ?_
  refine wp_iconst dL_overloaded_1 ?_
  refine wp_aload_n dL_overloaded_2 rfl ?_
  refine wp_iload_n dL_overloaded_3 rfl ?_
  refine wp_callVx (k2 := 0) (n2 := 0) c cvL_80 dL_overloaded_4 ⟨Nat.le_of_ble_eq_true rfl, Nat.le_of_ble_eq_true rfl⟩ (Nat.le_of_ble_eq_true rfl) hs rfl rfl rfl rfl (by omega) (by omega) (fun r h1 N1 q => ?_) (fun E h1 N1 q => ?_)
  · obtain ⟨v, rfl, o, ho, hQ⟩ := hq r h1 N1 q
    change WP G mL_overloaded _ noX _ _ h1 N1 7 [some (.ref (cB G)), some (JV a1), some (.ref (cB G + 281)), none] [JV v, JV 0, .ref (cB G + 281)]
    refine wp_i2l dL_overloaded_7 ?_
    refine wp_lastore dL_overloaded_8 ho (by omega) (by omega) (by omega) ?_
    refine wp_goto 15 dL_overloaded_9 (by decide) ?_
    refine wp_iconst dL_overloaded_15 ?_
    refine wp_iret dL_overloaded_16 rfl ?_
    exact hQ
  · obtain ⟨rfl, hQ⟩ := hx E h1 N1 q
    refine VX_catch [] ⟨0, 9, 12, 13⟩ [] rfl (fun z hz => absurd hz List.not_mem_nil) (by decide) (by decide) clL_13 (by decide) (fun q9 => ?_)
    change WP G mL_overloaded _ noX _ _ h1 N1 12 [some (.ref (cB G)), some (JV a1), some (.ref (cB G + 281)), none] [.ref q9]
    refine wp_astore_n dL_overloaded_12 (Nat.le_of_ble_eq_true rfl) rfl ?_
    refine wp_iconst dL_overloaded_13 ?_
    refine wp_iret dL_overloaded_14 rfl ?_
    exact hQ
theorem L_begin {a1 : Int} (hk1 : k1 ≤ 1) (hn1 : n1 ≤ 6) (hs : h (cB G) = some (cSP G st)) (c : CX G mX10_begin [.ref (cB G), JV a1] h N k1 n1 Qc Xc) (hq : ∀ r h1 N1, Qc r h1 N1 → ∃ v : Int, r = some (JV v) ∧ ∃ o, h1 (cB G + 281) = some (eL G 1 o) ∧ Q (some (JV 0)) (hup h1 (cB G + 281) (eL G 1 (fup o 0 ((Int32.ofInt v).toInt64)))) N1) (hx : ∀ E h1 N1, Xc E h1 N1 → (E = x_ioobe ∧ Q (some (JV 1)) h1 N1)) : CH G mL_begin [.ref (cB G), JV a1, .ref (cB G + 281)] h N 1 6 Q := by
  refine CH_of (by decide +kernel) (by simp [Value.category]) (Nat.le_of_ble_eq_true rfl) ?_
  change WP G mL_begin _ noX _ _ h N 0 [some (.ref (cB G)), some (JV a1), some (.ref (cB G + 281)), none] []
  refine wp_aload_n dL_begin_0 rfl ?_
  refine wp_iconst dL_begin_1 ?_
  refine wp_aload_n dL_begin_2 rfl ?_
  refine wp_iload_n dL_begin_3 rfl ?_
  refine wp_callVx (k2 := 0) (n2 := 0) c cvL_83 dL_begin_4 ⟨Nat.le_of_ble_eq_true rfl, Nat.le_of_ble_eq_true rfl⟩ (Nat.le_of_ble_eq_true rfl) hs rfl rfl rfl rfl (by omega) (by omega) (fun r h1 N1 q => ?_) (fun E h1 N1 q => ?_)
  · obtain ⟨v, rfl, o, ho, hQ⟩ := hq r h1 N1 q
    change WP G mL_begin _ noX _ _ h1 N1 7 [some (.ref (cB G)), some (JV a1), some (.ref (cB G + 281)), none] [JV v, JV 0, .ref (cB G + 281)]
    refine wp_i2l dL_begin_7 ?_
    refine wp_lastore dL_begin_8 ho (by omega) (by omega) (by omega) ?_
    refine wp_goto 15 dL_begin_9 (by decide) ?_
    refine wp_iconst dL_begin_15 ?_
    refine wp_iret dL_begin_16 rfl ?_
    exact hQ
  · obtain ⟨rfl, hQ⟩ := hx E h1 N1 q
    refine VX_catch [] ⟨0, 9, 12, 13⟩ [] rfl (fun z hz => absurd hz List.not_mem_nil) (by decide) (by decide) clL_13 (by decide) (fun q9 => ?_)
    change WP G mL_begin _ noX _ _ h1 N1 12 [some (.ref (cB G)), some (JV a1), some (.ref (cB G + 281)), none] [.ref q9]
    refine wp_astore_n dL_begin_12 (Nat.le_of_ble_eq_true rfl) rfl ?_
    refine wp_iconst dL_begin_13 ?_
    refine wp_iret dL_begin_14 rfl ?_
    exact hQ
theorem L_end {a1 : Int} (hk1 : k1 ≤ 1) (hn1 : n1 ≤ 6) (hs : h (cB G) = some (cSP G st)) (c : CX G mX10_end [.ref (cB G), JV a1] h N k1 n1 Qc Xc) (hq : ∀ r h1 N1, Qc r h1 N1 → ∃ v : Int, r = some (JV v) ∧ ∃ o, h1 (cB G + 281) = some (eL G 1 o) ∧ Q (some (JV 0)) (hup h1 (cB G + 281) (eL G 1 (fup o 0 ((Int32.ofInt v).toInt64)))) N1) (hx : ∀ E h1 N1, Xc E h1 N1 → (E = x_ioobe ∧ Q (some (JV 1)) h1 N1)) : CH G mL_end [.ref (cB G), JV a1, .ref (cB G + 281)] h N 1 6 Q := by
  refine CH_of (by decide +kernel) (by simp [Value.category]) (Nat.le_of_ble_eq_true rfl) ?_
  change WP G mL_end _ noX _ _ h N 0 [some (.ref (cB G)), some (JV a1), some (.ref (cB G + 281)), none] []
  refine wp_aload_n dL_end_0 rfl ?_
  refine wp_iconst dL_end_1 ?_
  refine wp_aload_n dL_end_2 rfl ?_
  refine wp_iload_n dL_end_3 rfl ?_
  refine wp_callVx (k2 := 0) (n2 := 0) c cvL_86 dL_end_4 ⟨Nat.le_of_ble_eq_true rfl, Nat.le_of_ble_eq_true rfl⟩ (Nat.le_of_ble_eq_true rfl) hs rfl rfl rfl rfl (by omega) (by omega) (fun r h1 N1 q => ?_) (fun E h1 N1 q => ?_)
  · obtain ⟨v, rfl, o, ho, hQ⟩ := hq r h1 N1 q
    change WP G mL_end _ noX _ _ h1 N1 7 [some (.ref (cB G)), some (JV a1), some (.ref (cB G + 281)), none] [JV v, JV 0, .ref (cB G + 281)]
    refine wp_i2l dL_end_7 ?_
    refine wp_lastore dL_end_8 ho (by omega) (by omega) (by omega) ?_
    refine wp_goto 15 dL_end_9 (by decide) ?_
    refine wp_iconst dL_end_15 ?_
    refine wp_iret dL_end_16 rfl ?_
    exact hQ
  · obtain ⟨rfl, hQ⟩ := hx E h1 N1 q
    refine VX_catch [] ⟨0, 9, 12, 13⟩ [] rfl (fun z hz => absurd hz List.not_mem_nil) (by decide) (by decide) clL_13 (by decide) (fun q9 => ?_)
    change WP G mL_end _ noX _ _ h1 N1 12 [some (.ref (cB G)), some (JV a1), some (.ref (cB G + 281)), none] [.ref q9]
    refine wp_astore_n dL_end_12 (Nat.le_of_ble_eq_true rfl) rfl ?_
    refine wp_iconst dL_end_13 ?_
    refine wp_iret dL_end_14 rfl ?_
    exact hQ
theorem L_orderAt {a1 : Int} (hk1 : k1 ≤ 1) (hn1 : n1 ≤ 6) (hs : h (cB G) = some (cSP G st)) (c : CX G mX10_orderAt [.ref (cB G), JV a1] h N k1 n1 Qc Xc) (hq : ∀ r h1 N1, Qc r h1 N1 → ∃ v : Int, r = some (JV v) ∧ ∃ o, h1 (cB G + 281) = some (eL G 1 o) ∧ Q (some (JV 0)) (hup h1 (cB G + 281) (eL G 1 (fup o 0 ((Int32.ofInt v).toInt64)))) N1) (hx : ∀ E h1 N1, Xc E h1 N1 → (E = x_ioobe ∧ Q (some (JV 1)) h1 N1)) : CH G mL_orderAt [.ref (cB G), JV a1, .ref (cB G + 281)] h N 1 6 Q := by
  refine CH_of (by decide +kernel) (by simp [Value.category]) (Nat.le_of_ble_eq_true rfl) ?_
  change WP G mL_orderAt _ noX _ _ h N 0 [some (.ref (cB G)), some (JV a1), some (.ref (cB G + 281)), none] []
  refine wp_aload_n dL_orderAt_0 rfl ?_
  refine wp_iconst dL_orderAt_1 ?_
  refine wp_aload_n dL_orderAt_2 rfl ?_
  refine wp_iload_n dL_orderAt_3 rfl ?_
  refine wp_callVx (k2 := 0) (n2 := 0) c cvL_89 dL_orderAt_4 ⟨Nat.le_of_ble_eq_true rfl, Nat.le_of_ble_eq_true rfl⟩ (Nat.le_of_ble_eq_true rfl) hs rfl rfl rfl rfl (by omega) (by omega) (fun r h1 N1 q => ?_) (fun E h1 N1 q => ?_)
  · obtain ⟨v, rfl, o, ho, hQ⟩ := hq r h1 N1 q
    change WP G mL_orderAt _ noX _ _ h1 N1 7 [some (.ref (cB G)), some (JV a1), some (.ref (cB G + 281)), none] [JV v, JV 0, .ref (cB G + 281)]
    refine wp_i2l dL_orderAt_7 ?_
    refine wp_lastore dL_orderAt_8 ho (by omega) (by omega) (by omega) ?_
    refine wp_goto 15 dL_orderAt_9 (by decide) ?_
    refine wp_iconst dL_orderAt_15 ?_
    refine wp_iret dL_orderAt_16 rfl ?_
    exact hQ
  · obtain ⟨rfl, hQ⟩ := hx E h1 N1 q
    refine VX_catch [] ⟨0, 9, 12, 13⟩ [] rfl (fun z hz => absurd hz List.not_mem_nil) (by decide) (by decide) clL_13 (by decide) (fun q9 => ?_)
    change WP G mL_orderAt _ noX _ _ h1 N1 12 [some (.ref (cB G)), some (JV a1), some (.ref (cB G + 281)), none] [.ref q9]
    refine wp_astore_n dL_orderAt_12 (Nat.le_of_ble_eq_true rfl) rfl ?_
    refine wp_iconst dL_orderAt_13 ?_
    refine wp_iret dL_orderAt_14 rfl ?_
    exact hQ
theorem L_used {a1 a2 : Int} (hk1 : k1 ≤ 1) (hn1 : n1 ≤ 6) (hs : h (cB G) = some (cSP G st)) (c : CX G mX10_used [.ref (cB G), JV a1, JV a2] h N k1 n1 Qc Xc) (hq : ∀ r h1 N1, Qc r h1 N1 → ∃ v : Int, r = some (JV v) ∧ ∃ o, h1 (cB G + 281) = some (eL G 1 o) ∧ Q (some (JV 0)) (hup h1 (cB G + 281) (eL G 1 (fup o 0 ((Int32.ofInt v).toInt64)))) N1) (hx : ∀ E h1 N1, Xc E h1 N1 → (E = x_ioobe ∧ Q (some (JV 1)) h1 N1) ∨ (E = x_iae ∧ Q (some (JV 2)) h1 N1)) : CH G mL_used [.ref (cB G), JV a1, JV a2, .ref (cB G + 281)] h N 1 6 Q := by
  refine CH_of (by decide +kernel) (by simp [Value.category]) (Nat.le_of_ble_eq_true rfl) ?_
  change WP G mL_used _ noX _ _ h N 0 [some (.ref (cB G)), some (JV a1), some (JV a2), some (.ref (cB G + 281)), none] []
  refine wp_aload_n dL_used_0 rfl ?_
  refine wp_iconst dL_used_1 ?_
  refine wp_aload_n dL_used_2 rfl ?_
  refine wp_iload_n dL_used_3 rfl ?_
  refine wp_iload_n dL_used_4 rfl ?_
  refine wp_callVx (k2 := 0) (n2 := 0) c cvL_92 dL_used_5 ⟨Nat.le_of_ble_eq_true rfl, Nat.le_of_ble_eq_true rfl⟩ (Nat.le_of_ble_eq_true rfl) hs rfl rfl rfl rfl (by omega) (by omega) (fun r h1 N1 q => ?_) (fun E h1 N1 q => ?_)
  · obtain ⟨v, rfl, o, ho, hQ⟩ := hq r h1 N1 q
    change WP G mL_used _ noX _ _ h1 N1 8 [some (.ref (cB G)), some (JV a1), some (JV a2), some (.ref (cB G + 281)), none] [JV v, JV 0, .ref (cB G + 281)]
    refine wp_i2l dL_used_8 ?_
    refine wp_lastore dL_used_9 ho (by omega) (by omega) (by omega) ?_
    refine wp_goto 21 dL_used_10 (by decide) ?_
    refine wp_iconst dL_used_21 ?_
    refine wp_iret dL_used_22 rfl ?_
    exact hQ
  · rcases hx E h1 N1 q with ⟨rfl, hQ⟩ | ⟨rfl, hQ⟩
    · refine VX_catch [] ⟨0, 10, 13, 13⟩ [⟨0, 10, 17, 15⟩] rfl (fun z hz => absurd hz List.not_mem_nil) (by decide) (by decide) clL_13 (by decide) (fun q9 => ?_)
      change WP G mL_used _ noX _ _ h1 N1 13 [some (.ref (cB G)), some (JV a1), some (JV a2), some (.ref (cB G + 281)), none] [.ref q9]
      refine wp_astore dL_used_13 (Nat.le_of_ble_eq_true rfl) rfl ?_
      refine wp_iconst dL_used_15 ?_
      refine wp_iret dL_used_16 rfl ?_
      exact hQ
    · refine VX_catch [⟨0, 10, 13, 13⟩] ⟨0, 10, 17, 15⟩ [] rfl (fun z hz => by
          simp only [List.mem_cons, List.not_mem_nil, or_false] at hz
          subst hz
          · exact ⟨by decide, _, clL_13, by decide⟩) (by decide) (by decide) clL_15 (by decide) (fun q9 => ?_)
      change WP G mL_used _ noX _ _ h1 N1 17 [some (.ref (cB G)), some (JV a1), some (JV a2), some (.ref (cB G + 281)), none] [.ref q9]
      refine wp_astore dL_used_17 (Nat.le_of_ble_eq_true rfl) rfl ?_
      refine wp_iconst dL_used_19 ?_
      refine wp_iret dL_used_20 rfl ?_
      exact hQ
theorem L_peak {a1 : Int} (hk1 : k1 ≤ 1) (hn1 : n1 ≤ 6) (hs : h (cB G) = some (cSP G st)) (c : CX G mX10_peak [.ref (cB G), JV a1] h N k1 n1 Qc Xc) (hq : ∀ r h1 N1, Qc r h1 N1 → ∃ v : Int, r = some (JV v) ∧ ∃ o, h1 (cB G + 281) = some (eL G 1 o) ∧ Q (some (JV 0)) (hup h1 (cB G + 281) (eL G 1 (fup o 0 ((Int32.ofInt v).toInt64)))) N1) (hx : ∀ E h1 N1, Xc E h1 N1 → (E = x_ioobe ∧ Q (some (JV 1)) h1 N1)) : CH G mL_peak [.ref (cB G), JV a1, .ref (cB G + 281)] h N 1 6 Q := by
  refine CH_of (by decide +kernel) (by simp [Value.category]) (Nat.le_of_ble_eq_true rfl) ?_
  change WP G mL_peak _ noX _ _ h N 0 [some (.ref (cB G)), some (JV a1), some (.ref (cB G + 281)), none] []
  refine wp_aload_n dL_peak_0 rfl ?_
  refine wp_iconst dL_peak_1 ?_
  refine wp_aload_n dL_peak_2 rfl ?_
  refine wp_iload_n dL_peak_3 rfl ?_
  refine wp_callVx (k2 := 0) (n2 := 0) c cvL_95 dL_peak_4 ⟨Nat.le_of_ble_eq_true rfl, Nat.le_of_ble_eq_true rfl⟩ (Nat.le_of_ble_eq_true rfl) hs rfl rfl rfl rfl (by omega) (by omega) (fun r h1 N1 q => ?_) (fun E h1 N1 q => ?_)
  · obtain ⟨v, rfl, o, ho, hQ⟩ := hq r h1 N1 q
    change WP G mL_peak _ noX _ _ h1 N1 7 [some (.ref (cB G)), some (JV a1), some (.ref (cB G + 281)), none] [JV v, JV 0, .ref (cB G + 281)]
    refine wp_i2l dL_peak_7 ?_
    refine wp_lastore dL_peak_8 ho (by omega) (by omega) (by omega) ?_
    refine wp_goto 15 dL_peak_9 (by decide) ?_
    refine wp_iconst dL_peak_15 ?_
    refine wp_iret dL_peak_16 rfl ?_
    exact hQ
  · obtain ⟨rfl, hQ⟩ := hx E h1 N1 q
    refine VX_catch [] ⟨0, 9, 12, 13⟩ [] rfl (fun z hz => absurd hz List.not_mem_nil) (by decide) (by decide) clL_13 (by decide) (fun q9 => ?_)
    change WP G mL_peak _ noX _ _ h1 N1 12 [some (.ref (cB G)), some (JV a1), some (.ref (cB G + 281)), none] [.ref q9]
    refine wp_astore_n dL_peak_12 (Nat.le_of_ble_eq_true rfl) rfl ?_
    refine wp_iconst dL_peak_13 ?_
    refine wp_iret dL_peak_14 rfl ?_
    exact hQ
theorem L_holds {a1 : Int} (hk1 : k1 ≤ 1) (hn1 : n1 ≤ 6) (hs : h (cB G) = some (cSP G st)) (c : CX G mX10_holds [.ref (cB G), JV a1] h N k1 n1 Qc Xc) (hq : ∀ r h1 N1, Qc r h1 N1 → ∃ v : Int, r = some (JV v) ∧ ∃ o, h1 (cB G + 281) = some (eL G 1 o) ∧ Q (some (JV 0)) (hup h1 (cB G + 281) (eL G 1 (fup o 0 ((Int32.ofInt v).toInt64)))) N1) (hx : ∀ E h1 N1, Xc E h1 N1 → (E = x_ioobe ∧ Q (some (JV 1)) h1 N1)) : CH G mL_holds [.ref (cB G), JV a1, .ref (cB G + 281)] h N 1 6 Q := by
  refine CH_of (by decide +kernel) (by simp [Value.category]) (Nat.le_of_ble_eq_true rfl) ?_
  change WP G mL_holds _ noX _ _ h N 0 [some (.ref (cB G)), some (JV a1), some (.ref (cB G + 281)), none] []
  refine wp_aload_n dL_holds_0 rfl ?_
  refine wp_iconst dL_holds_1 ?_
  refine wp_aload_n dL_holds_2 rfl ?_
  refine wp_iload_n dL_holds_3 rfl ?_
  refine wp_callVx (k2 := 0) (n2 := 0) c cvL_98 dL_holds_4 ⟨Nat.le_of_ble_eq_true rfl, Nat.le_of_ble_eq_true rfl⟩ (Nat.le_of_ble_eq_true rfl) hs rfl rfl rfl rfl (by omega) (by omega) (fun r h1 N1 q => ?_) (fun E h1 N1 q => ?_)
  · obtain ⟨v, rfl, o, ho, hQ⟩ := hq r h1 N1 q
    change WP G mL_holds _ noX _ _ h1 N1 7 [some (.ref (cB G)), some (JV a1), some (.ref (cB G + 281)), none] [JV v, JV 0, .ref (cB G + 281)]
    refine wp_i2l dL_holds_7 ?_
    refine wp_lastore dL_holds_8 ho (by omega) (by omega) (by omega) ?_
    refine wp_goto 15 dL_holds_9 (by decide) ?_
    refine wp_iconst dL_holds_15 ?_
    refine wp_iret dL_holds_16 rfl ?_
    exact hQ
  · obtain ⟨rfl, hQ⟩ := hx E h1 N1 q
    refine VX_catch [] ⟨0, 9, 12, 13⟩ [] rfl (fun z hz => absurd hz List.not_mem_nil) (by decide) (by decide) clL_13 (by decide) (fun q9 => ?_)
    change WP G mL_holds _ noX _ _ h1 N1 12 [some (.ref (cB G)), some (JV a1), some (.ref (cB G + 281)), none] [.ref q9]
    refine wp_astore_n dL_holds_12 (Nat.le_of_ble_eq_true rfl) rfl ?_
    refine wp_iconst dL_holds_13 ?_
    refine wp_iret dL_holds_14 rfl ?_
    exact hQ
theorem L_heldBy {a1 : Int} (hk1 : k1 ≤ 1) (hn1 : n1 ≤ 6) (hs : h (cB G) = some (cSP G st)) (c : CX G mX10_heldBy [.ref (cB G), JV a1] h N k1 n1 Qc Xc) (hq : ∀ r h1 N1, Qc r h1 N1 → ∃ v : Int, r = some (JV v) ∧ ∃ o, h1 (cB G + 281) = some (eL G 1 o) ∧ Q (some (JV 0)) (hup h1 (cB G + 281) (eL G 1 (fup o 0 ((Int32.ofInt v).toInt64)))) N1) (hx : ∀ E h1 N1, Xc E h1 N1 → (E = x_ioobe ∧ Q (some (JV 1)) h1 N1)) : CH G mL_heldBy [.ref (cB G), JV a1, .ref (cB G + 281)] h N 1 6 Q := by
  refine CH_of (by decide +kernel) (by simp [Value.category]) (Nat.le_of_ble_eq_true rfl) ?_
  change WP G mL_heldBy _ noX _ _ h N 0 [some (.ref (cB G)), some (JV a1), some (.ref (cB G + 281)), none] []
  refine wp_aload_n dL_heldBy_0 rfl ?_
  refine wp_iconst dL_heldBy_1 ?_
  refine wp_aload_n dL_heldBy_2 rfl ?_
  refine wp_iload_n dL_heldBy_3 rfl ?_
  refine wp_callVx (k2 := 0) (n2 := 0) c cvL_101 dL_heldBy_4 ⟨Nat.le_of_ble_eq_true rfl, Nat.le_of_ble_eq_true rfl⟩ (Nat.le_of_ble_eq_true rfl) hs rfl rfl rfl rfl (by omega) (by omega) (fun r h1 N1 q => ?_) (fun E h1 N1 q => ?_)
  · obtain ⟨v, rfl, o, ho, hQ⟩ := hq r h1 N1 q
    change WP G mL_heldBy _ noX _ _ h1 N1 7 [some (.ref (cB G)), some (JV a1), some (.ref (cB G + 281)), none] [JV v, JV 0, .ref (cB G + 281)]
    refine wp_i2l dL_heldBy_7 ?_
    refine wp_lastore dL_heldBy_8 ho (by omega) (by omega) (by omega) ?_
    refine wp_goto 15 dL_heldBy_9 (by decide) ?_
    refine wp_iconst dL_heldBy_15 ?_
    refine wp_iret dL_heldBy_16 rfl ?_
    exact hQ
  · obtain ⟨rfl, hQ⟩ := hx E h1 N1 q
    refine VX_catch [] ⟨0, 9, 12, 13⟩ [] rfl (fun z hz => absurd hz List.not_mem_nil) (by decide) (by decide) clL_13 (by decide) (fun q9 => ?_)
    change WP G mL_heldBy _ noX _ _ h1 N1 12 [some (.ref (cB G)), some (JV a1), some (.ref (cB G + 281)), none] [.ref q9]
    refine wp_astore_n dL_heldBy_12 (Nat.le_of_ble_eq_true rfl) rfl ?_
    refine wp_iconst dL_heldBy_13 ?_
    refine wp_iret dL_heldBy_14 rfl ?_
    exact hQ
theorem L_idle {a1 : Int} (hk1 : k1 ≤ 1) (hn1 : n1 ≤ 6) (hs : h (cB G) = some (cSP G st)) (c : CX G mX10_idle [.ref (cB G), JV a1] h N k1 n1 Qc Xc) (hq : ∀ r h1 N1, Qc r h1 N1 → ∃ v : Int, r = some (JV v) ∧ ∃ o, h1 (cB G + 281) = some (eL G 1 o) ∧ Q (some (JV 0)) (hup h1 (cB G + 281) (eL G 1 (fup o 0 ((Int32.ofInt v).toInt64)))) N1) (hx : ∀ E h1 N1, Xc E h1 N1 → (E = x_ioobe ∧ Q (some (JV 1)) h1 N1)) : CH G mL_idle [.ref (cB G), JV a1, .ref (cB G + 281)] h N 1 6 Q := by
  refine CH_of (by decide +kernel) (by simp [Value.category]) (Nat.le_of_ble_eq_true rfl) ?_
  change WP G mL_idle _ noX _ _ h N 0 [some (.ref (cB G)), some (JV a1), some (.ref (cB G + 281)), none] []
  refine wp_aload_n dL_idle_0 rfl ?_
  refine wp_iconst dL_idle_1 ?_
  refine wp_aload_n dL_idle_2 rfl ?_
  refine wp_iload_n dL_idle_3 rfl ?_
  refine wp_callVx (k2 := 0) (n2 := 0) c cvL_104 dL_idle_4 ⟨Nat.le_of_ble_eq_true rfl, Nat.le_of_ble_eq_true rfl⟩ (Nat.le_of_ble_eq_true rfl) hs rfl rfl rfl rfl (by omega) (by omega) (fun r h1 N1 q => ?_) (fun E h1 N1 q => ?_)
  · obtain ⟨v, rfl, o, ho, hQ⟩ := hq r h1 N1 q
    change WP G mL_idle _ noX _ _ h1 N1 7 [some (.ref (cB G)), some (JV a1), some (.ref (cB G + 281)), none] [JV v, JV 0, .ref (cB G + 281)]
    refine wp_i2l dL_idle_7 ?_
    refine wp_lastore dL_idle_8 ho (by omega) (by omega) (by omega) ?_
    refine wp_goto 15 dL_idle_9 (by decide) ?_
    refine wp_iconst dL_idle_15 ?_
    refine wp_iret dL_idle_16 rfl ?_
    exact hQ
  · obtain ⟨rfl, hQ⟩ := hx E h1 N1 q
    refine VX_catch [] ⟨0, 9, 12, 13⟩ [] rfl (fun z hz => absurd hz List.not_mem_nil) (by decide) (by decide) clL_13 (by decide) (fun q9 => ?_)
    change WP G mL_idle _ noX _ _ h1 N1 12 [some (.ref (cB G)), some (JV a1), some (.ref (cB G + 281)), none] [.ref q9]
    refine wp_astore_n dL_idle_12 (Nat.le_of_ble_eq_true rfl) rfl ?_
    refine wp_iconst dL_idle_13 ?_
    refine wp_iret dL_idle_14 rfl ?_
    exact hQ
theorem L_behind {a1 : Int} (hk1 : k1 ≤ 1) (hn1 : n1 ≤ 6) (hs : h (cB G) = some (cSP G st)) (c : CX G mX10_behind [.ref (cB G), JV a1] h N k1 n1 Qc Xc) (hq : ∀ r h1 N1, Qc r h1 N1 → ∃ v : Int, r = some (JV v) ∧ ∃ o, h1 (cB G + 281) = some (eL G 1 o) ∧ Q (some (JV 0)) (hup h1 (cB G + 281) (eL G 1 (fup o 0 ((Int32.ofInt v).toInt64)))) N1) (hx : ∀ E h1 N1, Xc E h1 N1 → (E = x_ioobe ∧ Q (some (JV 1)) h1 N1)) : CH G mL_behind [.ref (cB G), JV a1, .ref (cB G + 281)] h N 1 6 Q := by
  refine CH_of (by decide +kernel) (by simp [Value.category]) (Nat.le_of_ble_eq_true rfl) ?_
  change WP G mL_behind _ noX _ _ h N 0 [some (.ref (cB G)), some (JV a1), some (.ref (cB G + 281)), none] []
  refine wp_aload_n dL_behind_0 rfl ?_
  refine wp_iconst dL_behind_1 ?_
  refine wp_aload_n dL_behind_2 rfl ?_
  refine wp_iload_n dL_behind_3 rfl ?_
  refine wp_callVx (k2 := 0) (n2 := 0) c cvL_107 dL_behind_4 ⟨Nat.le_of_ble_eq_true rfl, Nat.le_of_ble_eq_true rfl⟩ (Nat.le_of_ble_eq_true rfl) hs rfl rfl rfl rfl (by omega) (by omega) (fun r h1 N1 q => ?_) (fun E h1 N1 q => ?_)
  · obtain ⟨v, rfl, o, ho, hQ⟩ := hq r h1 N1 q
    change WP G mL_behind _ noX _ _ h1 N1 7 [some (.ref (cB G)), some (JV a1), some (.ref (cB G + 281)), none] [JV v, JV 0, .ref (cB G + 281)]
    refine wp_i2l dL_behind_7 ?_
    refine wp_lastore dL_behind_8 ho (by omega) (by omega) (by omega) ?_
    refine wp_goto 15 dL_behind_9 (by decide) ?_
    refine wp_iconst dL_behind_15 ?_
    refine wp_iret dL_behind_16 rfl ?_
    exact hQ
  · obtain ⟨rfl, hQ⟩ := hx E h1 N1 q
    refine VX_catch [] ⟨0, 9, 12, 13⟩ [] rfl (fun z hz => absurd hz List.not_mem_nil) (by decide) (by decide) clL_13 (by decide) (fun q9 => ?_)
    change WP G mL_behind _ noX _ _ h1 N1 12 [some (.ref (cB G)), some (JV a1), some (.ref (cB G + 281)), none] [.ref q9]
    refine wp_astore_n dL_behind_12 (Nat.le_of_ble_eq_true rfl) rfl ?_
    refine wp_iconst dL_behind_13 ?_
    refine wp_iret dL_behind_14 rfl ?_
    exact hQ
theorem L_planned {a1 : Int} (hk1 : k1 ≤ 1) (hn1 : n1 ≤ 6) (hs : h (cB G) = some (cSP G st)) (c : CX G mX10_planned [.ref (cB G), JV a1] h N k1 n1 Qc Xc) (hq : ∀ r h1 N1, Qc r h1 N1 → ∃ v : Int, r = some (JV v) ∧ ∃ o, h1 (cB G + 281) = some (eL G 1 o) ∧ Q (some (JV 0)) (hup h1 (cB G + 281) (eL G 1 (fup o 0 ((Int32.ofInt v).toInt64)))) N1) (hx : ∀ E h1 N1, Xc E h1 N1 → (E = x_iae ∧ Q (some (JV 1)) h1 N1)) : CH G mL_planned [.ref (cB G), JV a1, .ref (cB G + 281)] h N 1 6 Q := by
  refine CH_of (by decide +kernel) (by simp [Value.category]) (Nat.le_of_ble_eq_true rfl) ?_
  change WP G mL_planned _ noX _ _ h N 0 [some (.ref (cB G)), some (JV a1), some (.ref (cB G + 281)), none] []
  refine wp_aload_n dL_planned_0 rfl ?_
  refine wp_iconst dL_planned_1 ?_
  refine wp_aload_n dL_planned_2 rfl ?_
  refine wp_iload_n dL_planned_3 rfl ?_
  refine wp_callVx (k2 := 0) (n2 := 0) c cvL_110 dL_planned_4 ⟨Nat.le_of_ble_eq_true rfl, Nat.le_of_ble_eq_true rfl⟩ (Nat.le_of_ble_eq_true rfl) hs rfl rfl rfl rfl (by omega) (by omega) (fun r h1 N1 q => ?_) (fun E h1 N1 q => ?_)
  · obtain ⟨v, rfl, o, ho, hQ⟩ := hq r h1 N1 q
    change WP G mL_planned _ noX _ _ h1 N1 7 [some (.ref (cB G)), some (JV a1), some (.ref (cB G + 281)), none] [JV v, JV 0, .ref (cB G + 281)]
    refine wp_i2l dL_planned_7 ?_
    refine wp_lastore dL_planned_8 ho (by omega) (by omega) (by omega) ?_
    refine wp_goto 15 dL_planned_9 (by decide) ?_
    refine wp_iconst dL_planned_15 ?_
    refine wp_iret dL_planned_16 rfl ?_
    exact hQ
  · obtain ⟨rfl, hQ⟩ := hx E h1 N1 q
    refine VX_catch [] ⟨0, 9, 12, 15⟩ [] rfl (fun z hz => absurd hz List.not_mem_nil) (by decide) (by decide) clL_15 (by decide) (fun q9 => ?_)
    change WP G mL_planned _ noX _ _ h1 N1 12 [some (.ref (cB G)), some (JV a1), some (.ref (cB G + 281)), none] [.ref q9]
    refine wp_astore_n dL_planned_12 (Nat.le_of_ble_eq_true rfl) rfl ?_
    refine wp_iconst dL_planned_13 ?_
    refine wp_iret dL_planned_14 rfl ?_
    exact hQ
theorem L_pace {a1 : Int} (hk1 : k1 ≤ 1) (hn1 : n1 ≤ 6) (hs : h (cB G) = some (cSP G st)) (c : CX G mX10_pace [.ref (cB G), JV a1] h N k1 n1 Qc Xc) (hq : ∀ r h1 N1, Qc r h1 N1 → ∃ v : UInt64, r = some (.double v) ∧ ∃ o, h1 (cB G + 282) = some (eD G 1 o) ∧ Q (some (JV 0)) (hup h1 (cB G + 282) (eD G 1 (fup o 0 v))) N1) (hx : ∀ E h1 N1, Xc E h1 N1 → (E = x_iae ∧ Q (some (JV 1)) h1 N1)) : CH G mL_pace [.ref (cB G), JV a1, .ref (cB G + 282)] h N 1 6 Q := by
  refine CH_of (by decide +kernel) (by simp [Value.category]) (Nat.le_of_ble_eq_true rfl) ?_
  change WP G mL_pace _ noX _ _ h N 0 [some (.ref (cB G)), some (JV a1), some (.ref (cB G + 282)), none] []
  refine wp_aload_n dL_pace_0 rfl ?_
  refine wp_iconst dL_pace_1 ?_
  refine wp_aload_n dL_pace_2 rfl ?_
  refine wp_iload_n dL_pace_3 rfl ?_
  refine wp_callVx (k2 := 0) (n2 := 0) c cvL_113 dL_pace_4 ⟨Nat.le_of_ble_eq_true rfl, Nat.le_of_ble_eq_true rfl⟩ (Nat.le_of_ble_eq_true rfl) hs rfl rfl rfl rfl (by omega) (by omega) (fun r h1 N1 q => ?_) (fun E h1 N1 q => ?_)
  · obtain ⟨v, rfl, o, ho, hQ⟩ := hq r h1 N1 q
    change WP G mL_pace _ noX _ _ h1 N1 7 [some (.ref (cB G)), some (JV a1), some (.ref (cB G + 282)), none] [.double v, JV 0, .ref (cB G + 282)]
    refine wp_dastore dL_pace_7 ho (by omega) (by omega) (by omega) ?_
    refine wp_goto 14 dL_pace_8 (by decide) ?_
    refine wp_iconst dL_pace_14 ?_
    refine wp_iret dL_pace_15 rfl ?_
    exact hQ
  · obtain ⟨rfl, hQ⟩ := hx E h1 N1 q
    refine VX_catch [] ⟨0, 8, 11, 15⟩ [] rfl (fun z hz => absurd hz List.not_mem_nil) (by decide) (by decide) clL_15 (by decide) (fun q9 => ?_)
    change WP G mL_pace _ noX _ _ h1 N1 11 [some (.ref (cB G)), some (JV a1), some (.ref (cB G + 282)), none] [.ref q9]
    refine wp_astore_n dL_pace_11 (Nat.le_of_ble_eq_true rfl) rfl ?_
    refine wp_iconst dL_pace_12 ?_
    refine wp_iret dL_pace_13 rfl ?_
    exact hQ
theorem L_lastWith {a1 a2 : Int} (hk1 : k1 ≤ 1) (hn1 : n1 ≤ 6) (hs : h (cB G) = some (cSP G st)) (c : CX G mX10_lastWith [.ref (cB G), JV a1, JV a2] h N k1 n1 Qc Xc) (hq : ∀ r h1 N1, Qc r h1 N1 → ∃ v : Int, r = some (JV v) ∧ ∃ o, h1 (cB G + 281) = some (eL G 1 o) ∧ Q (some (JV 0)) (hup h1 (cB G + 281) (eL G 1 (fup o 0 ((Int32.ofInt v).toInt64)))) N1) (hx : ∀ E h1 N1, Xc E h1 N1 → (E = x_ioobe ∧ Q (some (JV 1)) h1 N1) ∨ (E = x_iae ∧ Q (some (JV 2)) h1 N1)) : CH G mL_lastWith [.ref (cB G), JV a1, JV a2, .ref (cB G + 281)] h N 1 6 Q := by
  refine CH_of (by decide +kernel) (by simp [Value.category]) (Nat.le_of_ble_eq_true rfl) ?_
  change WP G mL_lastWith _ noX _ _ h N 0 [some (.ref (cB G)), some (JV a1), some (JV a2), some (.ref (cB G + 281)), none] []
  refine wp_aload_n dL_lastWith_0 rfl ?_
  refine wp_iconst dL_lastWith_1 ?_
  refine wp_aload_n dL_lastWith_2 rfl ?_
  refine wp_iload_n dL_lastWith_3 rfl ?_
  refine wp_iload_n dL_lastWith_4 rfl ?_
  refine wp_callVx (k2 := 0) (n2 := 0) c cvL_117 dL_lastWith_5 ⟨Nat.le_of_ble_eq_true rfl, Nat.le_of_ble_eq_true rfl⟩ (Nat.le_of_ble_eq_true rfl) hs rfl rfl rfl rfl (by omega) (by omega) (fun r h1 N1 q => ?_) (fun E h1 N1 q => ?_)
  · obtain ⟨v, rfl, o, ho, hQ⟩ := hq r h1 N1 q
    change WP G mL_lastWith _ noX _ _ h1 N1 8 [some (.ref (cB G)), some (JV a1), some (JV a2), some (.ref (cB G + 281)), none] [JV v, JV 0, .ref (cB G + 281)]
    refine wp_i2l dL_lastWith_8 ?_
    refine wp_lastore dL_lastWith_9 ho (by omega) (by omega) (by omega) ?_
    refine wp_goto 21 dL_lastWith_10 (by decide) ?_
    refine wp_iconst dL_lastWith_21 ?_
    refine wp_iret dL_lastWith_22 rfl ?_
    exact hQ
  · rcases hx E h1 N1 q with ⟨rfl, hQ⟩ | ⟨rfl, hQ⟩
    · refine VX_catch [] ⟨0, 10, 13, 13⟩ [⟨0, 10, 17, 15⟩] rfl (fun z hz => absurd hz List.not_mem_nil) (by decide) (by decide) clL_13 (by decide) (fun q9 => ?_)
      change WP G mL_lastWith _ noX _ _ h1 N1 13 [some (.ref (cB G)), some (JV a1), some (JV a2), some (.ref (cB G + 281)), none] [.ref q9]
      refine wp_astore dL_lastWith_13 (Nat.le_of_ble_eq_true rfl) rfl ?_
      refine wp_iconst dL_lastWith_15 ?_
      refine wp_iret dL_lastWith_16 rfl ?_
      exact hQ
    · refine VX_catch [⟨0, 10, 13, 13⟩] ⟨0, 10, 17, 15⟩ [] rfl (fun z hz => by
          simp only [List.mem_cons, List.not_mem_nil, or_false] at hz
          subst hz
          · exact ⟨by decide, _, clL_13, by decide⟩) (by decide) (by decide) clL_15 (by decide) (fun q9 => ?_)
      change WP G mL_lastWith _ noX _ _ h1 N1 17 [some (.ref (cB G)), some (JV a1), some (JV a2), some (.ref (cB G + 281)), none] [.ref q9]
      refine wp_astore dL_lastWith_17 (Nat.le_of_ble_eq_true rfl) rfl ?_
      refine wp_iconst dL_lastWith_19 ?_
      refine wp_iret dL_lastWith_20 rfl ?_
      exact hQ
theorem L_levelledWith {a1 a2 : Int} (hk1 : k1 ≤ 1) (hn1 : n1 ≤ 6) (hs : h (cB G) = some (cSP G st)) (c : CX G mX10_levelledWith [.ref (cB G), JV a1, JV a2] h N k1 n1 Qc Xc) (hq : ∀ r h1 N1, Qc r h1 N1 → ∃ v : Int, r = some (JV v) ∧ ∃ o, h1 (cB G + 281) = some (eL G 1 o) ∧ Q (some (JV 0)) (hup h1 (cB G + 281) (eL G 1 (fup o 0 ((Int32.ofInt v).toInt64)))) N1) (hx : ∀ E h1 N1, Xc E h1 N1 → (E = x_ioobe ∧ Q (some (JV 1)) h1 N1) ∨ (E = x_iae ∧ Q (some (JV 2)) h1 N1)) : CH G mL_levelledWith [.ref (cB G), JV a1, JV a2, .ref (cB G + 281)] h N 1 6 Q := by
  refine CH_of (by decide +kernel) (by simp [Value.category]) (Nat.le_of_ble_eq_true rfl) ?_
  change WP G mL_levelledWith _ noX _ _ h N 0 [some (.ref (cB G)), some (JV a1), some (JV a2), some (.ref (cB G + 281)), none] []
  refine wp_aload_n dL_levelledWith_0 rfl ?_
  refine wp_iconst dL_levelledWith_1 ?_
  refine wp_aload_n dL_levelledWith_2 rfl ?_
  refine wp_iload_n dL_levelledWith_3 rfl ?_
  refine wp_iload_n dL_levelledWith_4 rfl ?_
  refine wp_callVx (k2 := 0) (n2 := 0) c cvL_120 dL_levelledWith_5 ⟨Nat.le_of_ble_eq_true rfl, Nat.le_of_ble_eq_true rfl⟩ (Nat.le_of_ble_eq_true rfl) hs rfl rfl rfl rfl (by omega) (by omega) (fun r h1 N1 q => ?_) (fun E h1 N1 q => ?_)
  · obtain ⟨v, rfl, o, ho, hQ⟩ := hq r h1 N1 q
    change WP G mL_levelledWith _ noX _ _ h1 N1 8 [some (.ref (cB G)), some (JV a1), some (JV a2), some (.ref (cB G + 281)), none] [JV v, JV 0, .ref (cB G + 281)]
    refine wp_i2l dL_levelledWith_8 ?_
    refine wp_lastore dL_levelledWith_9 ho (by omega) (by omega) (by omega) ?_
    refine wp_goto 21 dL_levelledWith_10 (by decide) ?_
    refine wp_iconst dL_levelledWith_21 ?_
    refine wp_iret dL_levelledWith_22 rfl ?_
    exact hQ
  · rcases hx E h1 N1 q with ⟨rfl, hQ⟩ | ⟨rfl, hQ⟩
    · refine VX_catch [] ⟨0, 10, 13, 13⟩ [⟨0, 10, 17, 15⟩] rfl (fun z hz => absurd hz List.not_mem_nil) (by decide) (by decide) clL_13 (by decide) (fun q9 => ?_)
      change WP G mL_levelledWith _ noX _ _ h1 N1 13 [some (.ref (cB G)), some (JV a1), some (JV a2), some (.ref (cB G + 281)), none] [.ref q9]
      refine wp_astore dL_levelledWith_13 (Nat.le_of_ble_eq_true rfl) rfl ?_
      refine wp_iconst dL_levelledWith_15 ?_
      refine wp_iret dL_levelledWith_16 rfl ?_
      exact hQ
    · refine VX_catch [⟨0, 10, 13, 13⟩] ⟨0, 10, 17, 15⟩ [] rfl (fun z hz => by
          simp only [List.mem_cons, List.not_mem_nil, or_false] at hz
          subst hz
          · exact ⟨by decide, _, clL_13, by decide⟩) (by decide) (by decide) clL_15 (by decide) (fun q9 => ?_)
      change WP G mL_levelledWith _ noX _ _ h1 N1 17 [some (.ref (cB G)), some (JV a1), some (JV a2), some (.ref (cB G + 281)), none] [.ref q9]
      refine wp_astore dL_levelledWith_17 (Nat.le_of_ble_eq_true rfl) rfl ?_
      refine wp_iconst dL_levelledWith_19 ?_
      refine wp_iret dL_levelledWith_20 rfl ?_
      exact hQ
theorem L_levelledWithout {a1 : Int} (hk1 : k1 ≤ 1) (hn1 : n1 ≤ 6) (hs : h (cB G) = some (cSP G st)) (c : CX G mX10_levelledWithout [.ref (cB G), JV a1] h N k1 n1 Qc Xc) (hq : ∀ r h1 N1, Qc r h1 N1 → ∃ v : Int, r = some (JV v) ∧ ∃ o, h1 (cB G + 281) = some (eL G 1 o) ∧ Q (some (JV 0)) (hup h1 (cB G + 281) (eL G 1 (fup o 0 ((Int32.ofInt v).toInt64)))) N1) (hx : ∀ E h1 N1, Xc E h1 N1 → (E = x_ioobe ∧ Q (some (JV 1)) h1 N1)) : CH G mL_levelledWithout [.ref (cB G), JV a1, .ref (cB G + 281)] h N 1 6 Q := by
  refine CH_of (by decide +kernel) (by simp [Value.category]) (Nat.le_of_ble_eq_true rfl) ?_
  change WP G mL_levelledWithout _ noX _ _ h N 0 [some (.ref (cB G)), some (JV a1), some (.ref (cB G + 281)), none] []
  refine wp_aload_n dL_levelledWithout_0 rfl ?_
  refine wp_iconst dL_levelledWithout_1 ?_
  refine wp_aload_n dL_levelledWithout_2 rfl ?_
  refine wp_iload_n dL_levelledWithout_3 rfl ?_
  refine wp_callVx (k2 := 0) (n2 := 0) c cvL_123 dL_levelledWithout_4 ⟨Nat.le_of_ble_eq_true rfl, Nat.le_of_ble_eq_true rfl⟩ (Nat.le_of_ble_eq_true rfl) hs rfl rfl rfl rfl (by omega) (by omega) (fun r h1 N1 q => ?_) (fun E h1 N1 q => ?_)
  · obtain ⟨v, rfl, o, ho, hQ⟩ := hq r h1 N1 q
    change WP G mL_levelledWithout _ noX _ _ h1 N1 7 [some (.ref (cB G)), some (JV a1), some (.ref (cB G + 281)), none] [JV v, JV 0, .ref (cB G + 281)]
    refine wp_i2l dL_levelledWithout_7 ?_
    refine wp_lastore dL_levelledWithout_8 ho (by omega) (by omega) (by omega) ?_
    refine wp_goto 15 dL_levelledWithout_9 (by decide) ?_
    refine wp_iconst dL_levelledWithout_15 ?_
    refine wp_iret dL_levelledWithout_16 rfl ?_
    exact hQ
  · obtain ⟨rfl, hQ⟩ := hx E h1 N1 q
    refine VX_catch [] ⟨0, 9, 12, 13⟩ [] rfl (fun z hz => absurd hz List.not_mem_nil) (by decide) (by decide) clL_13 (by decide) (fun q9 => ?_)
    change WP G mL_levelledWithout _ noX _ _ h1 N1 12 [some (.ref (cB G)), some (JV a1), some (.ref (cB G + 281)), none] [.ref q9]
    refine wp_astore_n dL_levelledWithout_12 (Nat.le_of_ble_eq_true rfl) rfl ?_
    refine wp_iconst dL_levelledWithout_13 ?_
    refine wp_iret dL_levelledWithout_14 rfl ?_
    exact hQ
theorem L_couldGrow {a1 : Int} (hk1 : k1 ≤ 1) (hn1 : n1 ≤ 6) (hs : h (cB G) = some (cSP G st)) (c : CX G mX10_couldGrow [.ref (cB G), JV a1] h N k1 n1 Qc Xc) (hq : ∀ r h1 N1, Qc r h1 N1 → ∃ v : Int, r = some (JV v) ∧ ∃ o, h1 (cB G + 281) = some (eL G 1 o) ∧ Q (some (JV 0)) (hup h1 (cB G + 281) (eL G 1 (fup o 0 ((Int32.ofInt v).toInt64)))) N1) (hx : ∀ E h1 N1, Xc E h1 N1 → (E = x_ioobe ∧ Q (some (JV 1)) h1 N1)) : CH G mL_couldGrow [.ref (cB G), JV a1, .ref (cB G + 281)] h N 1 6 Q := by
  refine CH_of (by decide +kernel) (by simp [Value.category]) (Nat.le_of_ble_eq_true rfl) ?_
  change WP G mL_couldGrow _ noX _ _ h N 0 [some (.ref (cB G)), some (JV a1), some (.ref (cB G + 281)), none] []
  refine wp_aload_n dL_couldGrow_0 rfl ?_
  refine wp_iconst dL_couldGrow_1 ?_
  refine wp_aload_n dL_couldGrow_2 rfl ?_
  refine wp_iload_n dL_couldGrow_3 rfl ?_
  refine wp_callVx (k2 := 0) (n2 := 0) c cvL_126 dL_couldGrow_4 ⟨Nat.le_of_ble_eq_true rfl, Nat.le_of_ble_eq_true rfl⟩ (Nat.le_of_ble_eq_true rfl) hs rfl rfl rfl rfl (by omega) (by omega) (fun r h1 N1 q => ?_) (fun E h1 N1 q => ?_)
  · obtain ⟨v, rfl, o, ho, hQ⟩ := hq r h1 N1 q
    change WP G mL_couldGrow _ noX _ _ h1 N1 7 [some (.ref (cB G)), some (JV a1), some (.ref (cB G + 281)), none] [JV v, JV 0, .ref (cB G + 281)]
    refine wp_i2l dL_couldGrow_7 ?_
    refine wp_lastore dL_couldGrow_8 ho (by omega) (by omega) (by omega) ?_
    refine wp_goto 15 dL_couldGrow_9 (by decide) ?_
    refine wp_iconst dL_couldGrow_15 ?_
    refine wp_iret dL_couldGrow_16 rfl ?_
    exact hQ
  · obtain ⟨rfl, hQ⟩ := hx E h1 N1 q
    refine VX_catch [] ⟨0, 9, 12, 13⟩ [] rfl (fun z hz => absurd hz List.not_mem_nil) (by decide) (by decide) clL_13 (by decide) (fun q9 => ?_)
    change WP G mL_couldGrow _ noX _ _ h1 N1 12 [some (.ref (cB G)), some (JV a1), some (.ref (cB G + 281)), none] [.ref q9]
    refine wp_astore_n dL_couldGrow_12 (Nat.le_of_ble_eq_true rfl) rfl ?_
    refine wp_iconst dL_couldGrow_13 ?_
    refine wp_iret dL_couldGrow_14 rfl ?_
    exact hQ
end Wr

/-! ===== what the planner is told ===== -/
section Tell
variable {G : Ctx} {h : AH} {N : Nat} {S : ST} {st : Int} {K : KTup}
theorem SPI.stale {S' : ST} {h' : AH} (sp : SPI G h S st K) (hs' : h' (cB G) = some (cSP G 1)) (H' : HP G S' h') (w' : WF S') (tp' : TOP S') (fr : ∀ q, cB G + 108 ≤ q → h' q = h q) : SPI G h' S' 1 K := by
  obtain ⟨hs, H, w, tp, nt, lt, kp, c⟩ := sp
  refine ⟨hs', H', w', tp', nt.frame (fun q h1 h2 => fr q (by omega)), lt.frame (fun q h1 h2 => fr q (by omega)), ⟨kp.1.frame (fun q h1 h2 => fr q (by omega)), kp.2⟩, Or.inl ⟨rfl, ?_⟩, fun q hq => (fr q (by omega)).trans (c.2 q hq)⟩
  rcases c with ⟨⟨_, n, l, d⟩ | ⟨_, f⟩, _⟩
  · exact ⟨n.frame (fun q h1 h2 => fr q (by omega)), l.frame (fun q h1 h2 => fr q (by omega)), d.frame (fun q h1 h2 => fr q (by omega))⟩
  · obtain ⟨eb, ee, lb, le, rm, ld, wu, od, u, W, fa, fb, fc, fd, V, li⟩ := f
    exact ⟨⟨eb, ee, lb, le, rm, ld, W.frame (fun q h1 h2 => fr q (by omega)), fa⟩,
      ⟨_, _, _, u, _, _, _, _, V.frame (fun q h1 h2 => fr q (by omega)), li.2.2.2.2.1, li.z⟩,
      ⟨_, wu, fd.1.frame (fun q h1 h2 => fr q (by omega)), fd.2.1, fun c _ d hd => ldg_wz fd.2.2 c d hd⟩⟩
theorem TOP.same {S S' : ST} (t : TOP S) (h13 : S' 13 = S 13) (h14 : S' 14 = S 14) (h16 : S' 16 = S 16) (h18 : S' 18 = S 18) (h19 : S' 19 = S 19) (h20 : S' 20 = S 20) : TOP S' := by
  unfold TOP lF lT at *
  rw [h13, h14, h16, h18, h19, h20]
  exact t
theorem c_setWeek {t : Nat} {x : Int} (sp : SPI G h S st K) (ht : t < 4) (hx : 1 ≤ x ∧ x ≤ 127) : CT G mX10_setWeek [.ref (cB G), JV (t : Int), JV x] h N 0 0 (fun r h' N' => N' = N ∧ r = some (JV (S 0 t 0)) ∧ ∃ S', SPI G h' S' 1 K ∧ S' = su S 0 t 0 x) := by
  refine CT_of (by decide +kernel) rfl (by simp [Value.category]) (Nat.le_of_ble_eq_true rfl) ?_
  change WP G mX10_setWeek _ noX _ _ h N 0 [some (.ref (cB G)), some (JV (t : Int)), some (JV x), none, none] []
  refine wp_iload_n dX10_setWeek_0 rfl ?_
  refine wp_s1 0 0 (c_checkCalendar (N := N) (by omega) (by omega)) csX10_56 dX10_setWeek_1 ⟨Nat.le_of_ble_eq_true rfl, Nat.le_of_ble_eq_true rfl⟩ (Nat.le_of_ble_eq_true rfl) (by omega) (by omega) (fun r h9 N9 hq => ?_)
  obtain ⟨rfl, hh9, hN9⟩ := hq
  rw [hN9]
  rw [hh9]
  change WP G mX10_setWeek _ _ _ _ h N 4 [some (.ref (cB G)), some (JV (t : Int)), some (JV x), none, none] []
  refine wp_iload_n dX10_setWeek_4 rfl ?_
  refine wp_iconst dX10_setWeek_5 ?_
  refine wp_icmp_lt 19 dX10_setWeek_6 (by decide) ⟨by omega, by omega⟩ ⟨by omega, by omega⟩ (fun c_6 => ?_) (fun c_6 => ?_)
  · exact absurd c_6 (by omega)
  · refine wp_iload_n dX10_setWeek_9 rfl ?_
    refine wp_bipush dX10_setWeek_10 rfl ?_
    refine wp_icmp_gt 19 dX10_setWeek_12 (by decide) ⟨by omega, by omega⟩ ⟨by omega, by omega⟩ (fun c_12 => ?_) (fun c_12 => ?_)
    · exact absurd c_12 (by omega)
    · refine wp_iconst dX10_setWeek_15 ?_
      refine wp_goto 20 dX10_setWeek_16 (by decide) ?_
      refine wp_s1 0 0 (c_checkArgument (N := N)) csX10_60 dX10_setWeek_20 ⟨Nat.le_of_ble_eq_true rfl, Nat.le_of_ble_eq_true rfl⟩ (Nat.le_of_ble_eq_true rfl) (by omega) (by omega) (fun r h9 N9 hq => ?_)
      obtain ⟨rfl, hh9, hN9⟩ := hq
      rw [hN9]
      rw [hh9]
      change WP G mX10_setWeek _ _ _ _ h N 23 [some (.ref (cB G)), some (JV (t : Int)), some (JV x), none, none] []
      refine wp_aload_n dX10_setWeek_23 rfl ?_
      refine wp_get fkX10_10 dX10_setWeek_24 sp.1 rfl ?_
      refine wp_get fkX10_64 dX10_setWeek_27 sp.2.1.1 rfl ?_
      refine wp_iload_n dX10_setWeek_30 rfl ?_
      refine wp_aaload dX10_setWeek_31 sp.2.1.2.1 rfl rfl (by omega) (by omega) (by omega) (if_pos (by omega)) ?_
      change WP G mX10_setWeek _ _ _ _ h N 32 [some (.ref (cB G)), some (JV (t : Int)), some (JV x), none, none] [.ref (cB G + 8 + 2 * t)]
      refine wp_astore_n dX10_setWeek_32 (Nat.le_of_ble_eq_true rfl) rfl ?_
      change WP G mX10_setWeek _ _ _ _ h N 33 [some (.ref (cB G)), some (JV (t : Int)), some (JV x), some (.ref (cB G + 8 + 2 * t)), none] []
      refine wp_aload_n dX10_setWeek_33 rfl ?_
      refine wp_get fkX10_68 dX10_setWeek_34 (sp.2.1.2.2.2.2.2.2.2.1 t (by omega)) rfl ?_
      refine wp_istore dX10_setWeek_37 (Nat.le_of_ble_eq_true rfl) rfl ?_
      change WP G mX10_setWeek _ _ _ _ h N 39 [some (.ref (cB G)), some (JV (t : Int)), some (JV x), some (.ref (cB G + 8 + 2 * t)), some (JV (S 0 t 0))] []
      refine wp_aload_n dX10_setWeek_39 rfl ?_
      refine wp_iload_n dX10_setWeek_40 rfl ?_
      refine wp_put fkX10_68 dX10_setWeek_41 (sp.2.1.2.2.2.2.2.2.2.1 t (by omega)) rfl rfl (Nat.le_of_ble_eq_true rfl) ?_
      obtain ⟨h_1, eh_1⟩ : ∃ hh9 : AH, hh9 = hup h (cB G + 8 + 2 * t) (eO 0 [JV x, JV (S 1 t 0), .ref (cB G + 8 + 2 * t + 1)]) := ⟨_, rfl⟩
      refine WP.heq eh_1 ?_
      obtain ⟨S_1, eS_1⟩ : ∃ ss9 : ST, ss9 = su S 0 t 0 x := ⟨_, rfl⟩
      have H_1 : HP G S_1 h_1 := by rw [eS_1]; exact HP_0 (i := t) (v := x) (by omega) sp.2.1 (eh_1.trans (by simp [cCal, cCrew, cTask, cLink, su]))
      have c1_0 := (hup_at eh_1 (by omega)).trans sp.1
      refine wp_aload_n dX10_setWeek_44 rfl ?_
      refine wp_iconst dX10_setWeek_45 ?_
      refine wp_put fkX10_52 dX10_setWeek_46 c1_0 rfl rfl (Nat.le_of_ble_eq_true rfl) ?_
      obtain ⟨h_2, eh_2⟩ : ∃ hh9 : AH, hh9 = hup h_1 (cB G) (eO 10 [.ref (cB G + 1), .ref (cB G + 108), .ref (cB G + 116), .ref (cB G + 128), .ref (cB G + 134), .ref (cB G + 142), .ref (cB G + 154), JV 1]) := ⟨_, rfl⟩
      refine WP.heq eh_2 ?_
      have c2_0 : h_2 (cB G) = some (eO 10 [.ref (cB G + 1), .ref (cB G + 108), .ref (cB G + 116), .ref (cB G + 128), .ref (cB G + 134), .ref (cB G + 142), .ref (cB G + 154), JV 1]) := by rw [eh_2]; exact hup_self _ _ _
      have HX_2 : HP G S_1 h_2 := H_1.frame (fun q9 hq9 hq8 => hup_at eh_2 (by omega))
      refine wp_iload dX10_setWeek_49 rfl ?_
      refine wp_iret dX10_setWeek_51 rfl ?_
      refine ⟨rfl, rfl, _, sp.stale c2_0 HX_2 ?_ ?_ (fun q hq => by rw [hup_at eh_2 (by omega), hup_at eh_1 (by omega)]), eS_1⟩
      · obtain ⟨w1, w2, w3, w4, w5, w6, w7, w8, w9, w10, w11, w12, w13⟩ := sp.2.2.1
        rw [eS_1]
        refine ⟨fun c hc => ?_, w2, w3, w4, w5, w6, w7, w8, w9, w10, w11, w12, w13⟩
        by_cases hct : c = t
        · subst hct; rw [su_s]; omega
        · rw [su_i hct]; exact w1 c hc
      · rw [eS_1]; exact sp.2.2.2.1.same (su_f (by decide)) (su_f (by decide)) (su_f (by decide)) (su_f (by decide)) (su_f (by decide)) (su_f (by decide))

theorem c_setCrew {t : Nat} (sp : SPI G h S st K) {x y : Int} (ht : t < 4) (hx : 0 ≤ x ∧ x ≤ 9) (hy : 0 ≤ y ∧ y ≤ 99) : CT G mX10_setCrew [.ref (cB G), JV (t : Int), JV x, JV y] h N 0 0 (fun r h' N' => N' = N ∧ r = some (JV (S 3 t 0)) ∧ ∃ S', SPI G h' S' 1 K ∧ S' = (su (su S 3 t 0 x) 4 t 0 y)) := by
  have hT := sp.2.2.1.nT
  refine CT_of (by decide +kernel) rfl (by simp [Value.category]) (Nat.le_of_ble_eq_true rfl) ?_
  change WP G mX10_setCrew _ noX _ _ h N 0 [some (.ref (cB G)), some (JV (t : Int)), some (JV x), some (JV y), none, none] []
  refine wp_iload_n dX10_setCrew_0 rfl ?_
  refine wp_s1 0 0 (c_checkCrew (N := N) (by omega) (by omega)) csX10_92 dX10_setCrew_1 ⟨Nat.le_of_ble_eq_true rfl, Nat.le_of_ble_eq_true rfl⟩ (Nat.le_of_ble_eq_true rfl) (by omega) (by omega) (fun r h9 N9 hq => ?_)
  obtain ⟨rfl, hh9, hN9⟩ := hq
  rw [hN9]
  rw [hh9]
  change WP G mX10_setCrew _ _ _ _ h N 4 [some (.ref (cB G)), some (JV (t : Int)), some (JV x), some (JV y), none, none] []
  refine wp_iload_n dX10_setCrew_4 rfl ?_
  refine wp_bipush dX10_setCrew_5 rfl ?_
  refine wp_s2p (c_isWithin (N := N) (by omega) (by omega)) csX10_74 dX10_setCrew_7 ⟨Nat.le_of_ble_eq_true rfl, Nat.le_of_ble_eq_true rfl⟩ (Nat.le_of_ble_eq_true rfl) ?_
  rw [show bI (decide (0 ≤ x ∧ x ≤ 9)) = 1 from bI_t (decide_eq_true (by omega))]
  refine wp_if_eq 26 dX10_setCrew_10 (by decide) ⟨by omega, by omega⟩ (fun c_10 => ?_) (fun c_10 => ?_)
  · exact absurd c_10 (by decide)
  · refine wp_iload_n dX10_setCrew_13 rfl ?_
    refine wp_bipush dX10_setCrew_14 rfl ?_
    refine wp_s2p (c_isWithin (N := N) (by omega) (by omega)) csX10_74 dX10_setCrew_16 ⟨Nat.le_of_ble_eq_true rfl, Nat.le_of_ble_eq_true rfl⟩ (Nat.le_of_ble_eq_true rfl) ?_
    rw [show bI (decide (0 ≤ y ∧ y ≤ 99)) = 1 from bI_t (decide_eq_true (by omega))]
    refine wp_if_eq 26 dX10_setCrew_19 (by decide) ⟨by omega, by omega⟩ (fun c_19 => ?_) (fun c_19 => ?_)
    · exact absurd c_19 (by decide)
    · refine wp_iconst dX10_setCrew_22 ?_
      refine wp_goto 27 dX10_setCrew_23 (by decide) ?_
      refine wp_s1 0 0 (c_checkArgument (N := N)) csX10_60 dX10_setCrew_27 ⟨Nat.le_of_ble_eq_true rfl, Nat.le_of_ble_eq_true rfl⟩ (Nat.le_of_ble_eq_true rfl) (by omega) (by omega) (fun r h9 N9 hq => ?_)
      obtain ⟨rfl, hh9, hN9⟩ := hq
      rw [hN9]
      rw [hh9]
      change WP G mX10_setCrew _ _ _ _ h N 30 [some (.ref (cB G)), some (JV (t : Int)), some (JV x), some (JV y), none, none] []
      refine wp_aload_n dX10_setCrew_30 rfl ?_
      refine wp_get fkX10_10 dX10_setCrew_31 sp.1 rfl ?_
      refine wp_get fkX10_95 dX10_setCrew_34 sp.2.1.1 rfl ?_
      refine wp_iload_n dX10_setCrew_37 rfl ?_
      refine wp_aaload dX10_setCrew_38 sp.2.1.2.2.1 rfl rfl (by omega) (by omega) (by omega) (if_pos (by omega)) ?_
      change WP G mX10_setCrew _ _ _ _ h N 39 [some (.ref (cB G)), some (JV (t : Int)), some (JV x), some (JV y), none, none] [.ref (cB G + 16 + t)]
      refine wp_astore dX10_setCrew_39 (Nat.le_of_ble_eq_true rfl) rfl ?_
      change WP G mX10_setCrew _ _ _ _ h N 41 [some (.ref (cB G)), some (JV (t : Int)), some (JV x), some (JV y), some (.ref (cB G + 16 + t)), none] []
      refine wp_aload dX10_setCrew_41 rfl ?_
      refine wp_get fkX10_99 dX10_setCrew_43 (sp.2.1.2.2.2.2.2.2.2.2.2.1 t (by omega)) rfl ?_
      refine wp_istore dX10_setCrew_46 (Nat.le_of_ble_eq_true rfl) rfl ?_
      change WP G mX10_setCrew _ _ _ _ h N 48 [some (.ref (cB G)), some (JV (t : Int)), some (JV x), some (JV y), some (.ref (cB G + 16 + t)), some (JV (S 3 t 0))] []
      refine wp_aload dX10_setCrew_48 rfl ?_
      refine wp_iload_n dX10_setCrew_50 rfl ?_
      refine wp_put fkX10_99 dX10_setCrew_51 (sp.2.1.2.2.2.2.2.2.2.2.2.1 t (by omega)) rfl rfl (Nat.le_of_ble_eq_true rfl) ?_
      obtain ⟨h_1, eh_1⟩ : ∃ hh9 : AH, hh9 = hup h (cB G + 16 + t) (eO 1 [JV x, JV (S 4 t 0)]) := ⟨_, rfl⟩
      refine WP.heq eh_1 ?_
      obtain ⟨S_1, eS_1⟩ : ∃ ss9 : ST, ss9 = su S 3 t 0 x := ⟨_, rfl⟩
      have H_1 : HP G S_1 h_1 := by rw [eS_1]; exact HP_3 (i := t) (v := x) (by omega) sp.2.1 (eh_1.trans (by simp [cCal, cCrew, cTask, cLink, su]))
      have c1_0 := (hup_at eh_1 (by omega)).trans sp.1
      refine wp_aload dX10_setCrew_54 rfl ?_
      refine wp_iload_n dX10_setCrew_56 rfl ?_
      refine wp_put fkX10_104 dX10_setCrew_57 (H_1.2.2.2.2.2.2.2.2.2.1 t (by omega)) rfl rfl (Nat.le_of_ble_eq_true rfl) ?_
      obtain ⟨h_2, eh_2⟩ : ∃ hh9 : AH, hh9 = hup h_1 (cB G + 16 + t) (eO 1 [JV (S_1 3 t 0), JV y]) := ⟨_, rfl⟩
      refine WP.heq eh_2 ?_
      obtain ⟨S_2, eS_2⟩ : ∃ ss9 : ST, ss9 = su S_1 4 t 0 y := ⟨_, rfl⟩
      have H_2 : HP G S_2 h_2 := by rw [eS_2]; exact HP_4 (i := t) (v := y) (by omega) H_1 (eh_2.trans (by simp [cCal, cCrew, cTask, cLink, su]))
      have c2_0 := (hup_at eh_2 (by omega)).trans c1_0
      refine wp_aload_n dX10_setCrew_60 rfl ?_
      refine wp_iconst dX10_setCrew_61 ?_
      refine wp_put fkX10_52 dX10_setCrew_62 c2_0 rfl rfl (Nat.le_of_ble_eq_true rfl) ?_
      obtain ⟨h_3, eh_3⟩ : ∃ hh9 : AH, hh9 = hup h_2 (cB G) (eO 10 [.ref (cB G + 1), .ref (cB G + 108), .ref (cB G + 116), .ref (cB G + 128), .ref (cB G + 134), .ref (cB G + 142), .ref (cB G + 154), JV 1]) := ⟨_, rfl⟩
      refine WP.heq eh_3 ?_
      have c3_0 : h_3 (cB G) = some (eO 10 [.ref (cB G + 1), .ref (cB G + 108), .ref (cB G + 116), .ref (cB G + 128), .ref (cB G + 134), .ref (cB G + 142), .ref (cB G + 154), JV 1]) := by rw [eh_3]; exact hup_self _ _ _
      have HX_3 : HP G S_2 h_3 := H_2.frame (fun q9 hq9 hq8 => hup_at eh_3 (by omega))
      refine wp_iload dX10_setCrew_65 rfl ?_
      refine wp_iret dX10_setCrew_67 rfl ?_
      refine ⟨rfl, rfl, _, sp.stale c3_0 HX_3 ?_ ?_ (fun q hq => by rw [hup_at eh_3 (by omega), hup_at eh_2 (by omega), hup_at eh_1 (by omega)]), by rw [eS_2, eS_1]⟩
      · obtain ⟨w1, w2, w3, w4, w5, w6, w7, w8, w9, w10, w11, w12, w13⟩ := sp.2.2.1
        rw [eS_2, eS_1]
        refine ⟨w1, w2, w3, fun c hc => ?_, w5, w6, w7, w8, w9, w10, w11, w12, w13⟩
        have q := w4 c hc
        simp only [su]
        by_cases hct : c = t <;> simp [hct] <;> (try subst hct) <;> omega
      · rw [eS_2, eS_1]; exact sp.2.2.2.1.same rfl rfl rfl rfl rfl rfl

theorem c_setLength {t : Nat} (sp : SPI G h S st K) {x : Int} (ht : (t : Int) < S 13 0 0) (hx : 0 ≤ x ∧ x ≤ 20) : CT G mX10_setLength [.ref (cB G), JV (t : Int), JV x] h N 0 0 (fun r h' N' => N' = N ∧ r = some (JV (S 5 t 0)) ∧ ∃ S', SPI G h' S' 1 K ∧ S' = (su S 5 t 0 x)) := by
  have hT := sp.2.2.1.nT
  have ht24 : t < 24 := by omega
  have wt := sp.2.2.1.task ht24
  refine CT_of (by decide +kernel) rfl (by simp [Value.category]) (Nat.le_of_ble_eq_true rfl) ?_
  change WP G mX10_setLength _ noX _ _ h N 0 [some (.ref (cB G)), some (JV (t : Int)), some (JV x), none, none] []
  refine wp_aload_n dX10_setLength_0 rfl ?_
  refine wp_iload_n dX10_setLength_1 rfl ?_
  refine wp_v1 0 0 (c_checkTask (N := N) sp.1 sp.2.1 (by have := sp.2.2.1.nT; omega) (by omega) ht) cvX10_114 dX10_setLength_2 ⟨Nat.le_of_ble_eq_true rfl, Nat.le_of_ble_eq_true rfl⟩ (Nat.le_of_ble_eq_true rfl) sp.1 rfl rfl (by omega) (by omega) (fun r h9 N9 hq => ?_)
  obtain ⟨rfl, hh9, hN9⟩ := hq
  rw [hN9]
  rw [hh9]
  change WP G mX10_setLength _ _ _ _ h N 5 [some (.ref (cB G)), some (JV (t : Int)), some (JV x), none, none] []
  refine wp_iload_n dX10_setLength_5 rfl ?_
  refine wp_bipush dX10_setLength_6 rfl ?_
  refine wp_s2p (c_isWithin (N := N) (by omega) (by omega)) csX10_74 dX10_setLength_8 ⟨Nat.le_of_ble_eq_true rfl, Nat.le_of_ble_eq_true rfl⟩ (Nat.le_of_ble_eq_true rfl) ?_
  rw [show bI (decide (0 ≤ x ∧ x ≤ 20)) = 1 from bI_t (decide_eq_true (by omega))]
  refine wp_s1 0 0 (c_checkArgument (N := N)) csX10_60 dX10_setLength_11 ⟨Nat.le_of_ble_eq_true rfl, Nat.le_of_ble_eq_true rfl⟩ (Nat.le_of_ble_eq_true rfl) (by omega) (by omega) (fun r h9 N9 hq => ?_)
  obtain ⟨rfl, hh9, hN9⟩ := hq
  rw [hN9]
  rw [hh9]
  change WP G mX10_setLength _ _ _ _ h N 14 [some (.ref (cB G)), some (JV (t : Int)), some (JV x), none, none] []
  refine wp_aload_n dX10_setLength_14 rfl ?_
  refine wp_get fkX10_10 dX10_setLength_15 sp.1 rfl ?_
  refine wp_get fkX10_117 dX10_setLength_18 sp.2.1.1 rfl ?_
  refine wp_iload_n dX10_setLength_21 rfl ?_
  refine wp_aaload dX10_setLength_22 sp.2.1.2.2.2.1 rfl rfl (by omega) (by omega) (by omega) (if_pos (by omega)) ?_
  change WP G mX10_setLength _ _ _ _ h N 23 [some (.ref (cB G)), some (JV (t : Int)), some (JV x), none, none] [.ref (cB G + 20 + 2 * t)]
  refine wp_astore_n dX10_setLength_23 (Nat.le_of_ble_eq_true rfl) rfl ?_
  change WP G mX10_setLength _ _ _ _ h N 24 [some (.ref (cB G)), some (JV (t : Int)), some (JV x), some (.ref (cB G + 20 + 2 * t)), none] []
  refine wp_aload_n dX10_setLength_24 rfl ?_
  refine wp_get fkX10_121 dX10_setLength_25 (sp.2.1.2.2.2.2.2.2.2.2.2.2.1 t (by omega)) rfl ?_
  refine wp_istore dX10_setLength_28 (Nat.le_of_ble_eq_true rfl) rfl ?_
  change WP G mX10_setLength _ _ _ _ h N 30 [some (.ref (cB G)), some (JV (t : Int)), some (JV x), some (.ref (cB G + 20 + 2 * t)), some (JV (S 5 t 0))] []
  refine wp_aload_n dX10_setLength_30 rfl ?_
  refine wp_iload_n dX10_setLength_31 rfl ?_
  refine wp_put fkX10_121 dX10_setLength_32 (sp.2.1.2.2.2.2.2.2.2.2.2.2.1 t (by omega)) rfl rfl (Nat.le_of_ble_eq_true rfl) ?_
  obtain ⟨h_1, eh_1⟩ : ∃ hh9 : AH, hh9 = hup h (cB G + 20 + 2 * t) (eO 9 [JV x, JV (S 6 t 0), JV (S 7 t 0), JV (S 8 t 0), JV (S 9 t 0), JV (S 10 t 0), JV (S 11 t 0), .ref (cB G + 20 + 2 * t + 1)]) := ⟨_, rfl⟩
  refine WP.heq eh_1 ?_
  obtain ⟨S_1, eS_1⟩ : ∃ ss9 : ST, ss9 = su S 5 t 0 x := ⟨_, rfl⟩
  have H_1 : HP G S_1 h_1 := by rw [eS_1]; exact HP_5 (i := t) (v := x) (by omega) sp.2.1 (eh_1.trans (by simp [cCal, cCrew, cTask, cLink, su]))
  have c1_0 := (hup_at eh_1 (by omega)).trans sp.1
  refine wp_aload_n dX10_setLength_35 rfl ?_
  refine wp_iconst dX10_setLength_36 ?_
  refine wp_put fkX10_52 dX10_setLength_37 c1_0 rfl rfl (Nat.le_of_ble_eq_true rfl) ?_
  obtain ⟨h_2, eh_2⟩ : ∃ hh9 : AH, hh9 = hup h_1 (cB G) (eO 10 [.ref (cB G + 1), .ref (cB G + 108), .ref (cB G + 116), .ref (cB G + 128), .ref (cB G + 134), .ref (cB G + 142), .ref (cB G + 154), JV 1]) := ⟨_, rfl⟩
  refine WP.heq eh_2 ?_
  have c2_0 : h_2 (cB G) = some (eO 10 [.ref (cB G + 1), .ref (cB G + 108), .ref (cB G + 116), .ref (cB G + 128), .ref (cB G + 134), .ref (cB G + 142), .ref (cB G + 154), JV 1]) := by rw [eh_2]; exact hup_self _ _ _
  have HX_2 : HP G S_1 h_2 := H_1.frame (fun q9 hq9 hq8 => hup_at eh_2 (by omega))
  refine wp_iload dX10_setLength_40 rfl ?_
  refine wp_iret dX10_setLength_42 rfl ?_
  refine ⟨rfl, rfl, _, sp.stale c2_0 HX_2 ?_ ?_ (fun q hq => by rw [hup_at eh_2 (by omega), hup_at eh_1 (by omega)]), by rw [eS_1]⟩
  · obtain ⟨w1, w2, w3, w4, w5, w6, w7, w8, w9, w10, w11, w12, w13⟩ := sp.2.2.1
    rw [eS_1]
    refine ⟨w1, w2, w3, w4, fun c hc => ?_, w6, w7, w8, w9, w10, w11, w12, w13⟩
    have q := w5 c hc
    simp only [su]
    by_cases hct : c = t <;> simp [hct] <;> (try subst hct) <;> omega
  · rw [eS_1]; exact sp.2.2.2.1.same rfl rfl rfl rfl rfl rfl

theorem c_setTerms {t : Nat} (sp : SPI G h S st K) {x y : Int} (ht : (t : Int) < S 13 0 0) (hx : 0 ≤ x ∧ x ≤ 9) (hy : 0 ≤ y ∧ y ≤ 999) : CT G mX10_setTerms [.ref (cB G), JV (t : Int), JV x, JV y] h N 0 0 (fun r h' N' => N' = N ∧ r = some (JV (S 8 t 0)) ∧ ∃ S', SPI G h' S' 1 K ∧ S' = (su (su S 7 t 0 x) 8 t 0 y)) := by
  have hT := sp.2.2.1.nT
  have ht24 : t < 24 := by omega
  have wt := sp.2.2.1.task ht24
  refine CT_of (by decide +kernel) rfl (by simp [Value.category]) (Nat.le_of_ble_eq_true rfl) ?_
  change WP G mX10_setTerms _ noX _ _ h N 0 [some (.ref (cB G)), some (JV (t : Int)), some (JV x), some (JV y), none, none] []
  refine wp_aload_n dX10_setTerms_0 rfl ?_
  refine wp_iload_n dX10_setTerms_1 rfl ?_
  refine wp_v1 0 0 (c_checkTask (N := N) sp.1 sp.2.1 (by have := sp.2.2.1.nT; omega) (by omega) ht) cvX10_114 dX10_setTerms_2 ⟨Nat.le_of_ble_eq_true rfl, Nat.le_of_ble_eq_true rfl⟩ (Nat.le_of_ble_eq_true rfl) sp.1 rfl rfl (by omega) (by omega) (fun r h9 N9 hq => ?_)
  obtain ⟨rfl, hh9, hN9⟩ := hq
  rw [hN9]
  rw [hh9]
  change WP G mX10_setTerms _ _ _ _ h N 5 [some (.ref (cB G)), some (JV (t : Int)), some (JV x), some (JV y), none, none] []
  refine wp_iload_n dX10_setTerms_5 rfl ?_
  refine wp_bipush dX10_setTerms_6 rfl ?_
  refine wp_s2p (c_isWithin (N := N) (by omega) (by omega)) csX10_74 dX10_setTerms_8 ⟨Nat.le_of_ble_eq_true rfl, Nat.le_of_ble_eq_true rfl⟩ (Nat.le_of_ble_eq_true rfl) ?_
  rw [show bI (decide (0 ≤ x ∧ x ≤ 9)) = 1 from bI_t (decide_eq_true (by omega))]
  refine wp_if_eq 28 dX10_setTerms_11 (by decide) ⟨by omega, by omega⟩ (fun c_11 => ?_) (fun c_11 => ?_)
  · exact absurd c_11 (by decide)
  · refine wp_iload_n dX10_setTerms_14 rfl ?_
    refine wp_sipush dX10_setTerms_15 rfl ?_
    refine wp_s2p (c_isWithin (N := N) (by omega) (by omega)) csX10_74 dX10_setTerms_18 ⟨Nat.le_of_ble_eq_true rfl, Nat.le_of_ble_eq_true rfl⟩ (Nat.le_of_ble_eq_true rfl) ?_
    rw [show bI (decide (0 ≤ y ∧ y ≤ 999)) = 1 from bI_t (decide_eq_true (by omega))]
    refine wp_if_eq 28 dX10_setTerms_21 (by decide) ⟨by omega, by omega⟩ (fun c_21 => ?_) (fun c_21 => ?_)
    · exact absurd c_21 (by decide)
    · refine wp_iconst dX10_setTerms_24 ?_
      refine wp_goto 29 dX10_setTerms_25 (by decide) ?_
      refine wp_s1 0 0 (c_checkArgument (N := N)) csX10_60 dX10_setTerms_29 ⟨Nat.le_of_ble_eq_true rfl, Nat.le_of_ble_eq_true rfl⟩ (Nat.le_of_ble_eq_true rfl) (by omega) (by omega) (fun r h9 N9 hq => ?_)
      obtain ⟨rfl, hh9, hN9⟩ := hq
      rw [hN9]
      rw [hh9]
      change WP G mX10_setTerms _ _ _ _ h N 32 [some (.ref (cB G)), some (JV (t : Int)), some (JV x), some (JV y), none, none] []
      refine wp_aload_n dX10_setTerms_32 rfl ?_
      refine wp_get fkX10_10 dX10_setTerms_33 sp.1 rfl ?_
      refine wp_get fkX10_117 dX10_setTerms_36 sp.2.1.1 rfl ?_
      refine wp_iload_n dX10_setTerms_39 rfl ?_
      refine wp_aaload dX10_setTerms_40 sp.2.1.2.2.2.1 rfl rfl (by omega) (by omega) (by omega) (if_pos (by omega)) ?_
      change WP G mX10_setTerms _ _ _ _ h N 41 [some (.ref (cB G)), some (JV (t : Int)), some (JV x), some (JV y), none, none] [.ref (cB G + 20 + 2 * t)]
      refine wp_astore dX10_setTerms_41 (Nat.le_of_ble_eq_true rfl) rfl ?_
      change WP G mX10_setTerms _ _ _ _ h N 43 [some (.ref (cB G)), some (JV (t : Int)), some (JV x), some (JV y), some (.ref (cB G + 20 + 2 * t)), none] []
      refine wp_aload dX10_setTerms_43 rfl ?_
      refine wp_get fkX10_126 dX10_setTerms_45 (sp.2.1.2.2.2.2.2.2.2.2.2.2.1 t (by omega)) rfl ?_
      refine wp_istore dX10_setTerms_48 (Nat.le_of_ble_eq_true rfl) rfl ?_
      change WP G mX10_setTerms _ _ _ _ h N 50 [some (.ref (cB G)), some (JV (t : Int)), some (JV x), some (JV y), some (.ref (cB G + 20 + 2 * t)), some (JV (S 8 t 0))] []
      refine wp_aload dX10_setTerms_50 rfl ?_
      refine wp_iload_n dX10_setTerms_52 rfl ?_
      refine wp_put fkX10_129 dX10_setTerms_53 (sp.2.1.2.2.2.2.2.2.2.2.2.2.1 t (by omega)) rfl rfl (Nat.le_of_ble_eq_true rfl) ?_
      obtain ⟨h_1, eh_1⟩ : ∃ hh9 : AH, hh9 = hup h (cB G + 20 + 2 * t) (eO 9 [JV (S 5 t 0), JV (S 6 t 0), JV x, JV (S 8 t 0), JV (S 9 t 0), JV (S 10 t 0), JV (S 11 t 0), .ref (cB G + 20 + 2 * t + 1)]) := ⟨_, rfl⟩
      refine WP.heq eh_1 ?_
      obtain ⟨S_1, eS_1⟩ : ∃ ss9 : ST, ss9 = su S 7 t 0 x := ⟨_, rfl⟩
      have H_1 : HP G S_1 h_1 := by rw [eS_1]; exact HP_7 (i := t) (v := x) (by omega) sp.2.1 (eh_1.trans (by simp [cCal, cCrew, cTask, cLink, su]))
      have c1_0 := (hup_at eh_1 (by omega)).trans sp.1
      refine wp_aload dX10_setTerms_56 rfl ?_
      refine wp_iload_n dX10_setTerms_58 rfl ?_
      refine wp_put fkX10_126 dX10_setTerms_59 (H_1.2.2.2.2.2.2.2.2.2.2.1 t (by omega)) rfl rfl (Nat.le_of_ble_eq_true rfl) ?_
      obtain ⟨h_2, eh_2⟩ : ∃ hh9 : AH, hh9 = hup h_1 (cB G + 20 + 2 * t) (eO 9 [JV (S_1 5 t 0), JV (S_1 6 t 0), JV (S_1 7 t 0), JV y, JV (S_1 9 t 0), JV (S_1 10 t 0), JV (S_1 11 t 0), .ref (cB G + 20 + 2 * t + 1)]) := ⟨_, rfl⟩
      refine WP.heq eh_2 ?_
      obtain ⟨S_2, eS_2⟩ : ∃ ss9 : ST, ss9 = su S_1 8 t 0 y := ⟨_, rfl⟩
      have H_2 : HP G S_2 h_2 := by rw [eS_2]; exact HP_8 (i := t) (v := y) (by omega) H_1 (eh_2.trans (by simp [cCal, cCrew, cTask, cLink, su]))
      have c2_0 := (hup_at eh_2 (by omega)).trans c1_0
      refine wp_aload_n dX10_setTerms_62 rfl ?_
      refine wp_iconst dX10_setTerms_63 ?_
      refine wp_put fkX10_52 dX10_setTerms_64 c2_0 rfl rfl (Nat.le_of_ble_eq_true rfl) ?_
      obtain ⟨h_3, eh_3⟩ : ∃ hh9 : AH, hh9 = hup h_2 (cB G) (eO 10 [.ref (cB G + 1), .ref (cB G + 108), .ref (cB G + 116), .ref (cB G + 128), .ref (cB G + 134), .ref (cB G + 142), .ref (cB G + 154), JV 1]) := ⟨_, rfl⟩
      refine WP.heq eh_3 ?_
      have c3_0 : h_3 (cB G) = some (eO 10 [.ref (cB G + 1), .ref (cB G + 108), .ref (cB G + 116), .ref (cB G + 128), .ref (cB G + 134), .ref (cB G + 142), .ref (cB G + 154), JV 1]) := by rw [eh_3]; exact hup_self _ _ _
      have HX_3 : HP G S_2 h_3 := H_2.frame (fun q9 hq9 hq8 => hup_at eh_3 (by omega))
      refine wp_iload dX10_setTerms_67 rfl ?_
      refine wp_iret dX10_setTerms_69 rfl ?_
      refine ⟨rfl, rfl, _, sp.stale c3_0 HX_3 ?_ ?_ (fun q hq => by rw [hup_at eh_3 (by omega), hup_at eh_2 (by omega), hup_at eh_1 (by omega)]), by rw [eS_2, eS_1]⟩
      · obtain ⟨w1, w2, w3, w4, w5, w6, w7, w8, w9, w10, w11, w12, w13⟩ := sp.2.2.1
        rw [eS_2, eS_1]
        refine ⟨w1, w2, w3, w4, fun c hc => ?_, w6, w7, w8, w9, w10, w11, w12, w13⟩
        have q := w5 c hc
        simp only [su]
        by_cases hct : c = t <;> simp [hct] <;> (try subst hct) <;> omega
      · rw [eS_2, eS_1]; exact sp.2.2.2.1.same rfl rfl rfl rfl rfl rfl

theorem c_finish {t : Nat} (sp : SPI G h S st K) {x y : Int} (ht : (t : Int) < S 13 0 0) (hx : 0 ≤ x ∧ x ≤ 999) (hy : 0 ≤ y ∧ y ≤ 999) (hxy : x ≤ y) : CT G mX10_finish [.ref (cB G), JV (t : Int), JV x, JV y] h N 0 0 (fun r h' N' => N' = N ∧ r = some (JV (S 9 t 0)) ∧ ∃ S', SPI G h' S' 1 K ∧ S' = (su (su (su S 9 t 0 1) 10 t 0 x) 11 t 0 y)) := by
  have hT := sp.2.2.1.nT
  have ht24 : t < 24 := by omega
  have wt := sp.2.2.1.task ht24
  refine CT_of (by decide +kernel) rfl (by simp [Value.category]) (Nat.le_of_ble_eq_true rfl) ?_
  change WP G mX10_finish _ noX _ _ h N 0 [some (.ref (cB G)), some (JV (t : Int)), some (JV x), some (JV y), none, none] []
  refine wp_aload_n dX10_finish_0 rfl ?_
  refine wp_iload_n dX10_finish_1 rfl ?_
  refine wp_v1 0 0 (c_checkTask (N := N) sp.1 sp.2.1 (by have := sp.2.2.1.nT; omega) (by omega) ht) cvX10_114 dX10_finish_2 ⟨Nat.le_of_ble_eq_true rfl, Nat.le_of_ble_eq_true rfl⟩ (Nat.le_of_ble_eq_true rfl) sp.1 rfl rfl (by omega) (by omega) (fun r h9 N9 hq => ?_)
  obtain ⟨rfl, hh9, hN9⟩ := hq
  rw [hN9]
  rw [hh9]
  change WP G mX10_finish _ _ _ _ h N 5 [some (.ref (cB G)), some (JV (t : Int)), some (JV x), some (JV y), none, none] []
  refine wp_iload_n dX10_finish_5 rfl ?_
  refine wp_sipush dX10_finish_6 rfl ?_
  refine wp_s2p (c_isWithin (N := N) (by omega) (by omega)) csX10_74 dX10_finish_9 ⟨Nat.le_of_ble_eq_true rfl, Nat.le_of_ble_eq_true rfl⟩ (Nat.le_of_ble_eq_true rfl) ?_
  rw [show bI (decide (0 ≤ x ∧ x ≤ 999)) = 1 from bI_t (decide_eq_true (by omega))]
  refine wp_if_eq 34 dX10_finish_12 (by decide) ⟨by omega, by omega⟩ (fun c_12 => ?_) (fun c_12 => ?_)
  · exact absurd c_12 (by decide)
  · refine wp_iload_n dX10_finish_15 rfl ?_
    refine wp_sipush dX10_finish_16 rfl ?_
    refine wp_s2p (c_isWithin (N := N) (by omega) (by omega)) csX10_74 dX10_finish_19 ⟨Nat.le_of_ble_eq_true rfl, Nat.le_of_ble_eq_true rfl⟩ (Nat.le_of_ble_eq_true rfl) ?_
    rw [show bI (decide (0 ≤ y ∧ y ≤ 999)) = 1 from bI_t (decide_eq_true (by omega))]
    refine wp_if_eq 34 dX10_finish_22 (by decide) ⟨by omega, by omega⟩ (fun c_22 => ?_) (fun c_22 => ?_)
    · exact absurd c_22 (by decide)
    · refine wp_iload_n dX10_finish_25 rfl ?_
      refine wp_iload_n dX10_finish_26 rfl ?_
      refine wp_icmp_gt 34 dX10_finish_27 (by decide) ⟨by omega, by omega⟩ ⟨by omega, by omega⟩ (fun c_27 => ?_) (fun c_27 => ?_)
      · exact absurd c_27 (by omega)
      · refine wp_iconst dX10_finish_30 ?_
        refine wp_goto 35 dX10_finish_31 (by decide) ?_
        refine wp_s1 0 0 (c_checkArgument (N := N)) csX10_60 dX10_finish_35 ⟨Nat.le_of_ble_eq_true rfl, Nat.le_of_ble_eq_true rfl⟩ (Nat.le_of_ble_eq_true rfl) (by omega) (by omega) (fun r h9 N9 hq => ?_)
        obtain ⟨rfl, hh9, hN9⟩ := hq
        rw [hN9]
        rw [hh9]
        change WP G mX10_finish _ _ _ _ h N 38 [some (.ref (cB G)), some (JV (t : Int)), some (JV x), some (JV y), none, none] []
        refine wp_aload_n dX10_finish_38 rfl ?_
        refine wp_get fkX10_10 dX10_finish_39 sp.1 rfl ?_
        refine wp_get fkX10_117 dX10_finish_42 sp.2.1.1 rfl ?_
        refine wp_iload_n dX10_finish_45 rfl ?_
        refine wp_aaload dX10_finish_46 sp.2.1.2.2.2.1 rfl rfl (by omega) (by omega) (by omega) (if_pos (by omega)) ?_
        change WP G mX10_finish _ _ _ _ h N 47 [some (.ref (cB G)), some (JV (t : Int)), some (JV x), some (JV y), none, none] [.ref (cB G + 20 + 2 * t)]
        refine wp_astore dX10_finish_47 (Nat.le_of_ble_eq_true rfl) rfl ?_
        change WP G mX10_finish _ _ _ _ h N 49 [some (.ref (cB G)), some (JV (t : Int)), some (JV x), some (JV y), some (.ref (cB G + 20 + 2 * t)), none] []
        refine wp_aload dX10_finish_49 rfl ?_
        refine wp_get fkX10_152 dX10_finish_51 (sp.2.1.2.2.2.2.2.2.2.2.2.2.1 t (by omega)) rfl ?_
        refine wp_istore dX10_finish_54 (Nat.le_of_ble_eq_true rfl) rfl ?_
        change WP G mX10_finish _ _ _ _ h N 56 [some (.ref (cB G)), some (JV (t : Int)), some (JV x), some (JV y), some (.ref (cB G + 20 + 2 * t)), some (JV (S 9 t 0))] []
        refine wp_aload dX10_finish_56 rfl ?_
        refine wp_iconst dX10_finish_58 ?_
        refine wp_put fkX10_152 dX10_finish_59 (sp.2.1.2.2.2.2.2.2.2.2.2.2.1 t (by omega)) rfl rfl (Nat.le_of_ble_eq_true rfl) ?_
        obtain ⟨h_1, eh_1⟩ : ∃ hh9 : AH, hh9 = hup h (cB G + 20 + 2 * t) (eO 9 [JV (S 5 t 0), JV (S 6 t 0), JV (S 7 t 0), JV (S 8 t 0), JV 1, JV (S 10 t 0), JV (S 11 t 0), .ref (cB G + 20 + 2 * t + 1)]) := ⟨_, rfl⟩
        refine WP.heq eh_1 ?_
        obtain ⟨S_1, eS_1⟩ : ∃ ss9 : ST, ss9 = su S 9 t 0 1 := ⟨_, rfl⟩
        have H_1 : HP G S_1 h_1 := by rw [eS_1]; exact HP_9 (i := t) (v := 1) (by omega) sp.2.1 (eh_1.trans (by simp [cCal, cCrew, cTask, cLink, su]))
        have c1_0 := (hup_at eh_1 (by omega)).trans sp.1
        refine wp_aload dX10_finish_62 rfl ?_
        refine wp_iload_n dX10_finish_64 rfl ?_
        refine wp_put fkX10_155 dX10_finish_65 (H_1.2.2.2.2.2.2.2.2.2.2.1 t (by omega)) rfl rfl (Nat.le_of_ble_eq_true rfl) ?_
        obtain ⟨h_2, eh_2⟩ : ∃ hh9 : AH, hh9 = hup h_1 (cB G + 20 + 2 * t) (eO 9 [JV (S_1 5 t 0), JV (S_1 6 t 0), JV (S_1 7 t 0), JV (S_1 8 t 0), JV (S_1 9 t 0), JV x, JV (S_1 11 t 0), .ref (cB G + 20 + 2 * t + 1)]) := ⟨_, rfl⟩
        refine WP.heq eh_2 ?_
        obtain ⟨S_2, eS_2⟩ : ∃ ss9 : ST, ss9 = su S_1 10 t 0 x := ⟨_, rfl⟩
        have H_2 : HP G S_2 h_2 := by rw [eS_2]; exact HP_10 (i := t) (v := x) (by omega) H_1 (eh_2.trans (by simp [cCal, cCrew, cTask, cLink, su]))
        have c2_0 := (hup_at eh_2 (by omega)).trans c1_0
        refine wp_aload dX10_finish_68 rfl ?_
        refine wp_iload_n dX10_finish_70 rfl ?_
        refine wp_put fkX10_158 dX10_finish_71 (H_2.2.2.2.2.2.2.2.2.2.2.1 t (by omega)) rfl rfl (Nat.le_of_ble_eq_true rfl) ?_
        obtain ⟨h_3, eh_3⟩ : ∃ hh9 : AH, hh9 = hup h_2 (cB G + 20 + 2 * t) (eO 9 [JV (S_2 5 t 0), JV (S_2 6 t 0), JV (S_2 7 t 0), JV (S_2 8 t 0), JV (S_2 9 t 0), JV (S_2 10 t 0), JV y, .ref (cB G + 20 + 2 * t + 1)]) := ⟨_, rfl⟩
        refine WP.heq eh_3 ?_
        obtain ⟨S_3, eS_3⟩ : ∃ ss9 : ST, ss9 = su S_2 11 t 0 y := ⟨_, rfl⟩
        have H_3 : HP G S_3 h_3 := by rw [eS_3]; exact HP_11 (i := t) (v := y) (by omega) H_2 (eh_3.trans (by simp [cCal, cCrew, cTask, cLink, su]))
        have c3_0 := (hup_at eh_3 (by omega)).trans c2_0
        refine wp_aload_n dX10_finish_74 rfl ?_
        refine wp_iconst dX10_finish_75 ?_
        refine wp_put fkX10_52 dX10_finish_76 c3_0 rfl rfl (Nat.le_of_ble_eq_true rfl) ?_
        obtain ⟨h_4, eh_4⟩ : ∃ hh9 : AH, hh9 = hup h_3 (cB G) (eO 10 [.ref (cB G + 1), .ref (cB G + 108), .ref (cB G + 116), .ref (cB G + 128), .ref (cB G + 134), .ref (cB G + 142), .ref (cB G + 154), JV 1]) := ⟨_, rfl⟩
        refine WP.heq eh_4 ?_
        have c4_0 : h_4 (cB G) = some (eO 10 [.ref (cB G + 1), .ref (cB G + 108), .ref (cB G + 116), .ref (cB G + 128), .ref (cB G + 134), .ref (cB G + 142), .ref (cB G + 154), JV 1]) := by rw [eh_4]; exact hup_self _ _ _
        have HX_4 : HP G S_3 h_4 := H_3.frame (fun q9 hq9 hq8 => hup_at eh_4 (by omega))
        refine wp_iload dX10_finish_79 rfl ?_
        refine wp_zret dX10_finish_81 rfl (by omega) ?_
        refine ⟨rfl, rfl, _, sp.stale c4_0 HX_4 ?_ ?_ (fun q hq => by rw [hup_at eh_4 (by omega), hup_at eh_3 (by omega), hup_at eh_2 (by omega), hup_at eh_1 (by omega)]), by rw [eS_3, eS_2, eS_1]⟩
        · obtain ⟨w1, w2, w3, w4, w5, w6, w7, w8, w9, w10, w11, w12, w13⟩ := sp.2.2.1
          rw [eS_3, eS_2, eS_1]
          refine ⟨w1, w2, w3, w4, fun c hc => ?_, w6, w7, w8, w9, w10, w11, w12, w13⟩
          have q := w5 c hc
          simp only [su]
          by_cases hct : c = t <;> simp [hct] <;> (try subst hct) <;> omega
        · rw [eS_3, eS_2, eS_1]; exact sp.2.2.2.1.same rfl rfl rfl rfl rfl rfl

theorem c_reopen {t : Nat} (sp : SPI G h S st K) (ht : (t : Int) < S 13 0 0) : CT G mX10_reopen [.ref (cB G), JV (t : Int)] h N 0 0 (fun r h' N' => N' = N ∧ r = some (JV (S 9 t 0)) ∧ ∃ S', SPI G h' S' 1 K ∧ S' = (su S 9 t 0 0)) := by
  have hT := sp.2.2.1.nT
  have ht24 : t < 24 := by omega
  have wt := sp.2.2.1.task ht24
  refine CT_of (by decide +kernel) rfl (by simp [Value.category]) (Nat.le_of_ble_eq_true rfl) ?_
  change WP G mX10_reopen _ noX _ _ h N 0 [some (.ref (cB G)), some (JV (t : Int)), none, none] []
  refine wp_aload_n dX10_reopen_0 rfl ?_
  refine wp_iload_n dX10_reopen_1 rfl ?_
  refine wp_v1 0 0 (c_checkTask (N := N) sp.1 sp.2.1 (by have := sp.2.2.1.nT; omega) (by omega) ht) cvX10_114 dX10_reopen_2 ⟨Nat.le_of_ble_eq_true rfl, Nat.le_of_ble_eq_true rfl⟩ (Nat.le_of_ble_eq_true rfl) sp.1 rfl rfl (by omega) (by omega) (fun r h9 N9 hq => ?_)
  obtain ⟨rfl, hh9, hN9⟩ := hq
  rw [hN9]
  rw [hh9]
  change WP G mX10_reopen _ _ _ _ h N 5 [some (.ref (cB G)), some (JV (t : Int)), none, none] []
  refine wp_aload_n dX10_reopen_5 rfl ?_
  refine wp_get fkX10_10 dX10_reopen_6 sp.1 rfl ?_
  refine wp_get fkX10_117 dX10_reopen_9 sp.2.1.1 rfl ?_
  refine wp_iload_n dX10_reopen_12 rfl ?_
  refine wp_aaload dX10_reopen_13 sp.2.1.2.2.2.1 rfl rfl (by omega) (by omega) (by omega) (if_pos (by omega)) ?_
  change WP G mX10_reopen _ _ _ _ h N 14 [some (.ref (cB G)), some (JV (t : Int)), none, none] [.ref (cB G + 20 + 2 * t)]
  refine wp_astore_n dX10_reopen_14 (Nat.le_of_ble_eq_true rfl) rfl ?_
  change WP G mX10_reopen _ _ _ _ h N 15 [some (.ref (cB G)), some (JV (t : Int)), some (.ref (cB G + 20 + 2 * t)), none] []
  refine wp_aload_n dX10_reopen_15 rfl ?_
  refine wp_get fkX10_152 dX10_reopen_16 (sp.2.1.2.2.2.2.2.2.2.2.2.2.1 t (by omega)) rfl ?_
  refine wp_istore_n dX10_reopen_19 (Nat.le_of_ble_eq_true rfl) rfl ?_
  change WP G mX10_reopen _ _ _ _ h N 20 [some (.ref (cB G)), some (JV (t : Int)), some (.ref (cB G + 20 + 2 * t)), some (JV (S 9 t 0))] []
  refine wp_aload_n dX10_reopen_20 rfl ?_
  refine wp_iconst dX10_reopen_21 ?_
  refine wp_put fkX10_152 dX10_reopen_22 (sp.2.1.2.2.2.2.2.2.2.2.2.2.1 t (by omega)) rfl rfl (Nat.le_of_ble_eq_true rfl) ?_
  obtain ⟨h_1, eh_1⟩ : ∃ hh9 : AH, hh9 = hup h (cB G + 20 + 2 * t) (eO 9 [JV (S 5 t 0), JV (S 6 t 0), JV (S 7 t 0), JV (S 8 t 0), JV 0, JV (S 10 t 0), JV (S 11 t 0), .ref (cB G + 20 + 2 * t + 1)]) := ⟨_, rfl⟩
  refine WP.heq eh_1 ?_
  obtain ⟨S_1, eS_1⟩ : ∃ ss9 : ST, ss9 = su S 9 t 0 0 := ⟨_, rfl⟩
  have H_1 : HP G S_1 h_1 := by rw [eS_1]; exact HP_9 (i := t) (v := 0) (by omega) sp.2.1 (eh_1.trans (by simp [cCal, cCrew, cTask, cLink, su]))
  have c1_0 := (hup_at eh_1 (by omega)).trans sp.1
  refine wp_aload_n dX10_reopen_25 rfl ?_
  refine wp_iconst dX10_reopen_26 ?_
  refine wp_put fkX10_52 dX10_reopen_27 c1_0 rfl rfl (Nat.le_of_ble_eq_true rfl) ?_
  obtain ⟨h_2, eh_2⟩ : ∃ hh9 : AH, hh9 = hup h_1 (cB G) (eO 10 [.ref (cB G + 1), .ref (cB G + 108), .ref (cB G + 116), .ref (cB G + 128), .ref (cB G + 134), .ref (cB G + 142), .ref (cB G + 154), JV 1]) := ⟨_, rfl⟩
  refine WP.heq eh_2 ?_
  have c2_0 : h_2 (cB G) = some (eO 10 [.ref (cB G + 1), .ref (cB G + 108), .ref (cB G + 116), .ref (cB G + 128), .ref (cB G + 134), .ref (cB G + 142), .ref (cB G + 154), JV 1]) := by rw [eh_2]; exact hup_self _ _ _
  have HX_2 : HP G S_1 h_2 := H_1.frame (fun q9 hq9 hq8 => hup_at eh_2 (by omega))
  refine wp_iload_n dX10_reopen_30 rfl ?_
  refine wp_zret dX10_reopen_31 rfl (by omega) ?_
  refine ⟨rfl, rfl, _, sp.stale c2_0 HX_2 ?_ ?_ (fun q hq => by rw [hup_at eh_2 (by omega), hup_at eh_1 (by omega)]), by rw [eS_1]⟩
  · obtain ⟨w1, w2, w3, w4, w5, w6, w7, w8, w9, w10, w11, w12, w13⟩ := sp.2.2.1
    rw [eS_1]
    refine ⟨w1, w2, w3, w4, fun c hc => ?_, w6, w7, w8, w9, w10, w11, w12, w13⟩
    have q := w5 c hc
    simp only [su]
    by_cases hct : c = t <;> simp [hct] <;> (try subst hct) <;> omega
  · rw [eS_1]; exact sp.2.2.2.1.same rfl rfl rfl rfl rfl rfl

theorem c_setNeed {t : Nat} (sp : SPI G h S st K) {c : Nat} {x : Int} (ht : (t : Int) < S 13 0 0) (hc4 : c < 4) (hx : 0 ≤ x ∧ x ≤ 9) : CT G mX10_setNeed [.ref (cB G), JV (t : Int), JV (c : Int), JV x] h N 0 0 (fun r h' N' => N' = N ∧ r = some (JV (S 12 t c)) ∧ ∃ S', SPI G h' S' 1 K ∧ S' = (su S 12 t c x)) := by
  have hT := sp.2.2.1.nT
  have ht24 : t < 24 := by omega
  have wt := sp.2.2.1.task ht24
  refine CT_of (by decide +kernel) rfl (by simp [Value.category]) (Nat.le_of_ble_eq_true rfl) ?_
  change WP G mX10_setNeed _ noX _ _ h N 0 [some (.ref (cB G)), some (JV (t : Int)), some (JV (c : Int)), some (JV x), none, none] []
  refine wp_aload_n dX10_setNeed_0 rfl ?_
  refine wp_iload_n dX10_setNeed_1 rfl ?_
  refine wp_v1 0 0 (c_checkTask (N := N) sp.1 sp.2.1 (by have := sp.2.2.1.nT; omega) (by omega) ht) cvX10_114 dX10_setNeed_2 ⟨Nat.le_of_ble_eq_true rfl, Nat.le_of_ble_eq_true rfl⟩ (Nat.le_of_ble_eq_true rfl) sp.1 rfl rfl (by omega) (by omega) (fun r h9 N9 hq => ?_)
  obtain ⟨rfl, hh9, hN9⟩ := hq
  rw [hN9]
  rw [hh9]
  change WP G mX10_setNeed _ _ _ _ h N 5 [some (.ref (cB G)), some (JV (t : Int)), some (JV (c : Int)), some (JV x), none, none] []
  refine wp_iload_n dX10_setNeed_5 rfl ?_
  refine wp_s1 0 0 (c_checkCrew (N := N) (by omega) (by omega)) csX10_92 dX10_setNeed_6 ⟨Nat.le_of_ble_eq_true rfl, Nat.le_of_ble_eq_true rfl⟩ (Nat.le_of_ble_eq_true rfl) (by omega) (by omega) (fun r h9 N9 hq => ?_)
  obtain ⟨rfl, hh9, hN9⟩ := hq
  rw [hN9]
  rw [hh9]
  change WP G mX10_setNeed _ _ _ _ h N 9 [some (.ref (cB G)), some (JV (t : Int)), some (JV (c : Int)), some (JV x), none, none] []
  refine wp_iload_n dX10_setNeed_9 rfl ?_
  refine wp_bipush dX10_setNeed_10 rfl ?_
  refine wp_s2p (c_isWithin (N := N) (by omega) (by omega)) csX10_74 dX10_setNeed_12 ⟨Nat.le_of_ble_eq_true rfl, Nat.le_of_ble_eq_true rfl⟩ (Nat.le_of_ble_eq_true rfl) ?_
  rw [show bI (decide (0 ≤ x ∧ x ≤ 9)) = 1 from bI_t (decide_eq_true (by omega))]
  refine wp_s1 0 0 (c_checkArgument (N := N)) csX10_60 dX10_setNeed_15 ⟨Nat.le_of_ble_eq_true rfl, Nat.le_of_ble_eq_true rfl⟩ (Nat.le_of_ble_eq_true rfl) (by omega) (by omega) (fun r h9 N9 hq => ?_)
  obtain ⟨rfl, hh9, hN9⟩ := hq
  rw [hN9]
  rw [hh9]
  change WP G mX10_setNeed _ _ _ _ h N 18 [some (.ref (cB G)), some (JV (t : Int)), some (JV (c : Int)), some (JV x), none, none] []
  refine wp_aload_n dX10_setNeed_18 rfl ?_
  refine wp_get fkX10_10 dX10_setNeed_19 sp.1 rfl ?_
  refine wp_get fkX10_117 dX10_setNeed_22 sp.2.1.1 rfl ?_
  refine wp_iload_n dX10_setNeed_25 rfl ?_
  refine wp_aaload dX10_setNeed_26 sp.2.1.2.2.2.1 rfl rfl (by omega) (by omega) (by omega) (if_pos (by omega)) ?_
  change WP G mX10_setNeed _ _ _ _ h N 27 [some (.ref (cB G)), some (JV (t : Int)), some (JV (c : Int)), some (JV x), none, none] [.ref (cB G + 20 + 2 * t)]
  refine wp_astore dX10_setNeed_27 (Nat.le_of_ble_eq_true rfl) rfl ?_
  change WP G mX10_setNeed _ _ _ _ h N 29 [some (.ref (cB G)), some (JV (t : Int)), some (JV (c : Int)), some (JV x), some (.ref (cB G + 20 + 2 * t)), none] []
  refine wp_aload dX10_setNeed_29 rfl ?_
  refine wp_get fkX10_132 dX10_setNeed_31 (sp.2.1.2.2.2.2.2.2.2.2.2.2.1 t (by omega)) rfl ?_
  refine wp_iload_n dX10_setNeed_34 rfl ?_
  refine wp_iaload dX10_setNeed_35 (sp.2.1.2.2.2.2.2.2.2.2.2.2.2.1 t (by omega)) (by omega) (by omega) (by omega) ?_
  change WP G mX10_setNeed _ _ _ _ h N 36 [some (.ref (cB G)), some (JV (t : Int)), some (JV (c : Int)), some (JV x), some (.ref (cB G + 20 + 2 * t)), none] [JV (S 12 t c)]
  refine wp_istore dX10_setNeed_36 (Nat.le_of_ble_eq_true rfl) rfl ?_
  change WP G mX10_setNeed _ _ _ _ h N 38 [some (.ref (cB G)), some (JV (t : Int)), some (JV (c : Int)), some (JV x), some (.ref (cB G + 20 + 2 * t)), some (JV (S 12 t c))] []
  refine wp_aload dX10_setNeed_38 rfl ?_
  refine wp_get fkX10_132 dX10_setNeed_40 (sp.2.1.2.2.2.2.2.2.2.2.2.2.1 t (by omega)) rfl ?_
  refine wp_iload_n dX10_setNeed_43 rfl ?_
  refine wp_iload_n dX10_setNeed_44 rfl ?_
  refine wp_iastore dX10_setNeed_45 (sp.2.1.2.2.2.2.2.2.2.2.2.2.2.1 t (by omega)) (by omega) (by omega) (by omega) ?_
  obtain ⟨h_1, eh_1⟩ : ∃ hh9 : AH, hh9 = hup h (cB G + 20 + 2 * t + 1) (eI G 4 (fup (fun c => S 12 t c) c x)) := ⟨_, rfl⟩
  refine WP.heq eh_1 ?_
  obtain ⟨S_1, eS_1⟩ : ∃ ss9 : ST, ss9 = su S 12 t c x := ⟨_, rfl⟩
  have H_1 : HP G S_1 h_1 := by rw [eS_1]; exact HP_12 (i := t) (j := c) (v := x) (by omega) sp.2.1 eh_1
  have c1_0 := (hup_at eh_1 (by omega)).trans sp.1
  refine wp_aload_n dX10_setNeed_46 rfl ?_
  refine wp_iconst dX10_setNeed_47 ?_
  refine wp_put fkX10_52 dX10_setNeed_48 c1_0 rfl rfl (Nat.le_of_ble_eq_true rfl) ?_
  obtain ⟨h_2, eh_2⟩ : ∃ hh9 : AH, hh9 = hup h_1 (cB G) (eO 10 [.ref (cB G + 1), .ref (cB G + 108), .ref (cB G + 116), .ref (cB G + 128), .ref (cB G + 134), .ref (cB G + 142), .ref (cB G + 154), JV 1]) := ⟨_, rfl⟩
  refine WP.heq eh_2 ?_
  have c2_0 : h_2 (cB G) = some (eO 10 [.ref (cB G + 1), .ref (cB G + 108), .ref (cB G + 116), .ref (cB G + 128), .ref (cB G + 134), .ref (cB G + 142), .ref (cB G + 154), JV 1]) := by rw [eh_2]; exact hup_self _ _ _
  have HX_2 : HP G S_1 h_2 := H_1.frame (fun q9 hq9 hq8 => hup_at eh_2 (by omega))
  refine wp_iload dX10_setNeed_51 rfl ?_
  refine wp_iret dX10_setNeed_53 rfl ?_
  refine ⟨rfl, rfl, _, sp.stale c2_0 HX_2 ?_ ?_ (fun q hq => by rw [hup_at eh_2 (by omega), hup_at eh_1 (by omega)]), by rw [eS_1]⟩
  · obtain ⟨w1, w2, w3, w4, w5, w6, w7, w8, w9, w10, w11, w12, w13⟩ := sp.2.2.1
    rw [eS_1]
    refine ⟨w1, w2, w3, w4, w5, fun t9 c9 => ?_, w7, w8, w9, w10, w11, w12, w13⟩
    have q := w6 t9 c9
    simp only [su]
    by_cases hct : t9 = t ∧ c9 = c <;> simp [hct] <;> omega
  · rw [eS_1]; exact sp.2.2.2.1.same rfl rfl rfl rfl rfl rfl

theorem c_setRule {t : Nat} (sp : SPI G h S st K) {x : Int} (hx : 0 ≤ x ∧ x ≤ 3) : CT G mX10_setRule [.ref (cB G), JV x] h N 0 0 (fun r h' N' => N' = N ∧ r = some (JV (S 15 0 0)) ∧ ∃ S', SPI G h' S' 1 K ∧ S' = (su S 15 0 0 x)) := by
  have hT := sp.2.2.1.nT
  refine CT_of (by decide +kernel) rfl (by simp [Value.category]) (Nat.le_of_ble_eq_true rfl) ?_
  change WP G mX10_setRule _ noX _ _ h N 0 [some (.ref (cB G)), some (JV x), none] []
  refine wp_iload_n dX10_setRule_0 rfl ?_
  refine wp_iconst dX10_setRule_1 ?_
  refine wp_s2p (c_isWithin (N := N) (by omega) (by omega)) csX10_74 dX10_setRule_2 ⟨Nat.le_of_ble_eq_true rfl, Nat.le_of_ble_eq_true rfl⟩ (Nat.le_of_ble_eq_true rfl) ?_
  rw [show bI (decide (0 ≤ x ∧ x ≤ 3)) = 1 from bI_t (decide_eq_true (by omega))]
  refine wp_s1 0 0 (c_checkArgument (N := N)) csX10_60 dX10_setRule_5 ⟨Nat.le_of_ble_eq_true rfl, Nat.le_of_ble_eq_true rfl⟩ (Nat.le_of_ble_eq_true rfl) (by omega) (by omega) (fun r h9 N9 hq => ?_)
  obtain ⟨rfl, hh9, hN9⟩ := hq
  rw [hN9]
  rw [hh9]
  change WP G mX10_setRule _ _ _ _ h N 8 [some (.ref (cB G)), some (JV x), none] []
  refine wp_aload_n dX10_setRule_8 rfl ?_
  refine wp_get fkX10_10 dX10_setRule_9 sp.1 rfl ?_
  refine wp_get fkX10_161 dX10_setRule_12 sp.2.1.1 rfl ?_
  refine wp_istore_n dX10_setRule_15 (Nat.le_of_ble_eq_true rfl) rfl ?_
  change WP G mX10_setRule _ _ _ _ h N 16 [some (.ref (cB G)), some (JV x), some (JV (S 15 0 0))] []
  refine wp_aload_n dX10_setRule_16 rfl ?_
  refine wp_get fkX10_10 dX10_setRule_17 sp.1 rfl ?_
  refine wp_iload_n dX10_setRule_20 rfl ?_
  refine wp_put fkX10_161 dX10_setRule_21 sp.2.1.1 rfl rfl (Nat.le_of_ble_eq_true rfl) ?_
  obtain ⟨h_1, eh_1⟩ : ∃ hh9 : AH, hh9 = hup h (cB G + 1) (eO 8 [.ref (cB G + 2), .ref (cB G + 3), .ref (cB G + 4), .ref (cB G + 5), JV (S 13 0 0), JV (S 14 0 0), JV x, .ref (cB G + 6), .ref (cB G + 7)]) := ⟨_, rfl⟩
  refine WP.heq eh_1 ?_
  obtain ⟨S_1, eS_1⟩ : ∃ ss9 : ST, ss9 = su S 15 0 0 x := ⟨_, rfl⟩
  have H_1 : HP G S_1 h_1 := by rw [eS_1]; exact HP_15 (v := x)  sp.2.1 eh_1
  have c1_0 := (hup_at eh_1 (by omega)).trans sp.1
  refine wp_aload_n dX10_setRule_24 rfl ?_
  refine wp_iconst dX10_setRule_25 ?_
  refine wp_put fkX10_52 dX10_setRule_26 c1_0 rfl rfl (Nat.le_of_ble_eq_true rfl) ?_
  obtain ⟨h_2, eh_2⟩ : ∃ hh9 : AH, hh9 = hup h_1 (cB G) (eO 10 [.ref (cB G + 1), .ref (cB G + 108), .ref (cB G + 116), .ref (cB G + 128), .ref (cB G + 134), .ref (cB G + 142), .ref (cB G + 154), JV 1]) := ⟨_, rfl⟩
  refine WP.heq eh_2 ?_
  have c2_0 : h_2 (cB G) = some (eO 10 [.ref (cB G + 1), .ref (cB G + 108), .ref (cB G + 116), .ref (cB G + 128), .ref (cB G + 134), .ref (cB G + 142), .ref (cB G + 154), JV 1]) := by rw [eh_2]; exact hup_self _ _ _
  have HX_2 : HP G S_1 h_2 := H_1.frame (fun q9 hq9 hq8 => hup_at eh_2 (by omega))
  refine wp_iload_n dX10_setRule_29 rfl ?_
  refine wp_iret dX10_setRule_30 rfl ?_
  refine ⟨rfl, rfl, _, sp.stale c2_0 HX_2 ?_ ?_ (fun q hq => by rw [hup_at eh_2 (by omega), hup_at eh_1 (by omega)]), by rw [eS_1]⟩
  · obtain ⟨w1, w2, w3, w4, w5, w6, w7, w8, w9, w10, w11, w12, w13⟩ := sp.2.2.1
    rw [eS_1]
    refine ⟨w1, w2, w3, w4, w5, w6, w7, w8, ?_, w10, w11, w12, w13⟩
    simp only [su]
    simp
    omega
  · rw [eS_1]; exact sp.2.2.2.1.same rfl rfl rfl rfl rfl rfl

theorem TOP.add {S S' : ST} (t : TOP S) (n0 : 0 ≤ S 13 0 0) (h13 : S' 13 0 0 = S 13 0 0 + 1) (h14 : S' 14 = S 14) (h18 : S' 18 = S 18) (h19 : S' 19 = S 19) (h20 : S' 20 = S 20) (h16 : ∀ i, S' 16 i 0 = if i = (S 13 0 0).toNat then S 13 0 0 else S 16 i 0) : TOP S' := by
  obtain ⟨t1, t2, t3, t4, t5⟩ := t
  have hs : S' 16 (S 13 0 0).toNat 0 = S 13 0 0 := by rw [h16, if_pos rfl]
  have ho : ∀ i : Nat, (i : Int) < S 13 0 0 → S' 16 i 0 = S 16 i 0 := fun i hi => by rw [h16, if_neg (by omega)]
  unfold TOP
  unfold lF lT at *
  rw [h13, h14, h18, h19, h20]
  refine ⟨fun j hj => ?_, fun k hk => ?_, fun i k hi hk he => ?_, fun x h0 h1 => ?_, fun k j hk hj he => ?_⟩
  · have := t1 j hj; omega
  · by_cases hkn : (k : Int) < S 13 0 0
    · rw [ho k hkn]; have := t2 k hkn; omega
    · rw [show k = (S 13 0 0).toNat by omega, hs]; omega
  · by_cases hin : (i : Int) < S 13 0 0
    · by_cases hkn : (k : Int) < S 13 0 0
      · rw [ho i hin, ho k hkn] at he; exact t3 i k hin hkn he
      · rw [ho i hin, show k = (S 13 0 0).toNat by omega, hs] at he; have := t2 i hin; omega
    · by_cases hkn : (k : Int) < S 13 0 0
      · rw [ho k hkn, show i = (S 13 0 0).toNat by omega, hs] at he; have := t2 k hkn; omega
      · omega
  · by_cases hx : x < S 13 0 0
    · obtain ⟨k, k1, k2⟩ := t4 x h0 hx
      exact ⟨k, by omega, by rw [ho k k1]; exact k2⟩
    · exact ⟨(S 13 0 0).toNat, by omega, by rw [hs]; omega⟩
  · by_cases hkn : (k : Int) < S 13 0 0
    · rw [ho k hkn] at he
      obtain ⟨i, i1, i2⟩ := t5 k j hkn hj he
      exact ⟨i, i1, by rw [ho i (by omega)]; exact i2⟩
    · rw [show k = (S 13 0 0).toNat by omega, hs] at he
      have := t1 j hj
      omega
theorem c_addTask {t : Nat} {x : Int} (sp : SPI G h S st K) (ht : t < 4) (hx : 0 ≤ x ∧ x ≤ 20) (hn : S 13 0 0 < 24) : CT G mX10_addTask [.ref (cB G), JV x, JV (t : Int)] h N 0 0 (fun r h' N' => N' = N ∧ r = some (JV (S 13 0 0)) ∧ ∃ S', SPI G h' S' 1 K ∧ (∀ f, f ≠ 5 → f ≠ 6 → f ≠ 13 → f ≠ 16 → S' f = S f) ∧ S' 13 0 0 = S 13 0 0 + 1 ∧ (∀ i, S' 5 i 0 = if i = (S 13 0 0).toNat then x else S 5 i 0) ∧ (∀ i, S' 6 i 0 = if i = (S 13 0 0).toNat then (t : Int) else S 6 i 0) ∧ (∀ i, S' 16 i 0 = if i = (S 13 0 0).toNat then S 13 0 0 else S 16 i 0)) := by
  have hT := sp.2.2.1.nT
  refine CT_of (by decide +kernel) rfl (by simp [Value.category]) (Nat.le_of_ble_eq_true rfl) ?_
  change WP G mX10_addTask _ noX _ _ h N 0 [some (.ref (cB G)), some (JV x), some (JV (t : Int))] []
  refine wp_iload_n dX10_addTask_0 rfl ?_
  refine wp_s1 0 0 (c_checkCalendar (N := N) (by omega) (by omega)) csX10_56 dX10_addTask_1 ⟨Nat.le_of_ble_eq_true rfl, Nat.le_of_ble_eq_true rfl⟩ (Nat.le_of_ble_eq_true rfl) (by omega) (by omega) (fun r h9 N9 hq => ?_)
  obtain ⟨rfl, hh9, hN9⟩ := hq
  rw [hN9]
  rw [hh9]
  change WP G mX10_addTask _ _ _ _ h N 4 [some (.ref (cB G)), some (JV x), some (JV (t : Int))] []
  refine wp_iload_n dX10_addTask_4 rfl ?_
  refine wp_bipush dX10_addTask_5 rfl ?_
  refine wp_s2p (c_isWithin (N := N) (by omega) (by omega)) csX10_74 dX10_addTask_7 ⟨Nat.le_of_ble_eq_true rfl, Nat.le_of_ble_eq_true rfl⟩ (Nat.le_of_ble_eq_true rfl) ?_
  rw [show bI (decide (0 ≤ x ∧ x ≤ 20)) = 1 from bI_t (decide_eq_true (by omega))]
  refine wp_s1 0 0 (c_checkArgument (N := N)) csX10_60 dX10_addTask_10 ⟨Nat.le_of_ble_eq_true rfl, Nat.le_of_ble_eq_true rfl⟩ (Nat.le_of_ble_eq_true rfl) (by omega) (by omega) (fun r h9 N9 hq => ?_)
  obtain ⟨rfl, hh9, hN9⟩ := hq
  rw [hN9]
  rw [hh9]
  change WP G mX10_addTask _ _ _ _ h N 13 [some (.ref (cB G)), some (JV x), some (JV (t : Int))] []
  refine wp_aload_n dX10_addTask_13 rfl ?_
  refine wp_get fkX10_10 dX10_addTask_14 sp.1 rfl ?_
  refine wp_get fkX10_107 dX10_addTask_17 sp.2.1.1 rfl ?_
  refine wp_bipush dX10_addTask_20 rfl ?_
  refine wp_icmp_ge 29 dX10_addTask_22 (by decide) ⟨by omega, by omega⟩ ⟨by omega, by omega⟩ (fun c_22 => ?_) (fun c_22 => ?_)
  · exact absurd c_22 (by omega)
  · refine wp_iconst dX10_addTask_25 ?_
    refine wp_goto 30 dX10_addTask_26 (by decide) ?_
    refine wp_s1 0 0 (c_checkState (N := N)) csX10_85 dX10_addTask_30 ⟨Nat.le_of_ble_eq_true rfl, Nat.le_of_ble_eq_true rfl⟩ (Nat.le_of_ble_eq_true rfl) (by omega) (by omega) (fun r h9 N9 hq => ?_)
    obtain ⟨rfl, hh9, hN9⟩ := hq
    rw [hN9]
    rw [hh9]
    change WP G mX10_addTask _ _ _ _ h N 33 [some (.ref (cB G)), some (JV x), some (JV (t : Int))] []
    refine wp_aload_n dX10_addTask_33 rfl ?_
    refine wp_iconst dX10_addTask_34 ?_
    refine wp_put fkX10_52 dX10_addTask_35 sp.1 rfl rfl (Nat.le_of_ble_eq_true rfl) ?_
    obtain ⟨h_1, eh_1⟩ : ∃ hh9 : AH, hh9 = hup h (cB G) (eO 10 [.ref (cB G + 1), .ref (cB G + 108), .ref (cB G + 116), .ref (cB G + 128), .ref (cB G + 134), .ref (cB G + 142), .ref (cB G + 154), JV 1]) := ⟨_, rfl⟩
    refine WP.heq eh_1 ?_
    have c1_0 : h_1 (cB G) = some (eO 10 [.ref (cB G + 1), .ref (cB G + 108), .ref (cB G + 116), .ref (cB G + 128), .ref (cB G + 134), .ref (cB G + 142), .ref (cB G + 154), JV 1]) := by rw [eh_1]; exact hup_self _ _ _
    have HX_1 : HP G S h_1 := sp.2.1.frame (fun q9 hq9 hq8 => hup_at eh_1 (by omega))
    refine wp_aload_n dX10_addTask_38 rfl ?_
    refine wp_get fkX10_10 dX10_addTask_39 c1_0 rfl ?_
    refine wp_iload_n dX10_addTask_42 rfl ?_
    refine wp_iload_n dX10_addTask_43 rfl ?_
    refine wp_v2 0 0 (c_appendTask (N := N) (le := x) (ca := (t : Int)) HX_1 (by omega)) cvX10_110 dX10_addTask_44 ⟨Nat.le_of_ble_eq_true rfl, Nat.le_of_ble_eq_true rfl⟩ (Nat.le_of_ble_eq_true rfl) HX_1.1 rfl rfl (by omega) (by omega) (fun r h9 N9 hq => ?_)
    obtain ⟨hN9, rfl, S', H9, e0, e13, e5, e6, e16, f9⟩ := hq
    rw [hN9]
    refine wp_iret dX10_addTask_47 rfl ?_
    refine ⟨rfl, rfl, S', sp.stale ((f9 (cB G) (by omega)).trans c1_0) H9 ?_ ?_ (fun q hq => (f9 q (by omega)).trans (hup_at eh_1 (by omega))), e0, e13, e5, e6, e16⟩
    · obtain ⟨w1, w2, w3, w4, w5, w6, w7, w8, w9, w10, w11, w12, w13⟩ := sp.2.2.1
      have z := fun f a b c d => e0 f a b c d
      unfold WF
      rw [e13]
      simp only [e0 0 (by decide) (by decide) (by decide) (by decide), e0 1 (by decide) (by decide) (by decide) (by decide), e0 2 (by decide) (by decide) (by decide) (by decide), e0 3 (by decide) (by decide) (by decide) (by decide), e0 4 (by decide) (by decide) (by decide) (by decide), e0 7 (by decide) (by decide) (by decide) (by decide), e0 8 (by decide) (by decide) (by decide) (by decide), e0 9 (by decide) (by decide) (by decide) (by decide), e0 10 (by decide) (by decide) (by decide) (by decide), e0 11 (by decide) (by decide) (by decide) (by decide), e0 12 (by decide) (by decide) (by decide) (by decide), e0 14 (by decide) (by decide) (by decide) (by decide), e0 15 (by decide) (by decide) (by decide) (by decide), e0 17 (by decide) (by decide) (by decide) (by decide), e0 18 (by decide) (by decide) (by decide) (by decide), e0 19 (by decide) (by decide) (by decide) (by decide), e0 20 (by decide) (by decide) (by decide) (by decide), e0 21 (by decide) (by decide) (by decide) (by decide), e0 22 (by decide) (by decide) (by decide) (by decide)]
      refine ⟨w1, w2, w3, w4, fun c hc => ?_, w6, by omega, w8, w9, fun i hi => ?_, w11, w12, w13⟩
      · have q := w5 c hc
        rw [e5, e6]
        by_cases hct : c = (S 13 0 0).toNat
        · simp only [if_pos hct]; omega
        · simp only [if_neg hct]; exact q
      · have q := w10 i hi
        rw [e16]
        by_cases hct : i = (S 13 0 0).toNat
        · simp only [if_pos hct]; omega
        · simp only [if_neg hct]; exact q
    · exact sp.2.2.2.1.add hT.1 e13 (e0 14 (by decide) (by decide) (by decide) (by decide)) (e0 18 (by decide) (by decide) (by decide) (by decide)) (e0 19 (by decide) (by decide) (by decide) (by decide)) (e0 20 (by decide) (by decide) (by decide) (by decide)) e16

theorem TOP.drop {S S' : ST} {l n : Nat} (t : TOP S) (hl : l < n) (hn : S 14 0 0 = (n : Int)) (h13 : S' 13 = S 13) (h16 : S' 16 = S 16) (h19 : S' 19 = S 19) (h20 : S' 20 = S 20) (h14 : S' 14 0 0 = (n : Int) - 1) (h18 : ∀ i, S' 18 i 0 = tkO (fun i => S 18 i 0) l n i) : TOP S' := by
  obtain ⟨t1, t2, t3, t4, t5⟩ := t
  have hj : ∀ j : Nat, (j : Int) < (n : Int) - 1 → ∃ j' : Nat, (j' : Int) < S 14 0 0 ∧ S' 18 j 0 = S 18 j' 0 := fun j hj => by
    rw [h18]
    unfold tkO
    by_cases h1 : l ≤ j ∧ j + 1 < n
    · exact ⟨j + 1, by omega, by rw [if_pos h1]⟩
    · by_cases h2 : j + 1 = n
      · omega
      · exact ⟨j, by omega, by rw [if_neg h1, if_neg h2]⟩
  unfold TOP
  unfold lF lT at *
  rw [h13, h14, h16, h19, h20]
  refine ⟨fun j hj2 => ?_, t2, t3, t4, fun k j hk hj2 he => ?_⟩
  · obtain ⟨j', j1, j2⟩ := hj j hj2
    rw [j2]
    exact t1 j' j1
  · obtain ⟨j', j1, j2⟩ := hj j hj2
    rw [j2] at he ⊢
    exact t5 k j' hk j1 he
theorem c_drop {l n : Nat} (sp : SPI G h S st K) (hl : l < n) (hn : S 14 0 0 = (n : Int)) : CT G mX10_drop [.ref (cB G), JV (l : Int)] h N 0 0 (fun r h' N' => N' = N ∧ r = some (JV ((n : Int) - 1)) ∧ ∃ S', SPI G h' S' 1 K ∧ (∀ f, f ≠ 14 → f ≠ 18 → S' f = S f) ∧ S' 14 0 0 = (n : Int) - 1 ∧ ∀ i, S' 18 i 0 = tkO (fun i => S 18 i 0) l n i) := by
  have hL := sp.2.2.1.nL
  refine CT_of (by decide +kernel) rfl (by simp [Value.category]) (Nat.le_of_ble_eq_true rfl) ?_
  change WP G mX10_drop _ noX _ _ h N 0 [some (.ref (cB G)), some (JV (l : Int))] []
  refine wp_aload_n dX10_drop_0 rfl ?_
  refine wp_iload_n dX10_drop_1 rfl ?_
  refine wp_v1 0 0 (c_checkLink (N := N) sp.1 sp.2.1 (by have := sp.2.2.1.nL; omega) (by omega) (by omega)) cvX10_146 dX10_drop_2 ⟨Nat.le_of_ble_eq_true rfl, Nat.le_of_ble_eq_true rfl⟩ (Nat.le_of_ble_eq_true rfl) sp.1 rfl rfl (by omega) (by omega) (fun r h9 N9 hq => ?_)
  obtain ⟨rfl, hh9, hN9⟩ := hq
  rw [hN9]
  rw [hh9]
  change WP G mX10_drop _ _ _ _ h N 5 [some (.ref (cB G)), some (JV (l : Int))] []
  refine wp_aload_n dX10_drop_5 rfl ?_
  refine wp_get fkX10_10 dX10_drop_6 sp.1 rfl ?_
  refine wp_iload_n dX10_drop_9 rfl ?_
  refine wp_v1 0 0 (c_takeOut (N := N) sp.2.1 (fun i hi => sp.2.2.1.perm hi) hl (by omega) hn) cvX10_149 dX10_drop_10 ⟨Nat.le_of_ble_eq_true rfl, Nat.le_of_ble_eq_true rfl⟩ (Nat.le_of_ble_eq_true rfl) sp.2.1.1 rfl rfl (by omega) (by omega) (fun r h8 N9 hq => ?_)
  obtain ⟨hN9, rfl, S8, H8, e0, e14, e18, f8⟩ := hq
  rw [hN9]
  have hs8 := (f8 (cB G) (by omega)).trans sp.1
  change WP G mX10_drop _ _ _ _ h8 N 13 [some (.ref (cB G)), some (JV (l : Int))] []
  refine wp_aload_n dX10_drop_13 rfl ?_
  refine wp_iconst dX10_drop_14 ?_
  refine wp_put fkX10_52 dX10_drop_15 hs8 rfl rfl (Nat.le_of_ble_eq_true rfl) ?_
  obtain ⟨h8_1, eh8_1⟩ : ∃ hh9 : AH, hh9 = hup h8 (cB G) (eO 10 [.ref (cB G + 1), .ref (cB G + 108), .ref (cB G + 116), .ref (cB G + 128), .ref (cB G + 134), .ref (cB G + 142), .ref (cB G + 154), JV 1]) := ⟨_, rfl⟩
  refine WP.heq eh8_1 ?_
  have c1_0 : h8_1 (cB G) = some (eO 10 [.ref (cB G + 1), .ref (cB G + 108), .ref (cB G + 116), .ref (cB G + 128), .ref (cB G + 134), .ref (cB G + 142), .ref (cB G + 154), JV 1]) := by rw [eh8_1]; exact hup_self _ _ _
  have HX_1 : HP G S8 h8_1 := H8.frame (fun q9 hq9 hq8 => hup_at eh8_1 (by omega))
  refine wp_aload_n dX10_drop_18 rfl ?_
  refine wp_get fkX10_10 dX10_drop_19 c1_0 rfl ?_
  refine wp_get fkX10_136 dX10_drop_22 HX_1.1 rfl ?_
  refine wp_iret dX10_drop_25 rfl ?_
  have g14 : su S8 0 0 0 (S8 0 0 0) = S8 := by
    funext f i j
    unfold su
    split
    · rename_i q; rw [q.1, q.2.1, q.2.2]
    · rfl
  refine ⟨rfl, by rw [e14], S8, sp.stale c1_0 HX_1 ?_ (sp.2.2.2.1.drop hl hn (e0 13 (by decide) (by decide)) (e0 16 (by decide) (by decide)) (e0 19 (by decide) (by decide)) (e0 20 (by decide) (by decide)) e14 e18) (fun q hq => (hup_at eh8_1 (by omega)).trans (f8 q (by omega))), e0, e14, e18⟩
  obtain ⟨w1, w2, w3, w4, w5, w6, w7, w8, w9, w10, w11, w12, w13⟩ := sp.2.2.1
  unfold WF
  rw [e14]
  simp only [e0 0 (by decide) (by decide), e0 1 (by decide) (by decide), e0 2 (by decide) (by decide), e0 3 (by decide) (by decide), e0 4 (by decide) (by decide), e0 5 (by decide) (by decide), e0 6 (by decide) (by decide), e0 7 (by decide) (by decide), e0 8 (by decide) (by decide), e0 9 (by decide) (by decide), e0 10 (by decide) (by decide), e0 11 (by decide) (by decide), e0 12 (by decide) (by decide), e0 13 (by decide) (by decide), e0 15 (by decide) (by decide), e0 16 (by decide) (by decide), e0 17 (by decide) (by decide), e0 19 (by decide) (by decide), e0 20 (by decide) (by decide), e0 21 (by decide) (by decide), e0 22 (by decide) (by decide)]
  refine ⟨w1, w2, w3, w4, w5, w6, w7, by omega, w9, w10, w11, fun i hi => ?_, w13⟩
  rw [e18]
  unfold tkO
  split
  · exact w12 (i + 1) (by omega)
  · split
    · exact w12 l (by omega)
    · exact w12 i hi

end Tell

/-! ===== what the planner is told ===== -/
section Tell
variable {G : Ctx} {h : AH} {N : Nat} {S : ST} {st : Int} {K : KTup}
theorem SPI.stale {S' : ST} {h' : AH} (sp : SPI G h S st K) (hs' : h' (cB G) = some (cSP G 1)) (H' : HP G S' h') (w' : WF S') (tp' : TOP S') (fr : ∀ q, cB G + 108 ≤ q → h' q = h q) : SPI G h' S' 1 K := by
  obtain ⟨hs, H, w, tp, nt, lt, kp, c⟩ := sp
  refine ⟨hs', H', w', tp', nt.frame (fun q h1 h2 => fr q (by omega)), lt.frame (fun q h1 h2 => fr q (by omega)), ⟨kp.1.frame (fun q h1 h2 => fr q (by omega)), kp.2⟩, Or.inl ⟨rfl, ?_⟩⟩
  rcases c with ⟨_, n, l, d⟩ | ⟨_, f⟩
  · exact ⟨n.frame (fun q h1 h2 => fr q (by omega)), l.frame (fun q h1 h2 => fr q (by omega)), d.frame (fun q h1 h2 => fr q (by omega))⟩
  · obtain ⟨eb, ee, lb, le, rm, ld, wu, od, u, W, fa, fb, fc, fd, V, li⟩ := f
    exact ⟨⟨eb, ee, lb, le, rm, ld, W.frame (fun q h1 h2 => fr q (by omega)), fa⟩,
      ⟨_, _, _, u, _, _, _, _, V.frame (fun q h1 h2 => fr q (by omega)), li.2.2.2.2.1, li.z⟩,
      ⟨_, wu, fd.1.frame (fun q h1 h2 => fr q (by omega)), fd.2.1, fun c _ d hd => ldg_wz fd.2.2 c d hd⟩⟩
theorem TOP.same {S S' : ST} (t : TOP S) (h13 : S' 13 = S 13) (h14 : S' 14 = S 14) (h16 : S' 16 = S 16) (h18 : S' 18 = S 18) (h19 : S' 19 = S 19) (h20 : S' 20 = S 20) : TOP S' := by
  unfold TOP lF lT at *
  rw [h13, h14, h16, h18, h19, h20]
  exact t
theorem c_setWeek {t : Nat} {x : Int} (sp : SPI G h S st K) (ht : t < 4) (hx : 1 ≤ x ∧ x ≤ 127) : CT G mX10_setWeek [.ref (cB G), JV (t : Int), JV x] h N 0 0 (fun r h' N' => N' = N ∧ r = some (JV (S 0 t 0)) ∧ ∃ S', SPI G h' S' 1 K ∧ S' = su S 0 t 0 x) := by
  refine CT_of (by decide +kernel) rfl (by simp [Value.category]) (Nat.le_of_ble_eq_true rfl) ?_
  change WP G mX10_setWeek _ noX _ _ h N 0 [some (.ref (cB G)), some (JV (t : Int)), some (JV x), none, none] []
  refine wp_iload_n dX10_setWeek_0 rfl ?_
  refine wp_s1 0 0 (c_checkCalendar (N := N) (by omega) (by omega)) csX10_56 dX10_setWeek_1 ⟨Nat.le_of_ble_eq_true rfl, Nat.le_of_ble_eq_true rfl⟩ (Nat.le_of_ble_eq_true rfl) (by omega) (by omega) (fun r h9 N9 hq => ?_)
  obtain ⟨rfl, hh9, hN9⟩ := hq
  rw [hN9]
  rw [hh9]
  change WP G mX10_setWeek _ _ _ _ h N 4 [some (.ref (cB G)), some (JV (t : Int)), some (JV x), none, none] []
  refine wp_iload_n dX10_setWeek_4 rfl ?_
  refine wp_iconst dX10_setWeek_5 ?_
  refine wp_icmp_lt 19 dX10_setWeek_6 (by decide) ⟨by omega, by omega⟩ ⟨by omega, by omega⟩ (fun c_6 => ?_) (fun c_6 => ?_)
  · exact absurd c_6 (by omega)
  · refine wp_iload_n dX10_setWeek_9 rfl ?_
    refine wp_bipush dX10_setWeek_10 rfl ?_
    refine wp_icmp_gt 19 dX10_setWeek_12 (by decide) ⟨by omega, by omega⟩ ⟨by omega, by omega⟩ (fun c_12 => ?_) (fun c_12 => ?_)
    · exact absurd c_12 (by omega)
    · refine wp_iconst dX10_setWeek_15 ?_
      refine wp_goto 20 dX10_setWeek_16 (by decide) ?_
      refine wp_s1 0 0 (c_checkArgument (N := N)) csX10_60 dX10_setWeek_20 ⟨Nat.le_of_ble_eq_true rfl, Nat.le_of_ble_eq_true rfl⟩ (Nat.le_of_ble_eq_true rfl) (by omega) (by omega) (fun r h9 N9 hq => ?_)
      obtain ⟨rfl, hh9, hN9⟩ := hq
      rw [hN9]
      rw [hh9]
      change WP G mX10_setWeek _ _ _ _ h N 23 [some (.ref (cB G)), some (JV (t : Int)), some (JV x), none, none] []
      refine wp_aload_n dX10_setWeek_23 rfl ?_
      refine wp_get fkX10_10 dX10_setWeek_24 sp.1 rfl ?_
      refine wp_get fkX10_64 dX10_setWeek_27 sp.2.1.1 rfl ?_
      refine wp_iload_n dX10_setWeek_30 rfl ?_
      refine wp_aaload dX10_setWeek_31 sp.2.1.2.1 rfl rfl (by omega) (by omega) (by omega) (if_pos (by omega)) ?_
      change WP G mX10_setWeek _ _ _ _ h N 32 [some (.ref (cB G)), some (JV (t : Int)), some (JV x), none, none] [.ref (cB G + 8 + 2 * t)]
      refine wp_astore_n dX10_setWeek_32 (Nat.le_of_ble_eq_true rfl) rfl ?_
      change WP G mX10_setWeek _ _ _ _ h N 33 [some (.ref (cB G)), some (JV (t : Int)), some (JV x), some (.ref (cB G + 8 + 2 * t)), none] []
      refine wp_aload_n dX10_setWeek_33 rfl ?_
      refine wp_get fkX10_68 dX10_setWeek_34 (sp.2.1.2.2.2.2.2.2.2.1 t (by omega)) rfl ?_
      refine wp_istore dX10_setWeek_37 (Nat.le_of_ble_eq_true rfl) rfl ?_
      change WP G mX10_setWeek _ _ _ _ h N 39 [some (.ref (cB G)), some (JV (t : Int)), some (JV x), some (.ref (cB G + 8 + 2 * t)), some (JV (S 0 t 0))] []
      refine wp_aload_n dX10_setWeek_39 rfl ?_
      refine wp_iload_n dX10_setWeek_40 rfl ?_
      refine wp_put fkX10_68 dX10_setWeek_41 (sp.2.1.2.2.2.2.2.2.2.1 t (by omega)) rfl rfl (Nat.le_of_ble_eq_true rfl) ?_
      obtain ⟨h_1, eh_1⟩ : ∃ hh9 : AH, hh9 = hup h (cB G + 8 + 2 * t) (eO 0 [JV x, JV (S 1 t 0), .ref (cB G + 8 + 2 * t + 1)]) := ⟨_, rfl⟩
      refine WP.heq eh_1 ?_
      obtain ⟨S_1, eS_1⟩ : ∃ ss9 : ST, ss9 = su S 0 t 0 x := ⟨_, rfl⟩
      have H_1 : HP G S_1 h_1 := by rw [eS_1]; exact HP_0 (i := t) (v := x) (by omega) sp.2.1 (eh_1.trans (by simp [cCal, cCrew, cTask, cLink, su]))
      have c1_0 := (hup_at eh_1 (by omega)).trans sp.1
      refine wp_aload_n dX10_setWeek_44 rfl ?_
      refine wp_iconst dX10_setWeek_45 ?_
      refine wp_put fkX10_52 dX10_setWeek_46 c1_0 rfl rfl (Nat.le_of_ble_eq_true rfl) ?_
      obtain ⟨h_2, eh_2⟩ : ∃ hh9 : AH, hh9 = hup h_1 (cB G) (eO 10 [.ref (cB G + 1), .ref (cB G + 108), .ref (cB G + 116), .ref (cB G + 128), .ref (cB G + 134), .ref (cB G + 142), .ref (cB G + 154), JV 1]) := ⟨_, rfl⟩
      refine WP.heq eh_2 ?_
      have c2_0 : h_2 (cB G) = some (eO 10 [.ref (cB G + 1), .ref (cB G + 108), .ref (cB G + 116), .ref (cB G + 128), .ref (cB G + 134), .ref (cB G + 142), .ref (cB G + 154), JV 1]) := by rw [eh_2]; exact hup_self _ _ _
      have HX_2 : HP G S_1 h_2 := H_1.frame (fun q9 hq9 hq8 => hup_at eh_2 (by omega))
      refine wp_iload dX10_setWeek_49 rfl ?_
      refine wp_iret dX10_setWeek_51 rfl ?_
      refine ⟨rfl, rfl, _, sp.stale c2_0 HX_2 ?_ ?_ (fun q hq => by rw [hup_at eh_2 (by omega), hup_at eh_1 (by omega)]), eS_1⟩
      · obtain ⟨w1, w2, w3, w4, w5, w6, w7, w8, w9, w10, w11, w12, w13⟩ := sp.2.2.1
        rw [eS_1]
        refine ⟨fun c hc => ?_, w2, w3, w4, w5, w6, w7, w8, w9, w10, w11, w12, w13⟩
        by_cases hct : c = t
        · subst hct; rw [su_s]; omega
        · rw [su_i hct]; exact w1 c hc
      · rw [eS_1]; exact sp.2.2.2.1.same (su_f (by decide)) (su_f (by decide)) (su_f (by decide)) (su_f (by decide)) (su_f (by decide)) (su_f (by decide))

end Tell

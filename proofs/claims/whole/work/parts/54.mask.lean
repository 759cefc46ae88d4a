/-! ===== the reference: what is asked ===== -/
section Mq
variable {G : Ctx} {h : AH} {N : Nat} {S M : ST} {L : Nat → Nat} {z : Int64} {K : KTup}
theorem hl_thr {v : Int} (hl : M 17 0 0 = 0 ∨ (M 17 0 0 = 1 ∧ LAID S M)) : (su M 0 0 0 v) 17 0 0 = 0 ∨ ((su M 0 0 0 v) 17 0 0 = 1 ∧ LAID S (su M 0 0 0 v)) := by
  rw [su_f (by decide)]
  rcases hl with q | q
  · exact Or.inl q
  · exact Or.inr ⟨q.1, q.2.of fun f hf => su_f (fun e => by subst e; exact absurd hf (by decide))⟩
theorem mDV_17 : ∀ f ∈ [28, 29, 30, 31, 32, 33], ∀ g ∈ mDV, g ≠ f := by decide
theorem mDV_0 : ∀ g ∈ mDV, g ≠ 0 := by decide
theorem m_last (P : MP G N M L z h) (r : RS S M) (w : WF S) (tp : TOP S) (hl : M 17 0 0 = 0 ∨ (M 17 0 0 = 1 ∧ LAID S M)) : CT G mX11_last [.ref (cB G + 169)] h N 2 48 (fun r h' N' => ∃ M', MRE G S M L z h N 0 M' h' N' ∧ r = some (JV (M' 25 0 0))) := by
  refine CT_of (by decide +kernel) rfl (by simp [Value.category]) (Nat.le_of_ble_eq_true rfl) ?_
  change WP G mX11_last _ noX _ _ h N 0 [some (.ref (cB G + 169))] []
  refine wp_aload_n dX11_last_0 rfl ?_
  refine wp_iconst dX11_last_1 ?_
  refine wp_put fkX11_88 dX11_last_2 (P.s0 r) rfl rfl (Nat.le_of_ble_eq_true rfl) ?_
  obtain ⟨h_1, eh_1⟩ : ∃ hh9 : AH, hh9 = hup h (cB G + 169) (eO 11 [JV 0, .ref (cB G + 170), .ref (cB G + 171), .ref (cB G + 172), .ref (cB G + 177), .ref (cB G + 178), JV (S 13 0 0), .ref (cB G + 179), .ref (cB G + 180), .ref (cB G + 181), .ref (cB G + 182), .ref (cB G + 183), .ref (cB G + 208), .ref (cB G + 209), JV (S 14 0 0), .ref (cB G + 212), JV (S 15 0 0), JV (M 17 0 0), .ref (cB G + 253), .ref (cB G + 254), .ref (cB G + 257), .ref (cB G + 260), .ref (cB G + 261), .ref (cB G + 264), JV (M 24 0 0), JV (M 25 0 0), JV (M 26 0 0), .ref (cB G + 265), JV (M 28 0 0), .ref (cB G + 270), .ref (cB G + 273), .ref (cB G + 274), .ref (cB G + 275), .ref (cB G + 276), .long z]) := ⟨_, rfl⟩
  refine WP.heq eh_1 ?_
  obtain ⟨M_1, eM_1⟩ : ∃ ss9 : ST, ss9 = su M 0 0 0 0 := ⟨_, rfl⟩
  have P_1 : MP G (N) M_1 L z h_1 := by rw [eM_1]; exact P.sc (f := 0) (v := 0) (by decide) (eh_1.trans (by simp [cMod, su, r.2.2.1.1, r.2.2.1.2.1, r.2.2.1.2.2]))
  have r_1 : RS S M_1 := by rw [eM_1]; exact r.der (by decide)
  refine wp_aload_n dX11_last_5 rfl ?_
  have hl1 : M_1 17 0 0 = 0 ∨ (M_1 17 0 0 = 1 ∧ LAID S M_1) := by rw [eM_1]; exact hl_thr hl
  refine wp_v0 0 0 (m_lay (N := N) P_1 r_1 w tp hl1) cvX11_220 dX11_last_6 ⟨Nat.le_of_ble_eq_true rfl, Nat.le_of_ble_eq_true rfl⟩ (Nat.le_of_ble_eq_true rfl) (P_1.s0 r_1) rfl rfl (by omega) (by omega) (fun r9 h7 N7 hq => ?_)
  obtain ⟨rfl, hN7, hN7b, M7, P7, r7, e717, la7, m7, f7⟩ := hq
  change WP G mX11_last _ _ _ _ h7 N7 9 [some (.ref (cB G + 169))] []
  have hN0 := P.nN
  have e70 : M7 0 0 0 = 0 := by rw [m7 0 mDV_0, eM_1]; exact su_s
  have fa7 : FA G N h h7 := (FA.rf.up eh_1 (by omega)).tr f7 (Nat.le_refl _)
  have m7' : ∀ f, (∀ g ∈ mDV, g ≠ f) → f ≠ 0 → M7 f = M f := fun f hf h0 => by rw [m7 f hf, eM_1, su_f h0]
  refine wp_aload_n dX11_last_9 rfl ?_
  refine wp_get fkX11_133 dX11_last_10 (P7.s0 r7) rfl ?_
  refine wp_iret dX11_last_13 rfl ?_
  exact ⟨M7, ⟨by omega, by omega, P7, r7, e70, e717, la7, m7', fa7⟩, rfl⟩

theorem m_tight (P : MP G N M L z h) (r : RS S M) (w : WF S) (tp : TOP S) (hl : M 17 0 0 = 0 ∨ (M 17 0 0 = 1 ∧ LAID S M)) : CT G mX11_tight [.ref (cB G + 169)] h N 2 48 (fun r h' N' => ∃ M', MRE G S M L z h N 0 M' h' N' ∧ r = some (JV (tgt S (fun t => M' 21 t 0) (S 13 0 0).toNat 0))) := by
  refine CT_of (by decide +kernel) rfl (by simp [Value.category]) (Nat.le_of_ble_eq_true rfl) ?_
  change WP G mX11_tight _ noX _ _ h N 0 [some (.ref (cB G + 169))] []
  refine wp_aload_n dX11_tight_0 rfl ?_
  refine wp_iconst dX11_tight_1 ?_
  refine wp_put fkX11_88 dX11_tight_2 (P.s0 r) rfl rfl (Nat.le_of_ble_eq_true rfl) ?_
  obtain ⟨h_1, eh_1⟩ : ∃ hh9 : AH, hh9 = hup h (cB G + 169) (eO 11 [JV 0, .ref (cB G + 170), .ref (cB G + 171), .ref (cB G + 172), .ref (cB G + 177), .ref (cB G + 178), JV (S 13 0 0), .ref (cB G + 179), .ref (cB G + 180), .ref (cB G + 181), .ref (cB G + 182), .ref (cB G + 183), .ref (cB G + 208), .ref (cB G + 209), JV (S 14 0 0), .ref (cB G + 212), JV (S 15 0 0), JV (M 17 0 0), .ref (cB G + 253), .ref (cB G + 254), .ref (cB G + 257), .ref (cB G + 260), .ref (cB G + 261), .ref (cB G + 264), JV (M 24 0 0), JV (M 25 0 0), JV (M 26 0 0), .ref (cB G + 265), JV (M 28 0 0), .ref (cB G + 270), .ref (cB G + 273), .ref (cB G + 274), .ref (cB G + 275), .ref (cB G + 276), .long z]) := ⟨_, rfl⟩
  refine WP.heq eh_1 ?_
  obtain ⟨M_1, eM_1⟩ : ∃ ss9 : ST, ss9 = su M 0 0 0 0 := ⟨_, rfl⟩
  have P_1 : MP G (N) M_1 L z h_1 := by rw [eM_1]; exact P.sc (f := 0) (v := 0) (by decide) (eh_1.trans (by simp [cMod, su, r.2.2.1.1, r.2.2.1.2.1, r.2.2.1.2.2]))
  have r_1 : RS S M_1 := by rw [eM_1]; exact r.der (by decide)
  refine wp_aload_n dX11_tight_5 rfl ?_
  have hl1 : M_1 17 0 0 = 0 ∨ (M_1 17 0 0 = 1 ∧ LAID S M_1) := by rw [eM_1]; exact hl_thr hl
  refine wp_v0 0 0 (m_lay (N := N) P_1 r_1 w tp hl1) cvX11_220 dX11_tight_6 ⟨Nat.le_of_ble_eq_true rfl, Nat.le_of_ble_eq_true rfl⟩ (Nat.le_of_ble_eq_true rfl) (P_1.s0 r_1) rfl rfl (by omega) (by omega) (fun r9 h7 N7 hq => ?_)
  obtain ⟨rfl, hN7, hN7b, M7, P7, r7, e717, la7, m7, f7⟩ := hq
  change WP G mX11_tight _ _ _ _ h7 N7 9 [some (.ref (cB G + 169))] []
  have hN0 := P.nN
  have e70 : M7 0 0 0 = 0 := by rw [m7 0 mDV_0, eM_1]; exact su_s
  have fa7 : FA G N h h7 := (FA.rf.up eh_1 (by omega)).tr f7 (Nat.le_refl _)
  have m7' : ∀ f, (∀ g ∈ mDV, g ≠ f) → f ≠ 0 → M7 f = M f := fun f hf h0 => by rw [m7 f hf, eM_1, su_f h0]
  refine wp_aload_n dX11_tight_9 rfl ?_
  refine wp_v0p (m_tightNow (N := N7) P7 r7 w tp la7) cvX11_226 dX11_tight_10 ⟨Nat.le_of_ble_eq_true rfl, Nat.le_of_ble_eq_true rfl⟩ (Nat.le_of_ble_eq_true rfl) (P7.s0 r7) rfl rfl ?_
  refine wp_iret dX11_tight_13 rfl ?_
  exact ⟨M7, ⟨by omega, by omega, P7, r7, e70, e717, la7, m7', fa7⟩, rfl⟩

theorem m_levelledLast (P : MP G N M L z h) (r : RS S M) (w : WF S) (tp : TOP S) (hl : M 17 0 0 = 0 ∨ (M 17 0 0 = 1 ∧ LAID S M)) : CT G mX11_levelledLast [.ref (cB G + 169)] h N 2 48 (fun r h' N' => ∃ M', MRE G S M L z h N 0 M' h' N' ∧ r = some (JV (M' 26 0 0))) := by
  refine CT_of (by decide +kernel) rfl (by simp [Value.category]) (Nat.le_of_ble_eq_true rfl) ?_
  change WP G mX11_levelledLast _ noX _ _ h N 0 [some (.ref (cB G + 169))] []
  refine wp_aload_n dX11_levelledLast_0 rfl ?_
  refine wp_iconst dX11_levelledLast_1 ?_
  refine wp_put fkX11_88 dX11_levelledLast_2 (P.s0 r) rfl rfl (Nat.le_of_ble_eq_true rfl) ?_
  obtain ⟨h_1, eh_1⟩ : ∃ hh9 : AH, hh9 = hup h (cB G + 169) (eO 11 [JV 0, .ref (cB G + 170), .ref (cB G + 171), .ref (cB G + 172), .ref (cB G + 177), .ref (cB G + 178), JV (S 13 0 0), .ref (cB G + 179), .ref (cB G + 180), .ref (cB G + 181), .ref (cB G + 182), .ref (cB G + 183), .ref (cB G + 208), .ref (cB G + 209), JV (S 14 0 0), .ref (cB G + 212), JV (S 15 0 0), JV (M 17 0 0), .ref (cB G + 253), .ref (cB G + 254), .ref (cB G + 257), .ref (cB G + 260), .ref (cB G + 261), .ref (cB G + 264), JV (M 24 0 0), JV (M 25 0 0), JV (M 26 0 0), .ref (cB G + 265), JV (M 28 0 0), .ref (cB G + 270), .ref (cB G + 273), .ref (cB G + 274), .ref (cB G + 275), .ref (cB G + 276), .long z]) := ⟨_, rfl⟩
  refine WP.heq eh_1 ?_
  obtain ⟨M_1, eM_1⟩ : ∃ ss9 : ST, ss9 = su M 0 0 0 0 := ⟨_, rfl⟩
  have P_1 : MP G (N) M_1 L z h_1 := by rw [eM_1]; exact P.sc (f := 0) (v := 0) (by decide) (eh_1.trans (by simp [cMod, su, r.2.2.1.1, r.2.2.1.2.1, r.2.2.1.2.2]))
  have r_1 : RS S M_1 := by rw [eM_1]; exact r.der (by decide)
  refine wp_aload_n dX11_levelledLast_5 rfl ?_
  have hl1 : M_1 17 0 0 = 0 ∨ (M_1 17 0 0 = 1 ∧ LAID S M_1) := by rw [eM_1]; exact hl_thr hl
  refine wp_v0 0 0 (m_lay (N := N) P_1 r_1 w tp hl1) cvX11_220 dX11_levelledLast_6 ⟨Nat.le_of_ble_eq_true rfl, Nat.le_of_ble_eq_true rfl⟩ (Nat.le_of_ble_eq_true rfl) (P_1.s0 r_1) rfl rfl (by omega) (by omega) (fun r9 h7 N7 hq => ?_)
  obtain ⟨rfl, hN7, hN7b, M7, P7, r7, e717, la7, m7, f7⟩ := hq
  change WP G mX11_levelledLast _ _ _ _ h7 N7 9 [some (.ref (cB G + 169))] []
  have hN0 := P.nN
  have e70 : M7 0 0 0 = 0 := by rw [m7 0 mDV_0, eM_1]; exact su_s
  have fa7 : FA G N h h7 := (FA.rf.up eh_1 (by omega)).tr f7 (Nat.le_refl _)
  have m7' : ∀ f, (∀ g ∈ mDV, g ≠ f) → f ≠ 0 → M7 f = M f := fun f hf h0 => by rw [m7 f hf, eM_1, su_f h0]
  refine wp_aload_n dX11_levelledLast_9 rfl ?_
  refine wp_get fkX11_153 dX11_levelledLast_10 (P7.s0 r7) rfl ?_
  refine wp_iret dX11_levelledLast_13 rfl ?_
  exact ⟨M7, ⟨by omega, by omega, P7, r7, e70, e717, la7, m7', fa7⟩, rfl⟩

theorem m_stuck (P : MP G N M L z h) (r : RS S M) (w : WF S) (tp : TOP S) (hl : M 17 0 0 = 0 ∨ (M 17 0 0 = 1 ∧ LAID S M)) : CT G mX11_stuck [.ref (cB G + 169)] h N 2 48 (fun r h' N' => ∃ M', MRE G S M L z h N 0 M' h' N' ∧ r = some (JV (S 13 0 0 - M' 24 0 0))) := by
  refine CT_of (by decide +kernel) rfl (by simp [Value.category]) (Nat.le_of_ble_eq_true rfl) ?_
  change WP G mX11_stuck _ noX _ _ h N 0 [some (.ref (cB G + 169))] []
  refine wp_aload_n dX11_stuck_0 rfl ?_
  refine wp_iconst dX11_stuck_1 ?_
  refine wp_put fkX11_88 dX11_stuck_2 (P.s0 r) rfl rfl (Nat.le_of_ble_eq_true rfl) ?_
  obtain ⟨h_1, eh_1⟩ : ∃ hh9 : AH, hh9 = hup h (cB G + 169) (eO 11 [JV 0, .ref (cB G + 170), .ref (cB G + 171), .ref (cB G + 172), .ref (cB G + 177), .ref (cB G + 178), JV (S 13 0 0), .ref (cB G + 179), .ref (cB G + 180), .ref (cB G + 181), .ref (cB G + 182), .ref (cB G + 183), .ref (cB G + 208), .ref (cB G + 209), JV (S 14 0 0), .ref (cB G + 212), JV (S 15 0 0), JV (M 17 0 0), .ref (cB G + 253), .ref (cB G + 254), .ref (cB G + 257), .ref (cB G + 260), .ref (cB G + 261), .ref (cB G + 264), JV (M 24 0 0), JV (M 25 0 0), JV (M 26 0 0), .ref (cB G + 265), JV (M 28 0 0), .ref (cB G + 270), .ref (cB G + 273), .ref (cB G + 274), .ref (cB G + 275), .ref (cB G + 276), .long z]) := ⟨_, rfl⟩
  refine WP.heq eh_1 ?_
  obtain ⟨M_1, eM_1⟩ : ∃ ss9 : ST, ss9 = su M 0 0 0 0 := ⟨_, rfl⟩
  have P_1 : MP G (N) M_1 L z h_1 := by rw [eM_1]; exact P.sc (f := 0) (v := 0) (by decide) (eh_1.trans (by simp [cMod, su, r.2.2.1.1, r.2.2.1.2.1, r.2.2.1.2.2]))
  have r_1 : RS S M_1 := by rw [eM_1]; exact r.der (by decide)
  refine wp_aload_n dX11_stuck_5 rfl ?_
  have hl1 : M_1 17 0 0 = 0 ∨ (M_1 17 0 0 = 1 ∧ LAID S M_1) := by rw [eM_1]; exact hl_thr hl
  refine wp_v0 0 0 (m_lay (N := N) P_1 r_1 w tp hl1) cvX11_220 dX11_stuck_6 ⟨Nat.le_of_ble_eq_true rfl, Nat.le_of_ble_eq_true rfl⟩ (Nat.le_of_ble_eq_true rfl) (P_1.s0 r_1) rfl rfl (by omega) (by omega) (fun r9 h7 N7 hq => ?_)
  obtain ⟨rfl, hN7, hN7b, M7, P7, r7, e717, la7, m7, f7⟩ := hq
  change WP G mX11_stuck _ _ _ _ h7 N7 9 [some (.ref (cB G + 169))] []
  have hN0 := P.nN
  have e70 : M7 0 0 0 = 0 := by rw [m7 0 mDV_0, eM_1]; exact su_s
  have fa7 : FA G N h h7 := (FA.rf.up eh_1 (by omega)).tr f7 (Nat.le_refl _)
  have m7' : ∀ f, (∀ g ∈ mDV, g ≠ f) → f ≠ 0 → M7 f = M f := fun f hf h0 => by rw [m7 f hf, eM_1, su_f h0]
  refine wp_aload_n dX11_stuck_9 rfl ?_
  refine wp_get fkX11_96 dX11_stuck_10 (P7.s0 r7) rfl ?_
  refine wp_aload_n dX11_stuck_13 rfl ?_
  refine wp_get fkX11_150 dX11_stuck_14 (P7.s0 r7) rfl ?_
  refine wp_isub dX11_stuck_17 ?_
  refine wp_iret dX11_stuck_18 rfl ?_
  exact ⟨M7, ⟨by omega, by omega, P7, r7, e70, e717, la7, m7', fa7⟩, rfl⟩

theorem m_overloaded (P : MP G N M L z h) (r : RS S M) (w : WF S) (tp : TOP S) (hl : M 17 0 0 = 0 ∨ (M 17 0 0 = 1 ∧ LAID S M)) {c : Int} (hc : InR c) : CT G mX11_overloaded [.ref (cB G + 169), JV c] h N 2 48 (fun r h' N' => ∃ M', ((0 ≤ c ∧ c < 4) ∧ MRE G S M L z h N 0 M' h' N' ∧ r = some (JV (dab (ldg S (M' 19 0) (M' 19 1) (inT S) c.toNat) (S 3 c.toNat 0) (M' 25 0 0).toNat 0))) ∨ (¬ (0 ≤ c ∧ c < 4) ∧ MRE G S M L z h N 1 M' h' N' ∧ r = some (JV 0))) := by
  refine CT_of (by decide +kernel) rfl (by simp [Value.category]) (Nat.le_of_ble_eq_true rfl) ?_
  change WP G mX11_overloaded _ noX _ _ h N 0 [some (.ref (cB G + 169)), some (JV c)] []
  refine wp_aload_n dX11_overloaded_0 rfl ?_
  refine wp_iconst dX11_overloaded_1 ?_
  refine wp_put fkX11_88 dX11_overloaded_2 (P.s0 r) rfl rfl (Nat.le_of_ble_eq_true rfl) ?_
  obtain ⟨h_1, eh_1⟩ : ∃ hh9 : AH, hh9 = hup h (cB G + 169) (eO 11 [JV 0, .ref (cB G + 170), .ref (cB G + 171), .ref (cB G + 172), .ref (cB G + 177), .ref (cB G + 178), JV (S 13 0 0), .ref (cB G + 179), .ref (cB G + 180), .ref (cB G + 181), .ref (cB G + 182), .ref (cB G + 183), .ref (cB G + 208), .ref (cB G + 209), JV (S 14 0 0), .ref (cB G + 212), JV (S 15 0 0), JV (M 17 0 0), .ref (cB G + 253), .ref (cB G + 254), .ref (cB G + 257), .ref (cB G + 260), .ref (cB G + 261), .ref (cB G + 264), JV (M 24 0 0), JV (M 25 0 0), JV (M 26 0 0), .ref (cB G + 265), JV (M 28 0 0), .ref (cB G + 270), .ref (cB G + 273), .ref (cB G + 274), .ref (cB G + 275), .ref (cB G + 276), .long z]) := ⟨_, rfl⟩
  refine WP.heq eh_1 ?_
  obtain ⟨M_1, eM_1⟩ : ∃ ss9 : ST, ss9 = su M 0 0 0 0 := ⟨_, rfl⟩
  have P_1 : MP G (N) M_1 L z h_1 := by rw [eM_1]; exact P.sc (f := 0) (v := 0) (by decide) (eh_1.trans (by simp [cMod, su, r.2.2.1.1, r.2.2.1.2.1, r.2.2.1.2.2]))
  have r_1 : RS S M_1 := by rw [eM_1]; exact r.der (by decide)
  refine wp_aload_n dX11_overloaded_5 rfl ?_
  have hl1 : M_1 17 0 0 = 0 ∨ (M_1 17 0 0 = 1 ∧ LAID S M_1) := by rw [eM_1]; exact hl_thr hl
  refine wp_v0 0 0 (m_lay (N := N) P_1 r_1 w tp hl1) cvX11_220 dX11_overloaded_6 ⟨Nat.le_of_ble_eq_true rfl, Nat.le_of_ble_eq_true rfl⟩ (Nat.le_of_ble_eq_true rfl) (P_1.s0 r_1) rfl rfl (by omega) (by omega) (fun r9 h7 N7 hq => ?_)
  obtain ⟨rfl, hN7, hN7b, M7, P7, r7, e717, la7, m7, f7⟩ := hq
  change WP G mX11_overloaded _ _ _ _ h7 N7 9 [some (.ref (cB G + 169)), some (JV c)] []
  have hN0 := P.nN
  have e70 : M7 0 0 0 = 0 := by rw [m7 0 mDV_0, eM_1]; exact su_s
  have fa7 : FA G N h h7 := (FA.rf.up eh_1 (by omega)).tr f7 (Nat.le_refl _)
  have m7' : ∀ f, (∀ g ∈ mDV, g ≠ f) → f ≠ 0 → M7 f = M f := fun f hf h0 => by rw [m7 f hf, eM_1, su_f h0]
  refine wp_iload_n dX11_overloaded_9 rfl ?_
  refine wp_s1p (m_isCrew (N := N7) hc) csX11_198 dX11_overloaded_10 ⟨Nat.le_of_ble_eq_true rfl, Nat.le_of_ble_eq_true rfl⟩ (Nat.le_of_ble_eq_true rfl) ?_
  refine wp_if_eq 24 dX11_overloaded_13 (by decide) (bI_r _) (fun c_13 => ?_) (fun c_13 => ?_)
  · refine wp_aload_n dX11_overloaded_24 rfl ?_
    refine wp_iconst dX11_overloaded_25 ?_
    refine wp_v1 0 0 (m_refuse (N := N7) (x := 1) P7) cvX11_194 dX11_overloaded_26 ⟨Nat.le_of_ble_eq_true rfl, Nat.le_of_ble_eq_true rfl⟩ (Nat.le_of_ble_eq_true rfl) (P7.s0 r7) rfl rfl (by omega) (by omega) (fun r9 h8 N8 hq => ?_)
    obtain ⟨hN8, rfl, M8, P8, e8, f8⟩ := hq
    rw [hN8]
    have r8 : RS S M8 := by rw [e8]; exact r7.der (by decide)
    change WP G mX11_overloaded _ _ _ _ h8 N7 29 [some (.ref (cB G + 169)), some (JV c)] [JV 0]
    refine wp_iret dX11_overloaded_29 rfl ?_
    exact ⟨M8, Or.inr ⟨(fun q => by rw [decide_eq_true (show 0 ≤ c ∧ c ≤ 3 by omega)] at c_13; exact absurd c_13 (by decide)), ⟨by omega, by omega, P8, r8, by rw [e8]; exact su_s, by rw [e8, su_f (by decide)]; exact e717, la7.of (fun f hf => by rw [e8]; exact su_f (fun e => by subst e; exact absurd hf (by decide))), fun f hf h0 => by rw [e8, su_f h0]; exact m7' f hf h0, fa7.tr f8.fa hN7⟩, rfl⟩⟩
  · have hc9 := bI_p c_13
    obtain ⟨c9, rfl⟩ : ∃ c9 : Nat, c = (c9 : Int) := ⟨c.toNat, by omega⟩
    obtain ⟨od, ml⟩ := la7.2.2.2
    have lv := LV9_all w (lb := M7 20 0) (rm := fun x => M7 21 x 0) (rl := S 15 0 0) od
    have lf := LFD_all w (lb := M7 20 0) (rm := fun x => M7 21 x 0) (rl := S 15 0 0) od
    have hct := lv.ct w
    have wT := w.nT
    have hct0 := lv.2.2.2.1
    have hld := lv.2.2.2.2.2.2.1
    have e24 := ml.2.2.1
    have e26 := ml.2.2.2.1
    refine wp_aload_n dX11_overloaded_16 rfl ?_
    refine wp_iload_n dX11_overloaded_17 rfl ?_
    refine wp_v1p (m_overloadedNow (N := N7) P7 r7 w tp la7 (c := c9) (by omega)) cvX11_233 dX11_overloaded_18 ⟨Nat.le_of_ble_eq_true rfl, Nat.le_of_ble_eq_true rfl⟩ (Nat.le_of_ble_eq_true rfl) (P7.s0 r7) rfl rfl ?_
    refine wp_goto 29 dX11_overloaded_21 (by decide) ?_
    refine wp_iret dX11_overloaded_29 rfl ?_
    exact ⟨M7, Or.inl ⟨by omega, ⟨by omega, by omega, P7, r7, e70, e717, la7, m7', fa7⟩, rfl⟩⟩

theorem m_peak (P : MP G N M L z h) (r : RS S M) (w : WF S) (tp : TOP S) (hl : M 17 0 0 = 0 ∨ (M 17 0 0 = 1 ∧ LAID S M)) {c : Int} (hc : InR c) : CT G mX11_peak [.ref (cB G + 169), JV c] h N 2 48 (fun r h' N' => ∃ M', ((0 ≤ c ∧ c < 4) ∧ MRE G S M L z h N 0 M' h' N' ∧ r = some (JV (grt (M' 27 c.toNat) (M' 26 0 0).toNat 0 0))) ∨ (¬ (0 ≤ c ∧ c < 4) ∧ MRE G S M L z h N 1 M' h' N' ∧ r = some (JV 0))) := by
  refine CT_of (by decide +kernel) rfl (by simp [Value.category]) (Nat.le_of_ble_eq_true rfl) ?_
  change WP G mX11_peak _ noX _ _ h N 0 [some (.ref (cB G + 169)), some (JV c)] []
  refine wp_aload_n dX11_peak_0 rfl ?_
  refine wp_iconst dX11_peak_1 ?_
  refine wp_put fkX11_88 dX11_peak_2 (P.s0 r) rfl rfl (Nat.le_of_ble_eq_true rfl) ?_
  obtain ⟨h_1, eh_1⟩ : ∃ hh9 : AH, hh9 = hup h (cB G + 169) (eO 11 [JV 0, .ref (cB G + 170), .ref (cB G + 171), .ref (cB G + 172), .ref (cB G + 177), .ref (cB G + 178), JV (S 13 0 0), .ref (cB G + 179), .ref (cB G + 180), .ref (cB G + 181), .ref (cB G + 182), .ref (cB G + 183), .ref (cB G + 208), .ref (cB G + 209), JV (S 14 0 0), .ref (cB G + 212), JV (S 15 0 0), JV (M 17 0 0), .ref (cB G + 253), .ref (cB G + 254), .ref (cB G + 257), .ref (cB G + 260), .ref (cB G + 261), .ref (cB G + 264), JV (M 24 0 0), JV (M 25 0 0), JV (M 26 0 0), .ref (cB G + 265), JV (M 28 0 0), .ref (cB G + 270), .ref (cB G + 273), .ref (cB G + 274), .ref (cB G + 275), .ref (cB G + 276), .long z]) := ⟨_, rfl⟩
  refine WP.heq eh_1 ?_
  obtain ⟨M_1, eM_1⟩ : ∃ ss9 : ST, ss9 = su M 0 0 0 0 := ⟨_, rfl⟩
  have P_1 : MP G (N) M_1 L z h_1 := by rw [eM_1]; exact P.sc (f := 0) (v := 0) (by decide) (eh_1.trans (by simp [cMod, su, r.2.2.1.1, r.2.2.1.2.1, r.2.2.1.2.2]))
  have r_1 : RS S M_1 := by rw [eM_1]; exact r.der (by decide)
  refine wp_aload_n dX11_peak_5 rfl ?_
  have hl1 : M_1 17 0 0 = 0 ∨ (M_1 17 0 0 = 1 ∧ LAID S M_1) := by rw [eM_1]; exact hl_thr hl
  refine wp_v0 0 0 (m_lay (N := N) P_1 r_1 w tp hl1) cvX11_220 dX11_peak_6 ⟨Nat.le_of_ble_eq_true rfl, Nat.le_of_ble_eq_true rfl⟩ (Nat.le_of_ble_eq_true rfl) (P_1.s0 r_1) rfl rfl (by omega) (by omega) (fun r9 h7 N7 hq => ?_)
  obtain ⟨rfl, hN7, hN7b, M7, P7, r7, e717, la7, m7, f7⟩ := hq
  change WP G mX11_peak _ _ _ _ h7 N7 9 [some (.ref (cB G + 169)), some (JV c)] []
  have hN0 := P.nN
  have e70 : M7 0 0 0 = 0 := by rw [m7 0 mDV_0, eM_1]; exact su_s
  have fa7 : FA G N h h7 := (FA.rf.up eh_1 (by omega)).tr f7 (Nat.le_refl _)
  have m7' : ∀ f, (∀ g ∈ mDV, g ≠ f) → f ≠ 0 → M7 f = M f := fun f hf h0 => by rw [m7 f hf, eM_1, su_f h0]
  refine wp_iload_n dX11_peak_9 rfl ?_
  refine wp_s1p (m_isCrew (N := N7) hc) csX11_198 dX11_peak_10 ⟨Nat.le_of_ble_eq_true rfl, Nat.le_of_ble_eq_true rfl⟩ (Nat.le_of_ble_eq_true rfl) ?_
  refine wp_if_eq 24 dX11_peak_13 (by decide) (bI_r _) (fun c_13 => ?_) (fun c_13 => ?_)
  · refine wp_aload_n dX11_peak_24 rfl ?_
    refine wp_iconst dX11_peak_25 ?_
    refine wp_v1 0 0 (m_refuse (N := N7) (x := 1) P7) cvX11_194 dX11_peak_26 ⟨Nat.le_of_ble_eq_true rfl, Nat.le_of_ble_eq_true rfl⟩ (Nat.le_of_ble_eq_true rfl) (P7.s0 r7) rfl rfl (by omega) (by omega) (fun r9 h8 N8 hq => ?_)
    obtain ⟨hN8, rfl, M8, P8, e8, f8⟩ := hq
    rw [hN8]
    have r8 : RS S M8 := by rw [e8]; exact r7.der (by decide)
    change WP G mX11_peak _ _ _ _ h8 N7 29 [some (.ref (cB G + 169)), some (JV c)] [JV 0]
    refine wp_iret dX11_peak_29 rfl ?_
    exact ⟨M8, Or.inr ⟨(fun q => by rw [decide_eq_true (show 0 ≤ c ∧ c ≤ 3 by omega)] at c_13; exact absurd c_13 (by decide)), ⟨by omega, by omega, P8, r8, by rw [e8]; exact su_s, by rw [e8, su_f (by decide)]; exact e717, la7.of (fun f hf => by rw [e8]; exact su_f (fun e => by subst e; exact absurd hf (by decide))), fun f hf h0 => by rw [e8, su_f h0]; exact m7' f hf h0, fa7.tr f8.fa hN7⟩, rfl⟩⟩
  · have hc9 := bI_p c_13
    obtain ⟨c9, rfl⟩ : ∃ c9 : Nat, c = (c9 : Int) := ⟨c.toNat, by omega⟩
    obtain ⟨od, ml⟩ := la7.2.2.2
    have lv := LV9_all w (lb := M7 20 0) (rm := fun x => M7 21 x 0) (rl := S 15 0 0) od
    have lf := LFD_all w (lb := M7 20 0) (rm := fun x => M7 21 x 0) (rl := S 15 0 0) od
    have hct := lv.ct w
    have wT := w.nT
    have hct0 := lv.2.2.2.1
    have hld := lv.2.2.2.2.2.2.1
    have e24 := ml.2.2.1
    have e26 := ml.2.2.2.1
    refine wp_aload_n dX11_peak_16 rfl ?_
    refine wp_iload_n dX11_peak_17 rfl ?_
    refine wp_v1p (m_peakNow (N := N7) P7 r7 w (c := c9) (by omega) (fun d hd => by rw [ml.2.2.2.2 c9 (by omega) d (by omega)]; have := ldg_r w (b := (lvAll S (M7 20 0) (fun x => M7 21 x 0) (S 15 0 0) od).1) (e := (lvAll S (M7 20 0) (fun x => M7 21 x 0) (S 15 0 0) od).2.1) (inn := (lvAll S (M7 20 0) (fun x => M7 21 x 0) (S 15 0 0) od).2.2.1) c9 d; omega) (by omega)) cvX11_236 dX11_peak_18 ⟨Nat.le_of_ble_eq_true rfl, Nat.le_of_ble_eq_true rfl⟩ (Nat.le_of_ble_eq_true rfl) (P7.s0 r7) rfl rfl ?_
    refine wp_goto 29 dX11_peak_21 (by decide) ?_
    refine wp_iret dX11_peak_29 rfl ?_
    exact ⟨M7, Or.inl ⟨by omega, ⟨by omega, by omega, P7, r7, e70, e717, la7, m7', fa7⟩, rfl⟩⟩

theorem m_idle (P : MP G N M L z h) (r : RS S M) (w : WF S) (tp : TOP S) (hl : M 17 0 0 = 0 ∨ (M 17 0 0 = 1 ∧ LAID S M)) {c : Int} (hc : InR c) : CT G mX11_idle [.ref (cB G + 169), JV c] h N 2 48 (fun r h' N' => ∃ M', ((0 ≤ c ∧ c < 4) ∧ MRE G S M L z h N 0 M' h' N' ∧ r = some (JV (lov (M' 27) c.toNat (S 3 c.toNat 0) (M' 26 0 0).toNat 0))) ∨ (¬ (0 ≤ c ∧ c < 4) ∧ MRE G S M L z h N 1 M' h' N' ∧ r = some (JV 0))) := by
  refine CT_of (by decide +kernel) rfl (by simp [Value.category]) (Nat.le_of_ble_eq_true rfl) ?_
  change WP G mX11_idle _ noX _ _ h N 0 [some (.ref (cB G + 169)), some (JV c)] []
  refine wp_aload_n dX11_idle_0 rfl ?_
  refine wp_iconst dX11_idle_1 ?_
  refine wp_put fkX11_88 dX11_idle_2 (P.s0 r) rfl rfl (Nat.le_of_ble_eq_true rfl) ?_
  obtain ⟨h_1, eh_1⟩ : ∃ hh9 : AH, hh9 = hup h (cB G + 169) (eO 11 [JV 0, .ref (cB G + 170), .ref (cB G + 171), .ref (cB G + 172), .ref (cB G + 177), .ref (cB G + 178), JV (S 13 0 0), .ref (cB G + 179), .ref (cB G + 180), .ref (cB G + 181), .ref (cB G + 182), .ref (cB G + 183), .ref (cB G + 208), .ref (cB G + 209), JV (S 14 0 0), .ref (cB G + 212), JV (S 15 0 0), JV (M 17 0 0), .ref (cB G + 253), .ref (cB G + 254), .ref (cB G + 257), .ref (cB G + 260), .ref (cB G + 261), .ref (cB G + 264), JV (M 24 0 0), JV (M 25 0 0), JV (M 26 0 0), .ref (cB G + 265), JV (M 28 0 0), .ref (cB G + 270), .ref (cB G + 273), .ref (cB G + 274), .ref (cB G + 275), .ref (cB G + 276), .long z]) := ⟨_, rfl⟩
  refine WP.heq eh_1 ?_
  obtain ⟨M_1, eM_1⟩ : ∃ ss9 : ST, ss9 = su M 0 0 0 0 := ⟨_, rfl⟩
  have P_1 : MP G (N) M_1 L z h_1 := by rw [eM_1]; exact P.sc (f := 0) (v := 0) (by decide) (eh_1.trans (by simp [cMod, su, r.2.2.1.1, r.2.2.1.2.1, r.2.2.1.2.2]))
  have r_1 : RS S M_1 := by rw [eM_1]; exact r.der (by decide)
  refine wp_aload_n dX11_idle_5 rfl ?_
  have hl1 : M_1 17 0 0 = 0 ∨ (M_1 17 0 0 = 1 ∧ LAID S M_1) := by rw [eM_1]; exact hl_thr hl
  refine wp_v0 0 0 (m_lay (N := N) P_1 r_1 w tp hl1) cvX11_220 dX11_idle_6 ⟨Nat.le_of_ble_eq_true rfl, Nat.le_of_ble_eq_true rfl⟩ (Nat.le_of_ble_eq_true rfl) (P_1.s0 r_1) rfl rfl (by omega) (by omega) (fun r9 h7 N7 hq => ?_)
  obtain ⟨rfl, hN7, hN7b, M7, P7, r7, e717, la7, m7, f7⟩ := hq
  change WP G mX11_idle _ _ _ _ h7 N7 9 [some (.ref (cB G + 169)), some (JV c)] []
  have hN0 := P.nN
  have e70 : M7 0 0 0 = 0 := by rw [m7 0 mDV_0, eM_1]; exact su_s
  have fa7 : FA G N h h7 := (FA.rf.up eh_1 (by omega)).tr f7 (Nat.le_refl _)
  have m7' : ∀ f, (∀ g ∈ mDV, g ≠ f) → f ≠ 0 → M7 f = M f := fun f hf h0 => by rw [m7 f hf, eM_1, su_f h0]
  refine wp_iload_n dX11_idle_9 rfl ?_
  refine wp_s1p (m_isCrew (N := N7) hc) csX11_198 dX11_idle_10 ⟨Nat.le_of_ble_eq_true rfl, Nat.le_of_ble_eq_true rfl⟩ (Nat.le_of_ble_eq_true rfl) ?_
  refine wp_if_eq 24 dX11_idle_13 (by decide) (bI_r _) (fun c_13 => ?_) (fun c_13 => ?_)
  · refine wp_aload_n dX11_idle_24 rfl ?_
    refine wp_iconst dX11_idle_25 ?_
    refine wp_v1 0 0 (m_refuse (N := N7) (x := 1) P7) cvX11_194 dX11_idle_26 ⟨Nat.le_of_ble_eq_true rfl, Nat.le_of_ble_eq_true rfl⟩ (Nat.le_of_ble_eq_true rfl) (P7.s0 r7) rfl rfl (by omega) (by omega) (fun r9 h8 N8 hq => ?_)
    obtain ⟨hN8, rfl, M8, P8, e8, f8⟩ := hq
    rw [hN8]
    have r8 : RS S M8 := by rw [e8]; exact r7.der (by decide)
    change WP G mX11_idle _ _ _ _ h8 N7 29 [some (.ref (cB G + 169)), some (JV c)] [JV 0]
    refine wp_iret dX11_idle_29 rfl ?_
    exact ⟨M8, Or.inr ⟨(fun q => by rw [decide_eq_true (show 0 ≤ c ∧ c ≤ 3 by omega)] at c_13; exact absurd c_13 (by decide)), ⟨by omega, by omega, P8, r8, by rw [e8]; exact su_s, by rw [e8, su_f (by decide)]; exact e717, la7.of (fun f hf => by rw [e8]; exact su_f (fun e => by subst e; exact absurd hf (by decide))), fun f hf h0 => by rw [e8, su_f h0]; exact m7' f hf h0, fa7.tr f8.fa hN7⟩, rfl⟩⟩
  · have hc9 := bI_p c_13
    obtain ⟨c9, rfl⟩ : ∃ c9 : Nat, c = (c9 : Int) := ⟨c.toNat, by omega⟩
    obtain ⟨od, ml⟩ := la7.2.2.2
    have lv := LV9_all w (lb := M7 20 0) (rm := fun x => M7 21 x 0) (rl := S 15 0 0) od
    have lf := LFD_all w (lb := M7 20 0) (rm := fun x => M7 21 x 0) (rl := S 15 0 0) od
    have hct := lv.ct w
    have wT := w.nT
    have hct0 := lv.2.2.2.1
    have hld := lv.2.2.2.2.2.2.1
    have e24 := ml.2.2.1
    have e26 := ml.2.2.2.1
    refine wp_aload_n dX11_idle_16 rfl ?_
    refine wp_iload_n dX11_idle_17 rfl ?_
    refine wp_v1p (m_idleNow (N := N7) P7 r7 w (c := c9) (by omega) (fun d hd => by rw [ml.2.2.2.2 c9 (by omega) d (by omega)]; have := ldg_r w (b := (lvAll S (M7 20 0) (fun x => M7 21 x 0) (S 15 0 0) od).1) (e := (lvAll S (M7 20 0) (fun x => M7 21 x 0) (S 15 0 0) od).2.1) (inn := (lvAll S (M7 20 0) (fun x => M7 21 x 0) (S 15 0 0) od).2.2.1) c9 d; omega) (by omega)) cvX11_245 dX11_idle_18 ⟨Nat.le_of_ble_eq_true rfl, Nat.le_of_ble_eq_true rfl⟩ (Nat.le_of_ble_eq_true rfl) (P7.s0 r7) rfl rfl ?_
    refine wp_goto 29 dX11_idle_21 (by decide) ?_
    refine wp_iret dX11_idle_29 rfl ?_
    exact ⟨M7, Or.inl ⟨by omega, ⟨by omega, by omega, P7, r7, e70, e717, la7, m7', fa7⟩, rfl⟩⟩

theorem m_wanted (P : MP G N M L z h) (r : RS S M) (w : WF S) (tp : TOP S) (hl : M 17 0 0 = 0 ∨ (M 17 0 0 = 1 ∧ LAID S M)) {c d : Int} (hc : InR c) (hd : InR d) : CT G mX11_wanted [.ref (cB G + 169), JV c, JV d] h N 2 48 (fun r h' N' => ∃ M', (((0 ≤ c ∧ c < 4) ∧ (0 ≤ d ∧ d ≤ 9999)) ∧ MRE G S M L z h N 0 M' h' N' ∧ r = some (JV (ldg S (M' 19 0) (M' 19 1) (inT S) c.toNat d.toNat))) ∨ (¬ (0 ≤ c ∧ c < 4) ∧ MRE G S M L z h N 1 M' h' N' ∧ r = some (JV 0)) ∨ (((0 ≤ c ∧ c < 4) ∧ ¬ (0 ≤ d ∧ d ≤ 9999)) ∧ MRE G S M L z h N 2 M' h' N' ∧ r = some (JV 0))) := by
  refine CT_of (by decide +kernel) rfl (by simp [Value.category]) (Nat.le_of_ble_eq_true rfl) ?_
  change WP G mX11_wanted _ noX _ _ h N 0 [some (.ref (cB G + 169)), some (JV c), some (JV d)] []
  refine wp_aload_n dX11_wanted_0 rfl ?_
  refine wp_iconst dX11_wanted_1 ?_
  refine wp_put fkX11_88 dX11_wanted_2 (P.s0 r) rfl rfl (Nat.le_of_ble_eq_true rfl) ?_
  obtain ⟨h_1, eh_1⟩ : ∃ hh9 : AH, hh9 = hup h (cB G + 169) (eO 11 [JV 0, .ref (cB G + 170), .ref (cB G + 171), .ref (cB G + 172), .ref (cB G + 177), .ref (cB G + 178), JV (S 13 0 0), .ref (cB G + 179), .ref (cB G + 180), .ref (cB G + 181), .ref (cB G + 182), .ref (cB G + 183), .ref (cB G + 208), .ref (cB G + 209), JV (S 14 0 0), .ref (cB G + 212), JV (S 15 0 0), JV (M 17 0 0), .ref (cB G + 253), .ref (cB G + 254), .ref (cB G + 257), .ref (cB G + 260), .ref (cB G + 261), .ref (cB G + 264), JV (M 24 0 0), JV (M 25 0 0), JV (M 26 0 0), .ref (cB G + 265), JV (M 28 0 0), .ref (cB G + 270), .ref (cB G + 273), .ref (cB G + 274), .ref (cB G + 275), .ref (cB G + 276), .long z]) := ⟨_, rfl⟩
  refine WP.heq eh_1 ?_
  obtain ⟨M_1, eM_1⟩ : ∃ ss9 : ST, ss9 = su M 0 0 0 0 := ⟨_, rfl⟩
  have P_1 : MP G (N) M_1 L z h_1 := by rw [eM_1]; exact P.sc (f := 0) (v := 0) (by decide) (eh_1.trans (by simp [cMod, su, r.2.2.1.1, r.2.2.1.2.1, r.2.2.1.2.2]))
  have r_1 : RS S M_1 := by rw [eM_1]; exact r.der (by decide)
  refine wp_aload_n dX11_wanted_5 rfl ?_
  have hl1 : M_1 17 0 0 = 0 ∨ (M_1 17 0 0 = 1 ∧ LAID S M_1) := by rw [eM_1]; exact hl_thr hl
  refine wp_v0 0 0 (m_lay (N := N) P_1 r_1 w tp hl1) cvX11_220 dX11_wanted_6 ⟨Nat.le_of_ble_eq_true rfl, Nat.le_of_ble_eq_true rfl⟩ (Nat.le_of_ble_eq_true rfl) (P_1.s0 r_1) rfl rfl (by omega) (by omega) (fun r9 h7 N7 hq => ?_)
  obtain ⟨rfl, hN7, hN7b, M7, P7, r7, e717, la7, m7, f7⟩ := hq
  change WP G mX11_wanted _ _ _ _ h7 N7 9 [some (.ref (cB G + 169)), some (JV c), some (JV d)] []
  have hN0 := P.nN
  have e70 : M7 0 0 0 = 0 := by rw [m7 0 mDV_0, eM_1]; exact su_s
  have fa7 : FA G N h h7 := (FA.rf.up eh_1 (by omega)).tr f7 (Nat.le_refl _)
  have m7' : ∀ f, (∀ g ∈ mDV, g ≠ f) → f ≠ 0 → M7 f = M f := fun f hf h0 => by rw [m7 f hf, eM_1, su_f h0]
  refine wp_iload_n dX11_wanted_9 rfl ?_
  refine wp_s1p (m_isCrew (N := N7) hc) csX11_198 dX11_wanted_10 ⟨Nat.le_of_ble_eq_true rfl, Nat.le_of_ble_eq_true rfl⟩ (Nat.le_of_ble_eq_true rfl) ?_
  refine wp_if_ne 22 dX11_wanted_13 (by decide) (bI_r _) (fun c_13 => ?_) (fun c_13 => ?_)
  · refine wp_iload_n dX11_wanted_22 rfl ?_
    refine wp_iconst dX11_wanted_23 ?_
    refine wp_sipush dX11_wanted_24 rfl ?_
    refine wp_s3p (m_is (N := N7) hd ⟨by omega, by omega⟩ ⟨by omega, by omega⟩) csX11_92 dX11_wanted_27 ⟨Nat.le_of_ble_eq_true rfl, Nat.le_of_ble_eq_true rfl⟩ (Nat.le_of_ble_eq_true rfl) ?_
    refine wp_if_eq 42 dX11_wanted_30 (by decide) (bI_r _) (fun c_30 => ?_) (fun c_30 => ?_)
    · have hc9 := bI_p c_13
      refine wp_aload_n dX11_wanted_42 rfl ?_
      refine wp_iconst dX11_wanted_43 ?_
      refine wp_v1 0 0 (m_refuse (N := N7) (x := 2) P7) cvX11_194 dX11_wanted_44 ⟨Nat.le_of_ble_eq_true rfl, Nat.le_of_ble_eq_true rfl⟩ (Nat.le_of_ble_eq_true rfl) (P7.s0 r7) rfl rfl (by omega) (by omega) (fun r9 h8 N8 hq => ?_)
      obtain ⟨hN8, rfl, M8, P8, e8, f8⟩ := hq
      rw [hN8]
      have r8 : RS S M8 := by rw [e8]; exact r7.der (by decide)
      change WP G mX11_wanted _ _ _ _ h8 N7 47 [some (.ref (cB G + 169)), some (JV c), some (JV d)] [JV 0]
      refine wp_iret dX11_wanted_47 rfl ?_
      exact ⟨M8, Or.inr (Or.inr ⟨⟨by omega, fun q => by rw [decide_eq_true q] at c_30; exact absurd c_30 (by decide)⟩, ⟨by omega, by omega, P8, r8, by rw [e8]; exact su_s, by rw [e8, su_f (by decide)]; exact e717, la7.of (fun f hf => by rw [e8]; exact su_f (fun e => by subst e; exact absurd hf (by decide))), fun f hf h0 => by rw [e8, su_f h0]; exact m7' f hf h0, fa7.tr f8.fa hN7⟩, rfl⟩)⟩
    · have hc9 := bI_p c_13
      have hd9 := bI_p c_30
      obtain ⟨c9, rfl⟩ : ∃ c9 : Nat, c = (c9 : Int) := ⟨c.toNat, by omega⟩
      obtain ⟨d9, rfl⟩ : ∃ d9 : Nat, d = (d9 : Int) := ⟨d.toNat, by omega⟩
      refine wp_aload_n dX11_wanted_33 rfl ?_
      refine wp_iload_n dX11_wanted_34 rfl ?_
      refine wp_iload_n dX11_wanted_35 rfl ?_
      refine wp_v2p (m_wantedOn (N := N7) P7 r7 w tp la7 (c := c9) (d := d9) (by omega) (by omega)) cvX11_230 dX11_wanted_36 ⟨Nat.le_of_ble_eq_true rfl, Nat.le_of_ble_eq_true rfl⟩ (Nat.le_of_ble_eq_true rfl) (P7.s0 r7) rfl rfl ?_
      refine wp_goto 47 dX11_wanted_39 (by decide) ?_
      refine wp_iret dX11_wanted_47 rfl ?_
      exact ⟨M7, Or.inl ⟨⟨by omega, by omega⟩, ⟨by omega, by omega, P7, r7, e70, e717, la7, m7', fa7⟩, rfl⟩⟩
  · refine wp_aload_n dX11_wanted_16 rfl ?_
    refine wp_iconst dX11_wanted_17 ?_
    refine wp_v1 0 0 (m_refuse (N := N7) (x := 1) P7) cvX11_194 dX11_wanted_18 ⟨Nat.le_of_ble_eq_true rfl, Nat.le_of_ble_eq_true rfl⟩ (Nat.le_of_ble_eq_true rfl) (P7.s0 r7) rfl rfl (by omega) (by omega) (fun r9 h8 N8 hq => ?_)
    obtain ⟨hN8, rfl, M8, P8, e8, f8⟩ := hq
    rw [hN8]
    have r8 : RS S M8 := by rw [e8]; exact r7.der (by decide)
    change WP G mX11_wanted _ _ _ _ h8 N7 21 [some (.ref (cB G + 169)), some (JV c), some (JV d)] [JV 0]
    refine wp_iret dX11_wanted_21 rfl ?_
    exact ⟨M8, Or.inr (Or.inl ⟨(fun q => by rw [decide_eq_true (show 0 ≤ c ∧ c ≤ 3 by omega)] at c_13; exact absurd c_13 (by decide)), ⟨by omega, by omega, P8, r8, by rw [e8]; exact su_s, by rw [e8, su_f (by decide)]; exact e717, la7.of (fun f hf => by rw [e8]; exact su_f (fun e => by subst e; exact absurd hf (by decide))), fun f hf h0 => by rw [e8, su_f h0]; exact m7' f hf h0, fa7.tr f8.fa hN7⟩, rfl⟩)⟩

theorem m_used (P : MP G N M L z h) (r : RS S M) (w : WF S) (tp : TOP S) (hl : M 17 0 0 = 0 ∨ (M 17 0 0 = 1 ∧ LAID S M)) {c d : Int} (hc : InR c) (hd : InR d) : CT G mX11_used [.ref (cB G + 169), JV c, JV d] h N 2 48 (fun r h' N' => ∃ M', (((0 ≤ c ∧ c < 4) ∧ (0 ≤ d ∧ d ≤ 9999)) ∧ MRE G S M L z h N 0 M' h' N' ∧ r = some (JV (M' 27 c.toNat d.toNat))) ∨ (¬ (0 ≤ c ∧ c < 4) ∧ MRE G S M L z h N 1 M' h' N' ∧ r = some (JV 0)) ∨ (((0 ≤ c ∧ c < 4) ∧ ¬ (0 ≤ d ∧ d ≤ 9999)) ∧ MRE G S M L z h N 2 M' h' N' ∧ r = some (JV 0))) := by
  refine CT_of (by decide +kernel) rfl (by simp [Value.category]) (Nat.le_of_ble_eq_true rfl) ?_
  change WP G mX11_used _ noX _ _ h N 0 [some (.ref (cB G + 169)), some (JV c), some (JV d)] []
  refine wp_aload_n dX11_used_0 rfl ?_
  refine wp_iconst dX11_used_1 ?_
  refine wp_put fkX11_88 dX11_used_2 (P.s0 r) rfl rfl (Nat.le_of_ble_eq_true rfl) ?_
  obtain ⟨h_1, eh_1⟩ : ∃ hh9 : AH, hh9 = hup h (cB G + 169) (eO 11 [JV 0, .ref (cB G + 170), .ref (cB G + 171), .ref (cB G + 172), .ref (cB G + 177), .ref (cB G + 178), JV (S 13 0 0), .ref (cB G + 179), .ref (cB G + 180), .ref (cB G + 181), .ref (cB G + 182), .ref (cB G + 183), .ref (cB G + 208), .ref (cB G + 209), JV (S 14 0 0), .ref (cB G + 212), JV (S 15 0 0), JV (M 17 0 0), .ref (cB G + 253), .ref (cB G + 254), .ref (cB G + 257), .ref (cB G + 260), .ref (cB G + 261), .ref (cB G + 264), JV (M 24 0 0), JV (M 25 0 0), JV (M 26 0 0), .ref (cB G + 265), JV (M 28 0 0), .ref (cB G + 270), .ref (cB G + 273), .ref (cB G + 274), .ref (cB G + 275), .ref (cB G + 276), .long z]) := ⟨_, rfl⟩
  refine WP.heq eh_1 ?_
  obtain ⟨M_1, eM_1⟩ : ∃ ss9 : ST, ss9 = su M 0 0 0 0 := ⟨_, rfl⟩
  have P_1 : MP G (N) M_1 L z h_1 := by rw [eM_1]; exact P.sc (f := 0) (v := 0) (by decide) (eh_1.trans (by simp [cMod, su, r.2.2.1.1, r.2.2.1.2.1, r.2.2.1.2.2]))
  have r_1 : RS S M_1 := by rw [eM_1]; exact r.der (by decide)
  refine wp_aload_n dX11_used_5 rfl ?_
  have hl1 : M_1 17 0 0 = 0 ∨ (M_1 17 0 0 = 1 ∧ LAID S M_1) := by rw [eM_1]; exact hl_thr hl
  refine wp_v0 0 0 (m_lay (N := N) P_1 r_1 w tp hl1) cvX11_220 dX11_used_6 ⟨Nat.le_of_ble_eq_true rfl, Nat.le_of_ble_eq_true rfl⟩ (Nat.le_of_ble_eq_true rfl) (P_1.s0 r_1) rfl rfl (by omega) (by omega) (fun r9 h7 N7 hq => ?_)
  obtain ⟨rfl, hN7, hN7b, M7, P7, r7, e717, la7, m7, f7⟩ := hq
  change WP G mX11_used _ _ _ _ h7 N7 9 [some (.ref (cB G + 169)), some (JV c), some (JV d)] []
  have hN0 := P.nN
  have e70 : M7 0 0 0 = 0 := by rw [m7 0 mDV_0, eM_1]; exact su_s
  have fa7 : FA G N h h7 := (FA.rf.up eh_1 (by omega)).tr f7 (Nat.le_refl _)
  have m7' : ∀ f, (∀ g ∈ mDV, g ≠ f) → f ≠ 0 → M7 f = M f := fun f hf h0 => by rw [m7 f hf, eM_1, su_f h0]
  refine wp_iload_n dX11_used_9 rfl ?_
  refine wp_s1p (m_isCrew (N := N7) hc) csX11_198 dX11_used_10 ⟨Nat.le_of_ble_eq_true rfl, Nat.le_of_ble_eq_true rfl⟩ (Nat.le_of_ble_eq_true rfl) ?_
  refine wp_if_ne 22 dX11_used_13 (by decide) (bI_r _) (fun c_13 => ?_) (fun c_13 => ?_)
  · refine wp_iload_n dX11_used_22 rfl ?_
    refine wp_iconst dX11_used_23 ?_
    refine wp_sipush dX11_used_24 rfl ?_
    refine wp_s3p (m_is (N := N7) hd ⟨by omega, by omega⟩ ⟨by omega, by omega⟩) csX11_92 dX11_used_27 ⟨Nat.le_of_ble_eq_true rfl, Nat.le_of_ble_eq_true rfl⟩ (Nat.le_of_ble_eq_true rfl) ?_
    refine wp_if_eq 44 dX11_used_30 (by decide) (bI_r _) (fun c_30 => ?_) (fun c_30 => ?_)
    · have hc9 := bI_p c_13
      refine wp_aload_n dX11_used_44 rfl ?_
      refine wp_iconst dX11_used_45 ?_
      refine wp_v1 0 0 (m_refuse (N := N7) (x := 2) P7) cvX11_194 dX11_used_46 ⟨Nat.le_of_ble_eq_true rfl, Nat.le_of_ble_eq_true rfl⟩ (Nat.le_of_ble_eq_true rfl) (P7.s0 r7) rfl rfl (by omega) (by omega) (fun r9 h8 N8 hq => ?_)
      obtain ⟨hN8, rfl, M8, P8, e8, f8⟩ := hq
      rw [hN8]
      have r8 : RS S M8 := by rw [e8]; exact r7.der (by decide)
      change WP G mX11_used _ _ _ _ h8 N7 49 [some (.ref (cB G + 169)), some (JV c), some (JV d)] [JV 0]
      refine wp_iret dX11_used_49 rfl ?_
      exact ⟨M8, Or.inr (Or.inr ⟨⟨by omega, fun q => by rw [decide_eq_true q] at c_30; exact absurd c_30 (by decide)⟩, ⟨by omega, by omega, P8, r8, by rw [e8]; exact su_s, by rw [e8, su_f (by decide)]; exact e717, la7.of (fun f hf => by rw [e8]; exact su_f (fun e => by subst e; exact absurd hf (by decide))), fun f hf h0 => by rw [e8, su_f h0]; exact m7' f hf h0, fa7.tr f8.fa hN7⟩, rfl⟩)⟩
    · have hc9 := bI_p c_13
      have hd9 := bI_p c_30
      obtain ⟨c9, rfl⟩ : ∃ c9 : Nat, c = (c9 : Int) := ⟨c.toNat, by omega⟩
      obtain ⟨d9, rfl⟩ : ∃ d9 : Nat, d = (d9 : Int) := ⟨d.toNat, by omega⟩
      refine wp_aload_n dX11_used_33 rfl ?_
      refine wp_get fkX11_70 dX11_used_34 (P7.s0 r7) rfl ?_
      refine wp_iload_n dX11_used_37 rfl ?_
      refine wp_aaload dX11_used_38 P7.q27 rfl rfl (by omega) (by omega) (by omega) (if_pos (by omega)) ?_
      change WP G mX11_used _ _ _ _ h7 N7 39 [some (.ref (cB G + 169)), some (JV (c9 : Int)), some (JV (d9 : Int))] [.ref (cB G + 266 + c9)]
      refine wp_iload_n dX11_used_39 rfl ?_
      refine wp_iaload dX11_used_40 (P7.r27 (i := c9) (by omega)) (by omega) (by omega) (by omega) ?_
      change WP G mX11_used _ _ _ _ h7 N7 41 [some (.ref (cB G + 169)), some (JV (c9 : Int)), some (JV (d9 : Int))] [JV (M7 27 c9 d9)]
      refine wp_goto 49 dX11_used_41 (by decide) ?_
      refine wp_iret dX11_used_49 rfl ?_
      exact ⟨M7, Or.inl ⟨⟨by omega, by omega⟩, ⟨by omega, by omega, P7, r7, e70, e717, la7, m7', fa7⟩, rfl⟩⟩
  · refine wp_aload_n dX11_used_16 rfl ?_
    refine wp_iconst dX11_used_17 ?_
    refine wp_v1 0 0 (m_refuse (N := N7) (x := 1) P7) cvX11_194 dX11_used_18 ⟨Nat.le_of_ble_eq_true rfl, Nat.le_of_ble_eq_true rfl⟩ (Nat.le_of_ble_eq_true rfl) (P7.s0 r7) rfl rfl (by omega) (by omega) (fun r9 h8 N8 hq => ?_)
    obtain ⟨hN8, rfl, M8, P8, e8, f8⟩ := hq
    rw [hN8]
    have r8 : RS S M8 := by rw [e8]; exact r7.der (by decide)
    change WP G mX11_used _ _ _ _ h8 N7 21 [some (.ref (cB G + 169)), some (JV c), some (JV d)] [JV 0]
    refine wp_iret dX11_used_21 rfl ?_
    exact ⟨M8, Or.inr (Or.inl ⟨(fun q => by rw [decide_eq_true (show 0 ≤ c ∧ c ≤ 3 by omega)] at c_13; exact absurd c_13 (by decide)), ⟨by omega, by omega, P8, r8, by rw [e8]; exact su_s, by rw [e8, su_f (by decide)]; exact e717, la7.of (fun f hf => by rw [e8]; exact su_f (fun e => by subst e; exact absurd hf (by decide))), fun f hf h0 => by rw [e8, su_f h0]; exact m7' f hf h0, fa7.tr f8.fa hN7⟩, rfl⟩)⟩

theorem m_orderAt (P : MP G N M L z h) (r : RS S M) (w : WF S) (tp : TOP S) (hl : M 17 0 0 = 0 ∨ (M 17 0 0 = 1 ∧ LAID S M)) {p : Int} (hp : InR p) : CT G mX11_orderAt [.ref (cB G + 169), JV p] h N 2 48 (fun r h' N' => ∃ M', ((0 ≤ p ∧ p < M' 24 0 0) ∧ MRE G S M L z h N 0 M' h' N' ∧ r = some (JV (M' 23 p.toNat 0))) ∨ (¬ (0 ≤ p ∧ p < M' 24 0 0) ∧ MRE G S M L z h N 1 M' h' N' ∧ r = some (JV 0))) := by
  refine CT_of (by decide +kernel) rfl (by simp [Value.category]) (Nat.le_of_ble_eq_true rfl) ?_
  change WP G mX11_orderAt _ noX _ _ h N 0 [some (.ref (cB G + 169)), some (JV p)] []
  refine wp_aload_n dX11_orderAt_0 rfl ?_
  refine wp_iconst dX11_orderAt_1 ?_
  refine wp_put fkX11_88 dX11_orderAt_2 (P.s0 r) rfl rfl (Nat.le_of_ble_eq_true rfl) ?_
  obtain ⟨h_1, eh_1⟩ : ∃ hh9 : AH, hh9 = hup h (cB G + 169) (eO 11 [JV 0, .ref (cB G + 170), .ref (cB G + 171), .ref (cB G + 172), .ref (cB G + 177), .ref (cB G + 178), JV (S 13 0 0), .ref (cB G + 179), .ref (cB G + 180), .ref (cB G + 181), .ref (cB G + 182), .ref (cB G + 183), .ref (cB G + 208), .ref (cB G + 209), JV (S 14 0 0), .ref (cB G + 212), JV (S 15 0 0), JV (M 17 0 0), .ref (cB G + 253), .ref (cB G + 254), .ref (cB G + 257), .ref (cB G + 260), .ref (cB G + 261), .ref (cB G + 264), JV (M 24 0 0), JV (M 25 0 0), JV (M 26 0 0), .ref (cB G + 265), JV (M 28 0 0), .ref (cB G + 270), .ref (cB G + 273), .ref (cB G + 274), .ref (cB G + 275), .ref (cB G + 276), .long z]) := ⟨_, rfl⟩
  refine WP.heq eh_1 ?_
  obtain ⟨M_1, eM_1⟩ : ∃ ss9 : ST, ss9 = su M 0 0 0 0 := ⟨_, rfl⟩
  have P_1 : MP G (N) M_1 L z h_1 := by rw [eM_1]; exact P.sc (f := 0) (v := 0) (by decide) (eh_1.trans (by simp [cMod, su, r.2.2.1.1, r.2.2.1.2.1, r.2.2.1.2.2]))
  have r_1 : RS S M_1 := by rw [eM_1]; exact r.der (by decide)
  refine wp_aload_n dX11_orderAt_5 rfl ?_
  have hl1 : M_1 17 0 0 = 0 ∨ (M_1 17 0 0 = 1 ∧ LAID S M_1) := by rw [eM_1]; exact hl_thr hl
  refine wp_v0 0 0 (m_lay (N := N) P_1 r_1 w tp hl1) cvX11_220 dX11_orderAt_6 ⟨Nat.le_of_ble_eq_true rfl, Nat.le_of_ble_eq_true rfl⟩ (Nat.le_of_ble_eq_true rfl) (P_1.s0 r_1) rfl rfl (by omega) (by omega) (fun r9 h7 N7 hq => ?_)
  obtain ⟨rfl, hN7, hN7b, M7, P7, r7, e717, la7, m7, f7⟩ := hq
  change WP G mX11_orderAt _ _ _ _ h7 N7 9 [some (.ref (cB G + 169)), some (JV p)] []
  have hN0 := P.nN
  have e70 : M7 0 0 0 = 0 := by rw [m7 0 mDV_0, eM_1]; exact su_s
  have fa7 : FA G N h h7 := (FA.rf.up eh_1 (by omega)).tr f7 (Nat.le_refl _)
  have m7' : ∀ f, (∀ g ∈ mDV, g ≠ f) → f ≠ 0 → M7 f = M f := fun f hf h0 => by rw [m7 f hf, eM_1, su_f h0]
  obtain ⟨od, ml⟩ := la7.2.2.2
  have lv := LV9_all w (lb := M7 20 0) (rm := fun x => M7 21 x 0) (rl := S 15 0 0) od
  have lf := LFD_all w (lb := M7 20 0) (rm := fun x => M7 21 x 0) (rl := S 15 0 0) od
  have hct := lv.ct w
  have wT := w.nT
  have hct0 := lv.2.2.2.1
  have hld := lv.2.2.2.2.2.2.1
  have e24 := ml.2.2.1
  have e26 := ml.2.2.2.1
  refine wp_iload_n dX11_orderAt_9 rfl ?_
  refine wp_iconst dX11_orderAt_10 ?_
  refine wp_aload_n dX11_orderAt_11 rfl ?_
  refine wp_get fkX11_150 dX11_orderAt_12 (P7.s0 r7) rfl ?_
  refine wp_iconst dX11_orderAt_15 ?_
  refine wp_isub dX11_orderAt_16 ?_
  refine wp_s3p (m_is (N := N7) hp ⟨by omega, by omega⟩ ⟨by omega, by omega⟩) csX11_92 dX11_orderAt_17 ⟨Nat.le_of_ble_eq_true rfl, Nat.le_of_ble_eq_true rfl⟩ (Nat.le_of_ble_eq_true rfl) ?_
  refine wp_if_eq 32 dX11_orderAt_20 (by decide) (bI_r _) (fun c_20 => ?_) (fun c_20 => ?_)
  · refine wp_aload_n dX11_orderAt_32 rfl ?_
    refine wp_iconst dX11_orderAt_33 ?_
    refine wp_v1 0 0 (m_refuse (N := N7) (x := 1) P7) cvX11_194 dX11_orderAt_34 ⟨Nat.le_of_ble_eq_true rfl, Nat.le_of_ble_eq_true rfl⟩ (Nat.le_of_ble_eq_true rfl) (P7.s0 r7) rfl rfl (by omega) (by omega) (fun r9 h8 N8 hq => ?_)
    obtain ⟨hN8, rfl, M8, P8, e8, f8⟩ := hq
    rw [hN8]
    have r8 : RS S M8 := by rw [e8]; exact r7.der (by decide)
    change WP G mX11_orderAt _ _ _ _ h8 N7 37 [some (.ref (cB G + 169)), some (JV p)] [JV 0]
    refine wp_iret dX11_orderAt_37 rfl ?_
    exact ⟨M8, Or.inr ⟨fun q => by rw [decide_eq_true (show 0 ≤ p ∧ p ≤ M7 24 0 0 - 1 by rw [e8, su_f (by decide)] at q; omega)] at c_20; exact absurd c_20 (by decide), ⟨by omega, by omega, P8, r8, by rw [e8]; exact su_s, by rw [e8, su_f (by decide)]; exact e717, la7.of (fun f hf => by rw [e8]; exact su_f (fun e => by subst e; exact absurd hf (by decide))), fun f hf h0 => by rw [e8, su_f h0]; exact m7' f hf h0, fa7.tr f8.fa hN7⟩, rfl⟩⟩
  · have hp9 := bI_p c_20
    refine wp_aload_n dX11_orderAt_23 rfl ?_
    refine wp_get fkX11_67 dX11_orderAt_24 (P7.s0 r7) rfl ?_
    refine wp_iload_n dX11_orderAt_27 rfl ?_
    refine wp_iaload dX11_orderAt_28 P7.c23 (by omega) (by omega) (by omega) ?_
    refine wp_goto 37 dX11_orderAt_29 (by decide) ?_
    refine wp_iret dX11_orderAt_37 rfl ?_
    exact ⟨M7, Or.inl ⟨by omega, ⟨by omega, by omega, P7, r7, e70, e717, la7, m7', fa7⟩, rfl⟩⟩

theorem m_holds (P : MP G N M L z h) (r : RS S M) (w : WF S) (tp : TOP S) (hl : M 17 0 0 = 0 ∨ (M 17 0 0 = 1 ∧ LAID S M)) {v : Int} (hv : InR v) : CT G mX11_holds [.ref (cB G + 169), JV v] h N 2 48 (fun r h' N' => ∃ M', MRE G S M L z h N (if 0 ≤ v ∧ v < S 13 0 0 then 0 else 1) M' h' N' ∧ ∃ od, MLS S M' (lvAll S (M' 20 0) (fun x => M' 21 x 0) (S 15 0 0) od) ∧ r = some (JV (if 0 ≤ v ∧ v < S 13 0 0 then holdF S (M' 22 0) (M' 22 1) (lvAll S (M' 20 0) (fun x => M' 21 x 0) (S 15 0 0) od).2.2.1 v.toNat else 0))) := by
  refine CT_of (by decide +kernel) rfl (by simp [Value.category]) (Nat.le_of_ble_eq_true rfl) ?_
  change WP G mX11_holds _ noX _ _ h N 0 [some (.ref (cB G + 169)), some (JV v)] []
  refine wp_aload_n dX11_holds_0 rfl ?_
  refine wp_iload_n dX11_holds_1 rfl ?_
  refine wp_v1 0 0 (m_hasTask (N := N) P r w tp hl hv) cvX11_223 dX11_holds_2 ⟨Nat.le_of_ble_eq_true rfl, Nat.le_of_ble_eq_true rfl⟩ (Nat.le_of_ble_eq_true rfl) P.c0 rfl rfl (by omega) (by omega) (fun r9 h7 N7 hq => ?_)
  obtain ⟨hN7, hN7b, rfl, M7, P7, r7, e70, e717, la7, m7, f7⟩ := hq
  change WP G mX11_holds _ _ _ _ h7 N7 5 [some (.ref (cB G + 169)), some (JV v)] [JV (bI (decide (0 ≤ v ∧ v < S 13 0 0)))]
  refine wp_if_eq 16 dX11_holds_5 (by decide) (bI_r _) (fun c_5 => ?_) (fun c_5 => ?_)
  · obtain ⟨od, ml⟩ := la7.2.2.2
    have lv := LV9_all w (lb := M7 20 0) (rm := fun x => M7 21 x 0) (rl := S 15 0 0) od
    have lf := LFD_all w (lb := M7 20 0) (rm := fun x => M7 21 x 0) (rl := S 15 0 0) od
    have hct := lv.ct w
    have wT := w.nT
    have hct0 := lv.2.2.2.1
    have hld := lv.2.2.2.2.2.2.1
    have e24 := ml.2.2.1
    have e26 := ml.2.2.2.1
    refine wp_iconst dX11_holds_16 ?_
    refine wp_iret dX11_holds_17 rfl ?_
    refine ⟨M7, ⟨hN7, by omega, P7, r7, e70, e717, la7, m7, f7⟩, od, ml, ?_⟩
    rw [if_neg (fun q => by rw [decide_eq_true q] at c_5; exact absurd c_5 (by decide))]
  · have hv9 := bI_p c_5
    obtain ⟨t, rfl⟩ : ∃ t : Nat, v = (t : Int) := ⟨v.toNat, by omega⟩
    obtain ⟨od, ml⟩ := la7.2.2.2
    have lv := LV9_all w (lb := M7 20 0) (rm := fun x => M7 21 x 0) (rl := S 15 0 0) od
    have lf := LFD_all w (lb := M7 20 0) (rm := fun x => M7 21 x 0) (rl := S 15 0 0) od
    have hct := lv.ct w
    have wT := w.nT
    have hct0 := lv.2.2.2.1
    have hld := lv.2.2.2.2.2.2.1
    have e24 := ml.2.2.1
    have e26 := ml.2.2.2.1
    refine wp_aload_n dX11_holds_8 rfl ?_
    refine wp_iload_n dX11_holds_9 rfl ?_
    refine wp_v1p (m_holdsNow (N := N7) P7 r7 w ml lv lf (t := t) (by omega)) cvX11_239 dX11_holds_10 ⟨Nat.le_of_ble_eq_true rfl, Nat.le_of_ble_eq_true rfl⟩ (Nat.le_of_ble_eq_true rfl) (P7.s0 r7) rfl rfl ?_
    refine wp_goto 17 dX11_holds_13 (by decide) ?_
    refine wp_iret dX11_holds_17 rfl ?_
    refine ⟨M7, ⟨hN7, by omega, P7, r7, e70, e717, la7, m7, f7⟩, od, ml, ?_⟩
    rw [if_pos hv9]
    rfl

theorem m_heldBy (P : MP G N M L z h) (r : RS S M) (w : WF S) (tp : TOP S) (hl : M 17 0 0 = 0 ∨ (M 17 0 0 = 1 ∧ LAID S M)) {v : Int} (hv : InR v) : CT G mX11_heldBy [.ref (cB G + 169), JV v] h N 2 48 (fun r h' N' => ∃ M', MRE G S M L z h N (if 0 ≤ v ∧ v < S 13 0 0 then 0 else 1) M' h' N' ∧ ∃ od, MLS S M' (lvAll S (M' 20 0) (fun x => M' 21 x 0) (S 15 0 0) od) ∧ r = some (JV (if 0 ≤ v ∧ v < S 13 0 0 then lthF S (M' 22 0) (M' 22 1) (lvAll S (M' 20 0) (fun x => M' 21 x 0) (S 15 0 0) od).2.2.1 v.toNat else 0))) := by
  refine CT_of (by decide +kernel) rfl (by simp [Value.category]) (Nat.le_of_ble_eq_true rfl) ?_
  change WP G mX11_heldBy _ noX _ _ h N 0 [some (.ref (cB G + 169)), some (JV v)] []
  refine wp_aload_n dX11_heldBy_0 rfl ?_
  refine wp_iload_n dX11_heldBy_1 rfl ?_
  refine wp_v1 0 0 (m_hasTask (N := N) P r w tp hl hv) cvX11_223 dX11_heldBy_2 ⟨Nat.le_of_ble_eq_true rfl, Nat.le_of_ble_eq_true rfl⟩ (Nat.le_of_ble_eq_true rfl) P.c0 rfl rfl (by omega) (by omega) (fun r9 h7 N7 hq => ?_)
  obtain ⟨hN7, hN7b, rfl, M7, P7, r7, e70, e717, la7, m7, f7⟩ := hq
  change WP G mX11_heldBy _ _ _ _ h7 N7 5 [some (.ref (cB G + 169)), some (JV v)] [JV (bI (decide (0 ≤ v ∧ v < S 13 0 0)))]
  refine wp_if_eq 16 dX11_heldBy_5 (by decide) (bI_r _) (fun c_5 => ?_) (fun c_5 => ?_)
  · obtain ⟨od, ml⟩ := la7.2.2.2
    have lv := LV9_all w (lb := M7 20 0) (rm := fun x => M7 21 x 0) (rl := S 15 0 0) od
    have lf := LFD_all w (lb := M7 20 0) (rm := fun x => M7 21 x 0) (rl := S 15 0 0) od
    have hct := lv.ct w
    have wT := w.nT
    have hct0 := lv.2.2.2.1
    have hld := lv.2.2.2.2.2.2.1
    have e24 := ml.2.2.1
    have e26 := ml.2.2.2.1
    refine wp_iconst dX11_heldBy_16 ?_
    refine wp_iret dX11_heldBy_17 rfl ?_
    refine ⟨M7, ⟨hN7, by omega, P7, r7, e70, e717, la7, m7, f7⟩, od, ml, ?_⟩
    rw [if_neg (fun q => by rw [decide_eq_true q] at c_5; exact absurd c_5 (by decide))]
  · have hv9 := bI_p c_5
    obtain ⟨t, rfl⟩ : ∃ t : Nat, v = (t : Int) := ⟨v.toNat, by omega⟩
    obtain ⟨od, ml⟩ := la7.2.2.2
    have lv := LV9_all w (lb := M7 20 0) (rm := fun x => M7 21 x 0) (rl := S 15 0 0) od
    have lf := LFD_all w (lb := M7 20 0) (rm := fun x => M7 21 x 0) (rl := S 15 0 0) od
    have hct := lv.ct w
    have wT := w.nT
    have hct0 := lv.2.2.2.1
    have hld := lv.2.2.2.2.2.2.1
    have e24 := ml.2.2.1
    have e26 := ml.2.2.2.1
    refine wp_aload_n dX11_heldBy_8 rfl ?_
    refine wp_iload_n dX11_heldBy_9 rfl ?_
    refine wp_v1p (m_holder (N := N7) P7 r7 w ml lv lf (t := t) (by omega)) cvX11_242 dX11_heldBy_10 ⟨Nat.le_of_ble_eq_true rfl, Nat.le_of_ble_eq_true rfl⟩ (Nat.le_of_ble_eq_true rfl) (P7.s0 r7) rfl rfl ?_
    refine wp_goto 17 dX11_heldBy_13 (by decide) ?_
    refine wp_iret dX11_heldBy_17 rfl ?_
    refine ⟨M7, ⟨hN7, by omega, P7, r7, e70, e717, la7, m7, f7⟩, od, ml, ?_⟩
    rw [if_pos hv9]
    rfl

theorem m_behind (P : MP G N M L z h) (r : RS S M) (w : WF S) (tp : TOP S) (hl : M 17 0 0 = 0 ∨ (M 17 0 0 = 1 ∧ LAID S M)) (km : KM S K M) (kc : KC K) {v : Int} (hv : InR v) : CT G mX11_behind [.ref (cB G + 169), JV v] h N 2 48 (fun r h' N' => ∃ M', MRE G S M L z h N (if 0 ≤ v ∧ v < S 13 0 0 then 0 else 1) M' h' N' ∧ ∃ od, MLS S M' (lvAll S (M' 20 0) (fun x => M' 21 x 0) (S 15 0 0) od) ∧ r = some (JV (if 0 ≤ v ∧ v < S 13 0 0 then dlyF K.2.2.1 K.2.2.2.1 (M' 22 1) (lvAll S (M' 20 0) (fun x => M' 21 x 0) (S 15 0 0) od).2.2.1 v.toNat else 0))) := by
  refine CT_of (by decide +kernel) rfl (by simp [Value.category]) (Nat.le_of_ble_eq_true rfl) ?_
  change WP G mX11_behind _ noX _ _ h N 0 [some (.ref (cB G + 169)), some (JV v)] []
  refine wp_aload_n dX11_behind_0 rfl ?_
  refine wp_iload_n dX11_behind_1 rfl ?_
  refine wp_v1 0 0 (m_hasTask (N := N) P r w tp hl hv) cvX11_223 dX11_behind_2 ⟨Nat.le_of_ble_eq_true rfl, Nat.le_of_ble_eq_true rfl⟩ (Nat.le_of_ble_eq_true rfl) P.c0 rfl rfl (by omega) (by omega) (fun r9 h7 N7 hq => ?_)
  obtain ⟨hN7, hN7b, rfl, M7, P7, r7, e70, e717, la7, m7, f7⟩ := hq
  change WP G mX11_behind _ _ _ _ h7 N7 5 [some (.ref (cB G + 169)), some (JV v)] [JV (bI (decide (0 ≤ v ∧ v < S 13 0 0)))]
  refine wp_if_eq 16 dX11_behind_5 (by decide) (bI_r _) (fun c_5 => ?_) (fun c_5 => ?_)
  · obtain ⟨od, ml⟩ := la7.2.2.2
    have lv := LV9_all w (lb := M7 20 0) (rm := fun x => M7 21 x 0) (rl := S 15 0 0) od
    have lf := LFD_all w (lb := M7 20 0) (rm := fun x => M7 21 x 0) (rl := S 15 0 0) od
    have hct := lv.ct w
    have wT := w.nT
    have hct0 := lv.2.2.2.1
    have hld := lv.2.2.2.2.2.2.1
    have e24 := ml.2.2.1
    have e26 := ml.2.2.2.1
    refine wp_iconst dX11_behind_16 ?_
    refine wp_iret dX11_behind_17 rfl ?_
    refine ⟨M7, ⟨hN7, by omega, P7, r7, e70, e717, la7, m7, f7⟩, od, ml, ?_⟩
    rw [if_neg (fun q => by rw [decide_eq_true q] at c_5; exact absurd c_5 (by decide))]
  · have hv9 := bI_p c_5
    obtain ⟨t, rfl⟩ : ∃ t : Nat, v = (t : Int) := ⟨v.toNat, by omega⟩
    obtain ⟨od, ml⟩ := la7.2.2.2
    have lv := LV9_all w (lb := M7 20 0) (rm := fun x => M7 21 x 0) (rl := S 15 0 0) od
    have lf := LFD_all w (lb := M7 20 0) (rm := fun x => M7 21 x 0) (rl := S 15 0 0) od
    have hct := lv.ct w
    have wT := w.nT
    have hct0 := lv.2.2.2.1
    have hld := lv.2.2.2.2.2.2.1
    have e24 := ml.2.2.1
    have e26 := ml.2.2.2.1
    have km7 : KM S K M7 := km.of (fun f hf => m7 f (mDV_17 f hf) (fun e => by subst e; exact absurd hf (by decide)))
    refine wp_aload_n dX11_behind_8 rfl ?_
    refine wp_iload_n dX11_behind_9 rfl ?_
    refine wp_v1p (m_behindNow (N := N7) P7 r7 w km7 kc ml lv (t := t) (by omega)) cvX11_257 dX11_behind_10 ⟨Nat.le_of_ble_eq_true rfl, Nat.le_of_ble_eq_true rfl⟩ (Nat.le_of_ble_eq_true rfl) (P7.s0 r7) rfl rfl ?_
    refine wp_goto 17 dX11_behind_13 (by decide) ?_
    refine wp_iret dX11_behind_17 rfl ?_
    refine ⟨M7, ⟨hN7, by omega, P7, r7, e70, e717, la7, m7, f7⟩, od, ml, ?_⟩
    rw [if_pos hv9]
    rfl

end Mq

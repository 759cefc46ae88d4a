/-! ===== the reference: what it is asked without laying out ===== -/
section Ms
variable {G : Ctx} {h : AH} {N : Nat} {S M : ST} {L : Nat → Nat} {z : Int64} {K : KTup}

theorem RS_s8 (r : RS S M) {t : Nat} {v : Int} : RS (su S 6 t 0 v) (su M 8 t 0 v) := by
  obtain ⟨a, b, c, d, e⟩ := r
  unfold RS lF lT lK lG
  simp only [su_f (S := S) (f := 6) (i := t) (j := 0) (v := v) (f' := 0) (by decide), su_f (S := S) (f := 6) (i := t) (j := 0) (v := v) (f' := 1) (by decide), su_f (S := S) (f := 6) (i := t) (j := 0) (v := v) (f' := 2) (by decide), su_f (S := S) (f := 6) (i := t) (j := 0) (v := v) (f' := 3) (by decide), su_f (S := S) (f := 6) (i := t) (j := 0) (v := v) (f' := 4) (by decide), su_f (S := S) (f := 6) (i := t) (j := 0) (v := v) (f' := 5) (by decide), su_f (S := S) (f := 6) (i := t) (j := 0) (v := v) (f' := 7) (by decide), su_f (S := S) (f := 6) (i := t) (j := 0) (v := v) (f' := 8) (by decide), su_f (S := S) (f := 6) (i := t) (j := 0) (v := v) (f' := 9) (by decide), su_f (S := S) (f := 6) (i := t) (j := 0) (v := v) (f' := 10) (by decide), su_f (S := S) (f := 6) (i := t) (j := 0) (v := v) (f' := 11) (by decide), su_f (S := S) (f := 6) (i := t) (j := 0) (v := v) (f' := 12) (by decide), su_f (S := S) (f := 6) (i := t) (j := 0) (v := v) (f' := 13) (by decide), su_f (S := S) (f := 6) (i := t) (j := 0) (v := v) (f' := 14) (by decide), su_f (S := S) (f := 6) (i := t) (j := 0) (v := v) (f' := 15) (by decide), su_f (S := S) (f := 6) (i := t) (j := 0) (v := v) (f' := 18) (by decide), su_f (S := S) (f := 6) (i := t) (j := 0) (v := v) (f' := 19) (by decide), su_f (S := S) (f := 6) (i := t) (j := 0) (v := v) (f' := 20) (by decide), su_f (S := S) (f := 6) (i := t) (j := 0) (v := v) (f' := 21) (by decide), su_f (S := S) (f := 6) (i := t) (j := 0) (v := v) (f' := 22) (by decide), su_f (S := M) (f := 8) (i := t) (j := 0) (v := v) (f' := 1) (by decide), su_f (S := M) (f := 8) (i := t) (j := 0) (v := v) (f' := 2) (by decide), su_f (S := M) (f := 8) (i := t) (j := 0) (v := v) (f' := 3) (by decide), su_f (S := M) (f := 8) (i := t) (j := 0) (v := v) (f' := 4) (by decide), su_f (S := M) (f := 8) (i := t) (j := 0) (v := v) (f' := 5) (by decide), su_f (S := M) (f := 8) (i := t) (j := 0) (v := v) (f' := 6) (by decide), su_f (S := M) (f := 8) (i := t) (j := 0) (v := v) (f' := 7) (by decide), su_f (S := M) (f := 8) (i := t) (j := 0) (v := v) (f' := 9) (by decide), su_f (S := M) (f := 8) (i := t) (j := 0) (v := v) (f' := 10) (by decide), su_f (S := M) (f := 8) (i := t) (j := 0) (v := v) (f' := 11) (by decide), su_f (S := M) (f := 8) (i := t) (j := 0) (v := v) (f' := 12) (by decide), su_f (S := M) (f := 8) (i := t) (j := 0) (v := v) (f' := 13) (by decide), su_f (S := M) (f := 8) (i := t) (j := 0) (v := v) (f' := 14) (by decide), su_f (S := M) (f := 8) (i := t) (j := 0) (v := v) (f' := 15) (by decide), su_f (S := M) (f := 8) (i := t) (j := 0) (v := v) (f' := 16) (by decide)]
  refine ⟨a, fun x => ⟨(b x).1, ?_, (b x).2.2.1, (b x).2.2.2.1, (b x).2.2.2.2.1, (b x).2.2.2.2.2⟩, c, d, e⟩
  by_cases hx : x = t
  · rw [hx, su_s, su_s]
  · rw [su_i hx, su_i hx]; exact (b x).2.1
theorem RS_s6 (r : RS S M)  {v : Int} : RS (su S 13 0 0 v) (su M 6 0 0 v) := by
  obtain ⟨a, b, c, d, e⟩ := r
  unfold RS lF lT lK lG
  simp only [su_f (S := S) (f := 13) (i := 0) (j := 0) (v := v) (f' := 0) (by decide), su_f (S := S) (f := 13) (i := 0) (j := 0) (v := v) (f' := 1) (by decide), su_f (S := S) (f := 13) (i := 0) (j := 0) (v := v) (f' := 2) (by decide), su_f (S := S) (f := 13) (i := 0) (j := 0) (v := v) (f' := 3) (by decide), su_f (S := S) (f := 13) (i := 0) (j := 0) (v := v) (f' := 4) (by decide), su_f (S := S) (f := 13) (i := 0) (j := 0) (v := v) (f' := 5) (by decide), su_f (S := S) (f := 13) (i := 0) (j := 0) (v := v) (f' := 6) (by decide), su_f (S := S) (f := 13) (i := 0) (j := 0) (v := v) (f' := 7) (by decide), su_f (S := S) (f := 13) (i := 0) (j := 0) (v := v) (f' := 8) (by decide), su_f (S := S) (f := 13) (i := 0) (j := 0) (v := v) (f' := 9) (by decide), su_f (S := S) (f := 13) (i := 0) (j := 0) (v := v) (f' := 10) (by decide), su_f (S := S) (f := 13) (i := 0) (j := 0) (v := v) (f' := 11) (by decide), su_f (S := S) (f := 13) (i := 0) (j := 0) (v := v) (f' := 12) (by decide), su_f (S := S) (f := 13) (i := 0) (j := 0) (v := v) (f' := 14) (by decide), su_f (S := S) (f := 13) (i := 0) (j := 0) (v := v) (f' := 15) (by decide), su_f (S := S) (f := 13) (i := 0) (j := 0) (v := v) (f' := 18) (by decide), su_f (S := S) (f := 13) (i := 0) (j := 0) (v := v) (f' := 19) (by decide), su_f (S := S) (f := 13) (i := 0) (j := 0) (v := v) (f' := 20) (by decide), su_f (S := S) (f := 13) (i := 0) (j := 0) (v := v) (f' := 21) (by decide), su_f (S := S) (f := 13) (i := 0) (j := 0) (v := v) (f' := 22) (by decide), su_f (S := M) (f := 6) (i := 0) (j := 0) (v := v) (f' := 1) (by decide), su_f (S := M) (f := 6) (i := 0) (j := 0) (v := v) (f' := 2) (by decide), su_f (S := M) (f := 6) (i := 0) (j := 0) (v := v) (f' := 3) (by decide), su_f (S := M) (f := 6) (i := 0) (j := 0) (v := v) (f' := 4) (by decide), su_f (S := M) (f := 6) (i := 0) (j := 0) (v := v) (f' := 5) (by decide), su_f (S := M) (f := 6) (i := 0) (j := 0) (v := v) (f' := 7) (by decide), su_f (S := M) (f := 6) (i := 0) (j := 0) (v := v) (f' := 8) (by decide), su_f (S := M) (f := 6) (i := 0) (j := 0) (v := v) (f' := 9) (by decide), su_f (S := M) (f := 6) (i := 0) (j := 0) (v := v) (f' := 10) (by decide), su_f (S := M) (f := 6) (i := 0) (j := 0) (v := v) (f' := 11) (by decide), su_f (S := M) (f := 6) (i := 0) (j := 0) (v := v) (f' := 12) (by decide), su_f (S := M) (f := 6) (i := 0) (j := 0) (v := v) (f' := 13) (by decide), su_f (S := M) (f := 6) (i := 0) (j := 0) (v := v) (f' := 14) (by decide), su_f (S := M) (f := 6) (i := 0) (j := 0) (v := v) (f' := 15) (by decide), su_f (S := M) (f := 6) (i := 0) (j := 0) (v := v) (f' := 16) (by decide)]
  refine ⟨a, b, ⟨?_, c.2.1, c.2.2⟩, d, e⟩
  rw [su_s, su_s]
theorem RS_cg {S' : ST} (r : RS S M) (e : ∀ f, f ≠ 5 → f ≠ 6 → f ≠ 13 → f ≠ 16 → S' f = S f) (e3 : S' 13 0 0 = S 13 0 0) (e5 : ∀ i, S' 5 i 0 = S 5 i 0) (e6 : ∀ i, S' 6 i 0 = S 6 i 0) : RS S' M := by
  obtain ⟨a, b, c, d, e'⟩ := r
  unfold RS lF lT lK lG
  simp only [e 0 (by decide) (by decide) (by decide) (by decide), e 1 (by decide) (by decide) (by decide) (by decide), e 2 (by decide) (by decide) (by decide) (by decide), e 3 (by decide) (by decide) (by decide) (by decide), e 4 (by decide) (by decide) (by decide) (by decide), e 7 (by decide) (by decide) (by decide) (by decide), e 8 (by decide) (by decide) (by decide) (by decide), e 9 (by decide) (by decide) (by decide) (by decide), e 10 (by decide) (by decide) (by decide) (by decide), e 11 (by decide) (by decide) (by decide) (by decide), e 12 (by decide) (by decide) (by decide) (by decide), e 14 (by decide) (by decide) (by decide) (by decide), e 15 (by decide) (by decide) (by decide) (by decide), e 18 (by decide) (by decide) (by decide) (by decide), e 19 (by decide) (by decide) (by decide) (by decide), e 20 (by decide) (by decide) (by decide) (by decide), e 21 (by decide) (by decide) (by decide) (by decide), e 22 (by decide) (by decide) (by decide) (by decide), e3, e5, e6]
  exact ⟨a, b, c, d, e'⟩
theorem m_tasks (P : MP G N M L z h) (r : RS S M) (w : WF S) : CT G mX11_tasks [.ref (cB G + 169)] h N 0 0 (fun r h' N' => ∃ M', MRB G S M L z h N 0 M' h' N' ∧ r = some (JV (S 13 0 0))) := by
  have wT := w.nT
  have wL := w.nL
  have wR := w.rule
  have hN0 := P.nN
  refine CT_of (by decide +kernel) rfl (by simp [Value.category]) (Nat.le_of_ble_eq_true rfl) ?_
  change WP G mX11_tasks _ noX _ _ h N 0 [some (.ref (cB G + 169))] []
  refine wp_aload_n dX11_tasks_0 rfl ?_
  refine wp_iconst dX11_tasks_1 ?_
  refine wp_put fkX11_88 dX11_tasks_2 (P.s0 r) rfl rfl (Nat.le_of_ble_eq_true rfl) ?_
  obtain ⟨h_1, eh_1⟩ : ∃ hh9 : AH, hh9 = hup h (cB G + 169) (eO 11 [JV 0, .ref (cB G + 170), .ref (cB G + 171), .ref (cB G + 172), .ref (cB G + 177), .ref (cB G + 178), JV (S 13 0 0), .ref (cB G + 179), .ref (cB G + 180), .ref (cB G + 181), .ref (cB G + 182), .ref (cB G + 183), .ref (cB G + 208), .ref (cB G + 209), JV (S 14 0 0), .ref (cB G + 212), JV (S 15 0 0), JV (M 17 0 0), .ref (cB G + 253), .ref (cB G + 254), .ref (cB G + 257), .ref (cB G + 260), .ref (cB G + 261), .ref (cB G + 264), JV (M 24 0 0), JV (M 25 0 0), JV (M 26 0 0), .ref (cB G + 265), JV (M 28 0 0), .ref (cB G + 270), .ref (cB G + 273), .ref (cB G + 274), .ref (cB G + 275), .ref (cB G + 276), .long z]) := ⟨_, rfl⟩
  refine WP.heq eh_1 ?_
  obtain ⟨M_1, eM_1⟩ : ∃ ss9 : ST, ss9 = su M 0 0 0 0 := ⟨_, rfl⟩
  have P_1 : MP G (N) M_1 L z h_1 := by rw [eM_1]; exact P.sc (f := 0) (v := 0) (by decide) (eh_1.trans (by simp [cMod, su, r.2.2.1.1, r.2.2.1.2.1, r.2.2.1.2.2]))
  have r_1 : RS S M_1 := by rw [eM_1]; exact r.der (by decide)
  refine wp_aload_n dX11_tasks_5 rfl ?_
  refine wp_get fkX11_96 dX11_tasks_6 (P_1.s0 r_1) rfl ?_
  refine wp_iret dX11_tasks_9 rfl ?_
  exact ⟨M_1, ⟨Nat.le_refl _, by omega, P_1, r_1, by rw [eM_1]; exact su_s, fun f h0 => by rw [eM_1, su_f h0], FA.rf.up eh_1 (by omega)⟩, rfl⟩

theorem m_links (P : MP G N M L z h) (r : RS S M) (w : WF S) : CT G mX11_links [.ref (cB G + 169)] h N 0 0 (fun r h' N' => ∃ M', MRB G S M L z h N 0 M' h' N' ∧ r = some (JV (S 14 0 0))) := by
  have wT := w.nT
  have wL := w.nL
  have wR := w.rule
  have hN0 := P.nN
  refine CT_of (by decide +kernel) rfl (by simp [Value.category]) (Nat.le_of_ble_eq_true rfl) ?_
  change WP G mX11_links _ noX _ _ h N 0 [some (.ref (cB G + 169))] []
  refine wp_aload_n dX11_links_0 rfl ?_
  refine wp_iconst dX11_links_1 ?_
  refine wp_put fkX11_88 dX11_links_2 (P.s0 r) rfl rfl (Nat.le_of_ble_eq_true rfl) ?_
  obtain ⟨h_1, eh_1⟩ : ∃ hh9 : AH, hh9 = hup h (cB G + 169) (eO 11 [JV 0, .ref (cB G + 170), .ref (cB G + 171), .ref (cB G + 172), .ref (cB G + 177), .ref (cB G + 178), JV (S 13 0 0), .ref (cB G + 179), .ref (cB G + 180), .ref (cB G + 181), .ref (cB G + 182), .ref (cB G + 183), .ref (cB G + 208), .ref (cB G + 209), JV (S 14 0 0), .ref (cB G + 212), JV (S 15 0 0), JV (M 17 0 0), .ref (cB G + 253), .ref (cB G + 254), .ref (cB G + 257), .ref (cB G + 260), .ref (cB G + 261), .ref (cB G + 264), JV (M 24 0 0), JV (M 25 0 0), JV (M 26 0 0), .ref (cB G + 265), JV (M 28 0 0), .ref (cB G + 270), .ref (cB G + 273), .ref (cB G + 274), .ref (cB G + 275), .ref (cB G + 276), .long z]) := ⟨_, rfl⟩
  refine WP.heq eh_1 ?_
  obtain ⟨M_1, eM_1⟩ : ∃ ss9 : ST, ss9 = su M 0 0 0 0 := ⟨_, rfl⟩
  have P_1 : MP G (N) M_1 L z h_1 := by rw [eM_1]; exact P.sc (f := 0) (v := 0) (by decide) (eh_1.trans (by simp [cMod, su, r.2.2.1.1, r.2.2.1.2.1, r.2.2.1.2.2]))
  have r_1 : RS S M_1 := by rw [eM_1]; exact r.der (by decide)
  refine wp_aload_n dX11_links_5 rfl ?_
  refine wp_get fkX11_99 dX11_links_6 (P_1.s0 r_1) rfl ?_
  refine wp_iret dX11_links_9 rfl ?_
  exact ⟨M_1, ⟨Nat.le_refl _, by omega, P_1, r_1, by rw [eM_1]; exact su_s, fun f h0 => by rw [eM_1, su_f h0], FA.rf.up eh_1 (by omega)⟩, rfl⟩

theorem m_earned (P : MP G N M L z h) (r : RS S M) (w : WF S) (km : KM S K M) (kc : KC K) : CT G mX11_earned [.ref (cB G + 169)] h N 0 0 (fun r h' N' => ∃ M', MRB G S M L z h N 0 M' h' N' ∧ r = some (JV (earnF S K.2.2.2.1 K.2.2.2.2.1 (S 13 0 0).toNat 0))) := by
  have wT := w.nT
  have wL := w.nL
  have wR := w.rule
  have hN0 := P.nN
  refine CT_of (by decide +kernel) rfl (by simp [Value.category]) (Nat.le_of_ble_eq_true rfl) ?_
  change WP G mX11_earned _ noX _ _ h N 0 [some (.ref (cB G + 169))] []
  refine wp_aload_n dX11_earned_0 rfl ?_
  refine wp_iconst dX11_earned_1 ?_
  refine wp_put fkX11_88 dX11_earned_2 (P.s0 r) rfl rfl (Nat.le_of_ble_eq_true rfl) ?_
  obtain ⟨h_1, eh_1⟩ : ∃ hh9 : AH, hh9 = hup h (cB G + 169) (eO 11 [JV 0, .ref (cB G + 170), .ref (cB G + 171), .ref (cB G + 172), .ref (cB G + 177), .ref (cB G + 178), JV (S 13 0 0), .ref (cB G + 179), .ref (cB G + 180), .ref (cB G + 181), .ref (cB G + 182), .ref (cB G + 183), .ref (cB G + 208), .ref (cB G + 209), JV (S 14 0 0), .ref (cB G + 212), JV (S 15 0 0), JV (M 17 0 0), .ref (cB G + 253), .ref (cB G + 254), .ref (cB G + 257), .ref (cB G + 260), .ref (cB G + 261), .ref (cB G + 264), JV (M 24 0 0), JV (M 25 0 0), JV (M 26 0 0), .ref (cB G + 265), JV (M 28 0 0), .ref (cB G + 270), .ref (cB G + 273), .ref (cB G + 274), .ref (cB G + 275), .ref (cB G + 276), .long z]) := ⟨_, rfl⟩
  refine WP.heq eh_1 ?_
  obtain ⟨M_1, eM_1⟩ : ∃ ss9 : ST, ss9 = su M 0 0 0 0 := ⟨_, rfl⟩
  have P_1 : MP G (N) M_1 L z h_1 := by rw [eM_1]; exact P.sc (f := 0) (v := 0) (by decide) (eh_1.trans (by simp [cMod, su, r.2.2.1.1, r.2.2.1.2.1, r.2.2.1.2.2]))
  have r_1 : RS S M_1 := by rw [eM_1]; exact r.der (by decide)
  refine wp_aload_n dX11_earned_5 rfl ?_
  refine wp_v0p (m_earnedNow (N := N) P_1 r_1 w (km.of (M' := M_1) (fun f hf => by rw [eM_1, su_f ((show ∀ x ∈ mKP, x ≠ 0 by decide) f hf)])) kc) cvX11_266 dX11_earned_6 ⟨Nat.le_of_ble_eq_true rfl, Nat.le_of_ble_eq_true rfl⟩ (Nat.le_of_ble_eq_true rfl) (P_1.s0 r_1) rfl rfl ?_
  refine wp_iret dX11_earned_9 rfl ?_
  exact ⟨M_1, ⟨Nat.le_refl _, by omega, P_1, r_1, by rw [eM_1]; exact su_s, fun f h0 => by rw [eM_1, su_f h0], FA.rf.up eh_1 (by omega)⟩, rfl⟩

theorem m_worth (P : MP G N M L z h) (r : RS S M) (w : WF S) : CT G mX11_worth [.ref (cB G + 169)] h N 0 0 (fun r h' N' => ∃ M', MRB G S M L z h N 0 M' h' N' ∧ r = some (JV (worF S (S 13 0 0).toNat 0))) := by
  have wT := w.nT
  have wL := w.nL
  have wR := w.rule
  have hN0 := P.nN
  refine CT_of (by decide +kernel) rfl (by simp [Value.category]) (Nat.le_of_ble_eq_true rfl) ?_
  change WP G mX11_worth _ noX _ _ h N 0 [some (.ref (cB G + 169))] []
  refine wp_aload_n dX11_worth_0 rfl ?_
  refine wp_iconst dX11_worth_1 ?_
  refine wp_put fkX11_88 dX11_worth_2 (P.s0 r) rfl rfl (Nat.le_of_ble_eq_true rfl) ?_
  obtain ⟨h_1, eh_1⟩ : ∃ hh9 : AH, hh9 = hup h (cB G + 169) (eO 11 [JV 0, .ref (cB G + 170), .ref (cB G + 171), .ref (cB G + 172), .ref (cB G + 177), .ref (cB G + 178), JV (S 13 0 0), .ref (cB G + 179), .ref (cB G + 180), .ref (cB G + 181), .ref (cB G + 182), .ref (cB G + 183), .ref (cB G + 208), .ref (cB G + 209), JV (S 14 0 0), .ref (cB G + 212), JV (S 15 0 0), JV (M 17 0 0), .ref (cB G + 253), .ref (cB G + 254), .ref (cB G + 257), .ref (cB G + 260), .ref (cB G + 261), .ref (cB G + 264), JV (M 24 0 0), JV (M 25 0 0), JV (M 26 0 0), .ref (cB G + 265), JV (M 28 0 0), .ref (cB G + 270), .ref (cB G + 273), .ref (cB G + 274), .ref (cB G + 275), .ref (cB G + 276), .long z]) := ⟨_, rfl⟩
  refine WP.heq eh_1 ?_
  obtain ⟨M_1, eM_1⟩ : ∃ ss9 : ST, ss9 = su M 0 0 0 0 := ⟨_, rfl⟩
  have P_1 : MP G (N) M_1 L z h_1 := by rw [eM_1]; exact P.sc (f := 0) (v := 0) (by decide) (eh_1.trans (by simp [cMod, su, r.2.2.1.1, r.2.2.1.2.1, r.2.2.1.2.2]))
  have r_1 : RS S M_1 := by rw [eM_1]; exact r.der (by decide)
  refine wp_aload_n dX11_worth_5 rfl ?_
  refine wp_v0p (m_worthNow (N := N) P_1 r_1 w) cvX11_269 dX11_worth_6 ⟨Nat.le_of_ble_eq_true rfl, Nat.le_of_ble_eq_true rfl⟩ (Nat.le_of_ble_eq_true rfl) (P_1.s0 r_1) rfl rfl ?_
  refine wp_iret dX11_worth_9 rfl ?_
  exact ⟨M_1, ⟨Nat.le_refl _, by omega, P_1, r_1, by rw [eM_1]; exact su_s, fun f h0 => by rw [eM_1, su_f h0], FA.rf.up eh_1 (by omega)⟩, rfl⟩

theorem m_works (P : MP G N M L z h) (r : RS S M) (w : WF S) {t : Int} (ht : InR t) {x : Int} (hx : InR x) : CT G mX11_works [.ref (cB G + 169), JV t, JV x] h N 0 0 (fun r h' N' => ∃ M', (((0 ≤ t ∧ t < 4) ∧ (0 ≤ x ∧ x ≤ 9999)) ∧ MRB G S M L z h N 0 M' h' N' ∧ r = some (JV (bI (wkS S t.toNat x.toNat)))) ∨ ((¬ (0 ≤ t ∧ t < 4)) ∧ MRB G S M L z h N 1 M' h' N' ∧ r = some (JV 0)) ∨ (((0 ≤ t ∧ t < 4) ∧ ¬ (0 ≤ x ∧ x ≤ 9999)) ∧ MRB G S M L z h N 2 M' h' N' ∧ r = some (JV 0))) := by
  have wT := w.nT
  have wL := w.nL
  have wR := w.rule
  have hN0 := P.nN
  refine CT_of (by decide +kernel) rfl (by simp [Value.category]) (Nat.le_of_ble_eq_true rfl) ?_
  change WP G mX11_works _ noX _ _ h N 0 [some (.ref (cB G + 169)), some (JV t), some (JV x)] []
  refine wp_aload_n dX11_works_0 rfl ?_
  refine wp_iload_n dX11_works_1 rfl ?_
  refine wp_s1p (m_isCalendar (N := N) ht) csX11_191 dX11_works_2 ⟨Nat.le_of_ble_eq_true rfl, Nat.le_of_ble_eq_true rfl⟩ (Nat.le_of_ble_eq_true rfl) ?_
  refine wp_if_ne 12 dX11_works_5 (by decide) (bI_r _) (fun c_5 => ?_) (fun c_5 => ?_)
  · have q_5 := bI_p c_5
    refine wp_iload_n dX11_works_12 rfl ?_
    refine wp_iconst dX11_works_13 ?_
    refine wp_sipush dX11_works_14 rfl ?_
    refine wp_s3p (m_is (N := N) hx ⟨by omega, by omega⟩ ⟨by omega, by omega⟩) csX11_92 dX11_works_17 ⟨Nat.le_of_ble_eq_true rfl, Nat.le_of_ble_eq_true rfl⟩ (Nat.le_of_ble_eq_true rfl) ?_
    refine wp_if_ne 27 dX11_works_20 (by decide) (bI_r _) (fun c_20 => ?_) (fun c_20 => ?_)
    · have q_20 := bI_p c_20
      refine wp_iconst dX11_works_27 ?_
      refine wp_put fkX11_88 dX11_works_28 (P.s0 r) rfl rfl (Nat.le_of_ble_eq_true rfl) ?_
      obtain ⟨h_1, eh_1⟩ : ∃ hh9 : AH, hh9 = hup h (cB G + 169) (eO 11 [JV 0, .ref (cB G + 170), .ref (cB G + 171), .ref (cB G + 172), .ref (cB G + 177), .ref (cB G + 178), JV (S 13 0 0), .ref (cB G + 179), .ref (cB G + 180), .ref (cB G + 181), .ref (cB G + 182), .ref (cB G + 183), .ref (cB G + 208), .ref (cB G + 209), JV (S 14 0 0), .ref (cB G + 212), JV (S 15 0 0), JV (M 17 0 0), .ref (cB G + 253), .ref (cB G + 254), .ref (cB G + 257), .ref (cB G + 260), .ref (cB G + 261), .ref (cB G + 264), JV (M 24 0 0), JV (M 25 0 0), JV (M 26 0 0), .ref (cB G + 265), JV (M 28 0 0), .ref (cB G + 270), .ref (cB G + 273), .ref (cB G + 274), .ref (cB G + 275), .ref (cB G + 276), .long z]) := ⟨_, rfl⟩
      refine WP.heq eh_1 ?_
      obtain ⟨M_1, eM_1⟩ : ∃ ss9 : ST, ss9 = su M 0 0 0 0 := ⟨_, rfl⟩
      have P_1 : MP G (N) M_1 L z h_1 := by rw [eM_1]; exact P.sc (f := 0) (v := 0) (by decide) (eh_1.trans (by simp [cMod, su, r.2.2.1.1, r.2.2.1.2.1, r.2.2.1.2.2]))
      have r_1 : RS S M_1 := by rw [eM_1]; exact r.der (by decide)
      refine wp_aload_n dX11_works_31 rfl ?_
      refine wp_get fkX11_88 dX11_works_32 (P_1.s0 r_1) rfl ?_
      rw [show M_1 0 0 0 = 0 by rw [eM_1]; exact su_s]
      refine wp_if_ne 51 dX11_works_35 (by decide) ⟨by omega, by omega⟩ (fun c_35 => ?_) (fun c_35 => ?_)
      · exact absurd c_35 (by decide)
      · obtain ⟨t9, rfl⟩ : ∃ t9 : Nat, t = (t9 : Int) := ⟨t.toNat, by omega⟩
        obtain ⟨x9, rfl⟩ : ∃ x9 : Nat, x = (x9 : Int) := ⟨x.toNat, by omega⟩
        refine wp_aload_n dX11_works_38 rfl ?_
        refine wp_iload_n dX11_works_39 rfl ?_
        refine wp_iload_n dX11_works_40 rfl ?_
        refine wp_v2p (m_worksOn (N := N) P_1 r_1 w (c := t9) (d := x9) (by omega) (by omega)) cvX11_106 dX11_works_41 ⟨Nat.le_of_ble_eq_true rfl, Nat.le_of_ble_eq_true rfl⟩ (Nat.le_of_ble_eq_true rfl) (P_1.s0 r_1) rfl rfl ?_
        refine wp_if_eq 51 dX11_works_44 (by decide) (bI_r _) (fun c_44 => ?_) (fun c_44 => ?_)
        · refine wp_iconst dX11_works_51 ?_
          refine wp_zret dX11_works_52 rfl (by omega) ?_
          cases hh : wkS S t9 x9 <;> rw [hh] at c_44 <;> first | exact absurd c_44 (by decide) | skip
          exact ⟨M_1, Or.inl ⟨⟨by omega, by omega⟩, ⟨Nat.le_refl _, by omega, P_1, r_1, by rw [eM_1]; exact su_s, fun f h0 => by rw [eM_1, su_f h0], FA.rf.up eh_1 (by omega)⟩, by show some (JV 0) = some (JV (bI (wkS S t9 x9))); rw [hh]; rfl⟩⟩
        · refine wp_iconst dX11_works_47 ?_
          refine wp_goto 52 dX11_works_48 (by decide) ?_
          refine wp_zret dX11_works_52 rfl (by omega) ?_
          cases hh : wkS S t9 x9 <;> rw [hh] at c_44 <;> first | exact absurd c_44 (by decide) | skip
          exact ⟨M_1, Or.inl ⟨⟨by omega, by omega⟩, ⟨Nat.le_refl _, by omega, P_1, r_1, by rw [eM_1]; exact su_s, fun f h0 => by rw [eM_1, su_f h0], FA.rf.up eh_1 (by omega)⟩, by show some (JV 1) = some (JV (bI (wkS S t9 x9))); rw [hh]; rfl⟩⟩
    · have q_5 := bI_p c_5
      refine wp_iconst dX11_works_23 ?_
      refine wp_goto 28 dX11_works_24 (by decide) ?_
      refine wp_put fkX11_88 dX11_works_28 (P.s0 r) rfl rfl (Nat.le_of_ble_eq_true rfl) ?_
      obtain ⟨h_1, eh_1⟩ : ∃ hh9 : AH, hh9 = hup h (cB G + 169) (eO 11 [JV 2, .ref (cB G + 170), .ref (cB G + 171), .ref (cB G + 172), .ref (cB G + 177), .ref (cB G + 178), JV (S 13 0 0), .ref (cB G + 179), .ref (cB G + 180), .ref (cB G + 181), .ref (cB G + 182), .ref (cB G + 183), .ref (cB G + 208), .ref (cB G + 209), JV (S 14 0 0), .ref (cB G + 212), JV (S 15 0 0), JV (M 17 0 0), .ref (cB G + 253), .ref (cB G + 254), .ref (cB G + 257), .ref (cB G + 260), .ref (cB G + 261), .ref (cB G + 264), JV (M 24 0 0), JV (M 25 0 0), JV (M 26 0 0), .ref (cB G + 265), JV (M 28 0 0), .ref (cB G + 270), .ref (cB G + 273), .ref (cB G + 274), .ref (cB G + 275), .ref (cB G + 276), .long z]) := ⟨_, rfl⟩
      refine WP.heq eh_1 ?_
      obtain ⟨M_1, eM_1⟩ : ∃ ss9 : ST, ss9 = su M 0 0 0 2 := ⟨_, rfl⟩
      have P_1 : MP G (N) M_1 L z h_1 := by rw [eM_1]; exact P.sc (f := 0) (v := 2) (by decide) (eh_1.trans (by simp [cMod, su, r.2.2.1.1, r.2.2.1.2.1, r.2.2.1.2.2]))
      have r_1 : RS S M_1 := by rw [eM_1]; exact r.der (by decide)
      refine wp_aload_n dX11_works_31 rfl ?_
      refine wp_get fkX11_88 dX11_works_32 (P_1.s0 r_1) rfl ?_
      rw [show M_1 0 0 0 = 2 by rw [eM_1]; exact su_s]
      refine wp_if_ne 51 dX11_works_35 (by decide) ⟨by omega, by omega⟩ (fun c_35 => ?_) (fun c_35 => ?_)
      · refine wp_iconst dX11_works_51 ?_
        refine wp_zret dX11_works_52 rfl (by omega) ?_
        exact ⟨M_1, Or.inr (Or.inr (⟨⟨by omega, fun q => by rw [decide_eq_true (show 0 ≤ x ∧ x ≤ 9999 by omega)] at c_20; exact absurd c_20 (by decide)⟩, ⟨Nat.le_refl _, by omega, P_1, r_1, by rw [eM_1]; exact su_s, fun f h0 => by rw [eM_1, su_f h0], FA.rf.up eh_1 (by omega)⟩, rfl⟩))⟩
      · exact absurd c_35 (by decide)
  · refine wp_iconst dX11_works_8 ?_
    refine wp_goto 28 dX11_works_9 (by decide) ?_
    refine wp_put fkX11_88 dX11_works_28 (P.s0 r) rfl rfl (Nat.le_of_ble_eq_true rfl) ?_
    obtain ⟨h_1, eh_1⟩ : ∃ hh9 : AH, hh9 = hup h (cB G + 169) (eO 11 [JV 1, .ref (cB G + 170), .ref (cB G + 171), .ref (cB G + 172), .ref (cB G + 177), .ref (cB G + 178), JV (S 13 0 0), .ref (cB G + 179), .ref (cB G + 180), .ref (cB G + 181), .ref (cB G + 182), .ref (cB G + 183), .ref (cB G + 208), .ref (cB G + 209), JV (S 14 0 0), .ref (cB G + 212), JV (S 15 0 0), JV (M 17 0 0), .ref (cB G + 253), .ref (cB G + 254), .ref (cB G + 257), .ref (cB G + 260), .ref (cB G + 261), .ref (cB G + 264), JV (M 24 0 0), JV (M 25 0 0), JV (M 26 0 0), .ref (cB G + 265), JV (M 28 0 0), .ref (cB G + 270), .ref (cB G + 273), .ref (cB G + 274), .ref (cB G + 275), .ref (cB G + 276), .long z]) := ⟨_, rfl⟩
    refine WP.heq eh_1 ?_
    obtain ⟨M_1, eM_1⟩ : ∃ ss9 : ST, ss9 = su M 0 0 0 1 := ⟨_, rfl⟩
    have P_1 : MP G (N) M_1 L z h_1 := by rw [eM_1]; exact P.sc (f := 0) (v := 1) (by decide) (eh_1.trans (by simp [cMod, su, r.2.2.1.1, r.2.2.1.2.1, r.2.2.1.2.2]))
    have r_1 : RS S M_1 := by rw [eM_1]; exact r.der (by decide)
    refine wp_aload_n dX11_works_31 rfl ?_
    refine wp_get fkX11_88 dX11_works_32 (P_1.s0 r_1) rfl ?_
    rw [show M_1 0 0 0 = 1 by rw [eM_1]; exact su_s]
    refine wp_if_ne 51 dX11_works_35 (by decide) ⟨by omega, by omega⟩ (fun c_35 => ?_) (fun c_35 => ?_)
    · refine wp_iconst dX11_works_51 ?_
      refine wp_zret dX11_works_52 rfl (by omega) ?_
      exact ⟨M_1, Or.inr (Or.inl ⟨(fun q => by rw [decide_eq_true (show 0 ≤ t ∧ t ≤ 3 by omega)] at c_5; exact absurd c_5 (by decide)), ⟨Nat.le_refl _, by omega, P_1, r_1, by rw [eM_1]; exact su_s, fun f h0 => by rw [eM_1, su_f h0], FA.rf.up eh_1 (by omega)⟩, rfl⟩)⟩
    · exact absurd c_35 (by decide)

theorem m_planned (P : MP G N M L z h) (r : RS S M) (w : WF S) (km : KM S K M) (kc : KC K) {x : Int} (hx : InR x) : CT G mX11_planned [.ref (cB G + 169), JV x] h N 0 0 (fun r h' N' => ∃ M', ((0 ≤ x ∧ x ≤ 9999) ∧ MRB G S M L z h N 0 M' h' N' ∧ r = some (JV (planF S K.2.1 K.2.2.1 K.2.2.2.1 K.2.2.2.2.1 K.2.2.2.2.2.1 K.2.2.2.2.2.2.2 x (S 13 0 0).toNat 0))) ∨ (¬ (0 ≤ x ∧ x ≤ 9999) ∧ MRB G S M L z h N 1 M' h' N' ∧ r = some (JV 0))) := by
  have wT := w.nT
  have wL := w.nL
  have wR := w.rule
  have hN0 := P.nN
  refine CT_of (by decide +kernel) rfl (by simp [Value.category]) (Nat.le_of_ble_eq_true rfl) ?_
  change WP G mX11_planned _ noX _ _ h N 0 [some (.ref (cB G + 169)), some (JV x)] []
  refine wp_aload_n dX11_planned_0 rfl ?_
  refine wp_iconst dX11_planned_1 ?_
  refine wp_put fkX11_88 dX11_planned_2 (P.s0 r) rfl rfl (Nat.le_of_ble_eq_true rfl) ?_
  obtain ⟨h_1, eh_1⟩ : ∃ hh9 : AH, hh9 = hup h (cB G + 169) (eO 11 [JV 0, .ref (cB G + 170), .ref (cB G + 171), .ref (cB G + 172), .ref (cB G + 177), .ref (cB G + 178), JV (S 13 0 0), .ref (cB G + 179), .ref (cB G + 180), .ref (cB G + 181), .ref (cB G + 182), .ref (cB G + 183), .ref (cB G + 208), .ref (cB G + 209), JV (S 14 0 0), .ref (cB G + 212), JV (S 15 0 0), JV (M 17 0 0), .ref (cB G + 253), .ref (cB G + 254), .ref (cB G + 257), .ref (cB G + 260), .ref (cB G + 261), .ref (cB G + 264), JV (M 24 0 0), JV (M 25 0 0), JV (M 26 0 0), .ref (cB G + 265), JV (M 28 0 0), .ref (cB G + 270), .ref (cB G + 273), .ref (cB G + 274), .ref (cB G + 275), .ref (cB G + 276), .long z]) := ⟨_, rfl⟩
  refine WP.heq eh_1 ?_
  obtain ⟨M_1, eM_1⟩ : ∃ ss9 : ST, ss9 = su M 0 0 0 0 := ⟨_, rfl⟩
  have P_1 : MP G (N) M_1 L z h_1 := by rw [eM_1]; exact P.sc (f := 0) (v := 0) (by decide) (eh_1.trans (by simp [cMod, su, r.2.2.1.1, r.2.2.1.2.1, r.2.2.1.2.2]))
  have r_1 : RS S M_1 := by rw [eM_1]; exact r.der (by decide)
  refine wp_iload_n dX11_planned_5 rfl ?_
  refine wp_iconst dX11_planned_6 ?_
  refine wp_sipush dX11_planned_7 rfl ?_
  refine wp_s3p (m_is (N := N) hx ⟨by omega, by omega⟩ ⟨by omega, by omega⟩) csX11_92 dX11_planned_10 ⟨Nat.le_of_ble_eq_true rfl, Nat.le_of_ble_eq_true rfl⟩ (Nat.le_of_ble_eq_true rfl) ?_
  refine wp_if_eq 24 dX11_planned_13 (by decide) (bI_r _) (fun c_13 => ?_) (fun c_13 => ?_)
  · refine wp_aload_n dX11_planned_24 rfl ?_
    refine wp_iconst dX11_planned_25 ?_
    refine wp_v1 0 0 (m_refuse (N := N) (x := 1) P_1) cvX11_194 dX11_planned_26 ⟨Nat.le_of_ble_eq_true rfl, Nat.le_of_ble_eq_true rfl⟩ (Nat.le_of_ble_eq_true rfl) (P_1.s0 r_1) rfl rfl (by omega) (by omega) (fun r9 h8 N8 hq => ?_)
    obtain ⟨hN8, rfl, M8, P8, e8, f8⟩ := hq
    rw [hN8]
    have r8 : RS S M8 := by rw [e8]; exact r_1.der (by decide)
    change WP G mX11_planned _ _ _ _ h8 N 29 [some (.ref (cB G + 169)), some (JV x)] [JV 0]
    refine wp_iret dX11_planned_29 rfl ?_
    exact ⟨M8, Or.inr ⟨(fun q => by rw [decide_eq_true (show 0 ≤ x ∧ x ≤ 9999 by omega)] at c_13; exact absurd c_13 (by decide)), ⟨Nat.le_refl _, by omega, P8, r8, by rw [e8]; exact su_s, fun f h0 => by rw [e8, su_f h0, eM_1, su_f h0], (FA.rf.up eh_1 (by omega)).tr f8.fa (Nat.le_refl _)⟩, rfl⟩⟩
  · have q_13 := bI_p c_13
    obtain ⟨x9, rfl⟩ : ∃ x9 : Nat, x = (x9 : Int) := ⟨x.toNat, by omega⟩
    refine wp_aload_n dX11_planned_16 rfl ?_
    refine wp_iload_n dX11_planned_17 rfl ?_
    refine wp_v1p (m_plannedNow (N := N) P_1 r_1 w (km.of (M' := M_1) (fun f hf => by rw [eM_1, su_f ((show ∀ x ∈ mKP, x ≠ 0 by decide) f hf)])) kc (dl := (x9 : Int)) rfl (by omega) (km.of (M' := M_1) (fun f hf => by rw [eM_1, su_f ((show ∀ x ∈ mKP, x ≠ 0 by decide) f hf)])).hE) cvX11_263 dX11_planned_18 ⟨Nat.le_of_ble_eq_true rfl, Nat.le_of_ble_eq_true rfl⟩ (Nat.le_of_ble_eq_true rfl) (P_1.s0 r_1) rfl rfl ?_
    refine wp_goto 29 dX11_planned_21 (by decide) ?_
    refine wp_iret dX11_planned_29 rfl ?_
    exact ⟨M_1, Or.inl ⟨by omega, ⟨Nat.le_refl _, by omega, P_1, r_1, by rw [eM_1]; exact su_s, fun f h0 => by rw [eM_1, su_f h0], FA.rf.up eh_1 (by omega)⟩, rfl⟩⟩

theorem m_addTask (P : MP G N M L z h) (r : RS S M) (w : WF S) {x : Int} (hx : InR x) {t : Int} (ht : InR t) : CT G mX11_addTask [.ref (cB G + 169), JV x, JV t] h N 0 0 (fun r h' N' => ∃ M', (((0 ≤ t ∧ t < 4) ∧ (0 ≤ x ∧ x ≤ 20) ∧ (S 13 0 0 < 24)) ∧ MRG G (su (su (su S 5 (S 13 0 0).toNat 0 x) 6 (S 13 0 0).toNat 0 t) 13 0 0 (S 13 0 0 + 1)) M L z h N M' h' N' ∧ r = some (JV (S 13 0 0))) ∨ ((¬ (0 ≤ t ∧ t < 4)) ∧ MRB G S M L z h N 1 M' h' N' ∧ r = some (JV 0)) ∨ (((0 ≤ t ∧ t < 4) ∧ ¬ (0 ≤ x ∧ x ≤ 20)) ∧ MRB G S M L z h N 2 M' h' N' ∧ r = some (JV 0)) ∨ (((0 ≤ t ∧ t < 4) ∧ (0 ≤ x ∧ x ≤ 20) ∧ ¬ (S 13 0 0 < 24)) ∧ MRB G S M L z h N 3 M' h' N' ∧ r = some (JV 0))) := by
  have wT := w.nT
  have wL := w.nL
  have wR := w.rule
  have hN0 := P.nN
  refine CT_of (by decide +kernel) rfl (by simp [Value.category]) (Nat.le_of_ble_eq_true rfl) ?_
  change WP G mX11_addTask _ noX _ _ h N 0 [some (.ref (cB G + 169)), some (JV x), some (JV t)] []
  refine wp_aload_n dX11_addTask_0 rfl ?_
  refine wp_iconst dX11_addTask_1 ?_
  refine wp_put fkX11_88 dX11_addTask_2 (P.s0 r) rfl rfl (Nat.le_of_ble_eq_true rfl) ?_
  obtain ⟨h_1, eh_1⟩ : ∃ hh9 : AH, hh9 = hup h (cB G + 169) (eO 11 [JV 0, .ref (cB G + 170), .ref (cB G + 171), .ref (cB G + 172), .ref (cB G + 177), .ref (cB G + 178), JV (S 13 0 0), .ref (cB G + 179), .ref (cB G + 180), .ref (cB G + 181), .ref (cB G + 182), .ref (cB G + 183), .ref (cB G + 208), .ref (cB G + 209), JV (S 14 0 0), .ref (cB G + 212), JV (S 15 0 0), JV (M 17 0 0), .ref (cB G + 253), .ref (cB G + 254), .ref (cB G + 257), .ref (cB G + 260), .ref (cB G + 261), .ref (cB G + 264), JV (M 24 0 0), JV (M 25 0 0), JV (M 26 0 0), .ref (cB G + 265), JV (M 28 0 0), .ref (cB G + 270), .ref (cB G + 273), .ref (cB G + 274), .ref (cB G + 275), .ref (cB G + 276), .long z]) := ⟨_, rfl⟩
  refine WP.heq eh_1 ?_
  obtain ⟨M_1, eM_1⟩ : ∃ ss9 : ST, ss9 = su M 0 0 0 0 := ⟨_, rfl⟩
  have P_1 : MP G (N) M_1 L z h_1 := by rw [eM_1]; exact P.sc (f := 0) (v := 0) (by decide) (eh_1.trans (by simp [cMod, su, r.2.2.1.1, r.2.2.1.2.1, r.2.2.1.2.2]))
  have r_1 : RS S M_1 := by rw [eM_1]; exact r.der (by decide)
  refine wp_iload_n dX11_addTask_5 rfl ?_
  refine wp_s1p (m_isCalendar (N := N) ht) csX11_191 dX11_addTask_6 ⟨Nat.le_of_ble_eq_true rfl, Nat.le_of_ble_eq_true rfl⟩ (Nat.le_of_ble_eq_true rfl) ?_
  refine wp_if_ne 18 dX11_addTask_9 (by decide) (bI_r _) (fun c_9 => ?_) (fun c_9 => ?_)
  · have q_9 := bI_p c_9
    refine wp_iload_n dX11_addTask_18 rfl ?_
    refine wp_iconst dX11_addTask_19 ?_
    refine wp_bipush dX11_addTask_20 rfl ?_
    refine wp_s3p (m_is (N := N) hx ⟨by omega, by omega⟩ ⟨by omega, by omega⟩) csX11_92 dX11_addTask_22 ⟨Nat.le_of_ble_eq_true rfl, Nat.le_of_ble_eq_true rfl⟩ (Nat.le_of_ble_eq_true rfl) ?_
    refine wp_if_ne 34 dX11_addTask_25 (by decide) (bI_r _) (fun c_25 => ?_) (fun c_25 => ?_)
    · have q_25 := bI_p c_25
      refine wp_aload_n dX11_addTask_34 rfl ?_
      refine wp_get fkX11_96 dX11_addTask_35 (P_1.s0 r_1) rfl ?_
      refine wp_bipush dX11_addTask_38 rfl ?_
      refine wp_icmp_ne 49 dX11_addTask_40 (by decide) ⟨by omega, by omega⟩ ⟨by omega, by omega⟩ (fun c_40 => ?_) (fun c_40 => ?_)
      · obtain ⟨t9, rfl⟩ : ∃ t9 : Nat, t = (t9 : Int) := ⟨t.toNat, by omega⟩
        obtain ⟨n9, hn9⟩ : ∃ n9 : Nat, S 13 0 0 = (n9 : Int) := ⟨(S 13 0 0).toNat, by omega⟩
        have ht9 : (S 13 0 0).toNat = n9 := by omega
        refine wp_aload_n dX11_addTask_49 rfl ?_
        refine wp_get fkX11_27 dX11_addTask_50 P_1.c0 rfl ?_
        refine wp_aload_n dX11_addTask_53 rfl ?_
        refine wp_get fkX11_96 dX11_addTask_54 P_1.c0 rfl ?_
        have e6_1 : M_1 6 0 0 = (n9 : Int) := by rw [eM_1, su_f (by decide)]; exact r.2.2.1.1.trans hn9
        rw [e6_1]
        refine wp_iload_n dX11_addTask_57 rfl ?_
        refine wp_iastore dX11_addTask_58 P_1.c7 (by omega) (by omega) (by omega) ?_
        obtain ⟨h_2, eh_2⟩ : ∃ hh9 : AH, hh9 = hup h_1 (cB G + 179) (eI G 24 (fup (fun i => M_1 7 i 0) n9 x)) := ⟨_, rfl⟩
        refine WP.heq eh_2 ?_
        obtain ⟨M_2, eM_2⟩ : ∃ ss9 : ST, ss9 = su M_1 7 n9 0 x := ⟨_, rfl⟩
        have P_2 : MP G (N) M_2 L z h_2 := by rw [eM_2]; exact P_1.u1 (q := (7, 179, 24, false)) (i := n9) (v := x) (by decide) eh_2
        refine wp_aload_n dX11_addTask_59 rfl ?_
        refine wp_get fkX11_30 dX11_addTask_60 P_2.c0 rfl ?_
        refine wp_aload_n dX11_addTask_63 rfl ?_
        refine wp_get fkX11_96 dX11_addTask_64 P_2.c0 rfl ?_
        have e6_2 : M_2 6 0 0 = (n9 : Int) := by rw [eM_2, su_f (by decide), eM_1, su_f (by decide)]; exact r.2.2.1.1.trans hn9
        rw [e6_2]
        refine wp_iload_n dX11_addTask_67 rfl ?_
        refine wp_iastore dX11_addTask_68 P_2.c8 (by omega) (by omega) (by omega) ?_
        obtain ⟨h_3, eh_3⟩ : ∃ hh9 : AH, hh9 = hup h_2 (cB G + 180) (eI G 24 (fup (fun i => M_2 8 i 0) n9 (t9 : Int))) := ⟨_, rfl⟩
        refine WP.heq eh_3 ?_
        obtain ⟨M_3, eM_3⟩ : ∃ ss9 : ST, ss9 = su M_2 8 n9 0 (t9 : Int) := ⟨_, rfl⟩
        have P_3 : MP G (N) M_3 L z h_3 := by rw [eM_3]; exact P_2.u1 (q := (8, 180, 24, false)) (i := n9) (v := (t9 : Int)) (by decide) eh_3
        refine wp_aload_n dX11_addTask_69 rfl ?_
        refine wp_dup dX11_addTask_70 rfl ?_
        refine wp_get fkX11_96 dX11_addTask_71 P_3.c0 rfl ?_
        have e6_3 : M_3 6 0 0 = (n9 : Int) := by rw [eM_3, su_f (by decide), eM_2, su_f (by decide), eM_1, su_f (by decide)]; exact r.2.2.1.1.trans hn9
        rw [e6_3]
        refine wp_iconst dX11_addTask_74 ?_
        refine wp_iadd dX11_addTask_75 ?_
        refine wp_put fkX11_96 dX11_addTask_76 P_3.c0 rfl rfl (Nat.le_of_ble_eq_true rfl) ?_
        obtain ⟨h_4, eh_4⟩ : ∃ hh9 : AH, hh9 = hup h_3 (cB G + 169) (eO 11 [JV (M_3 0 0 0), .ref (cB G + 170), .ref (cB G + 171), .ref (cB G + 172), .ref (cB G + 177), .ref (cB G + 178), JV ((n9 : Int) + 1), .ref (cB G + 179), .ref (cB G + 180), .ref (cB G + 181), .ref (cB G + 182), .ref (cB G + 183), .ref (cB G + 208), .ref (cB G + 209), JV (M_3 14 0 0), .ref (cB G + 212), JV (M_3 16 0 0), JV (M_3 17 0 0), .ref (cB G + 253), .ref (cB G + 254), .ref (cB G + 257), .ref (cB G + 260), .ref (cB G + 261), .ref (cB G + 264), JV (M_3 24 0 0), JV (M_3 25 0 0), JV (M_3 26 0 0), .ref (cB G + 265), JV (M_3 28 0 0), .ref (cB G + 270), .ref (cB G + 273), .ref (cB G + 274), .ref (cB G + 275), .ref (cB G + 276), .long z]) := ⟨_, rfl⟩
        refine WP.heq eh_4 ?_
        obtain ⟨M_4, eM_4⟩ : ∃ ss9 : ST, ss9 = su M_3 6 0 0 ((n9 : Int) + 1) := ⟨_, rfl⟩
        have P_4 : MP G (N) M_4 L z h_4 := by rw [eM_4]; exact P_3.sc (f := 6) (v := (n9 : Int) + 1) (by decide) (eh_4.trans (by simp [cMod, su]))
        refine wp_aload_n dX11_addTask_79 rfl ?_
        refine wp_iconst dX11_addTask_80 ?_
        refine wp_put fkX11_175 dX11_addTask_81 P_4.c0 rfl rfl (Nat.le_of_ble_eq_true rfl) ?_
        obtain ⟨h_5, eh_5⟩ : ∃ hh9 : AH, hh9 = hup h_4 (cB G + 169) (eO 11 [JV (M_4 0 0 0), .ref (cB G + 170), .ref (cB G + 171), .ref (cB G + 172), .ref (cB G + 177), .ref (cB G + 178), JV (M_4 6 0 0), .ref (cB G + 179), .ref (cB G + 180), .ref (cB G + 181), .ref (cB G + 182), .ref (cB G + 183), .ref (cB G + 208), .ref (cB G + 209), JV (M_4 14 0 0), .ref (cB G + 212), JV (M_4 16 0 0), JV 0, .ref (cB G + 253), .ref (cB G + 254), .ref (cB G + 257), .ref (cB G + 260), .ref (cB G + 261), .ref (cB G + 264), JV (M_4 24 0 0), JV (M_4 25 0 0), JV (M_4 26 0 0), .ref (cB G + 265), JV (M_4 28 0 0), .ref (cB G + 270), .ref (cB G + 273), .ref (cB G + 274), .ref (cB G + 275), .ref (cB G + 276), .long z]) := ⟨_, rfl⟩
        refine WP.heq eh_5 ?_
        obtain ⟨M_5, eM_5⟩ : ∃ ss9 : ST, ss9 = su M_4 17 0 0 0 := ⟨_, rfl⟩
        have P_5 : MP G (N) M_5 L z h_5 := by rw [eM_5]; exact P_4.sc (f := 17) (v := 0) (by decide) (eh_5.trans (by simp [cMod, su]))
        refine wp_aload_n dX11_addTask_84 rfl ?_
        refine wp_get fkX11_96 dX11_addTask_85 P_5.c0 rfl ?_
        rw [show M_5 6 0 0 = (n9 : Int) + 1 by rw [eM_5, su_f (by decide), eM_4]; exact su_s]
        refine wp_iconst dX11_addTask_88 ?_
        refine wp_isub dX11_addTask_89 ?_
        refine wp_iret dX11_addTask_90 rfl ?_
        rw [ht9, hn9]
        refine ⟨M_5, Or.inl ⟨⟨by omega, by omega, by omega⟩, ⟨Nat.le_refl _, by omega, P_5, by rw [eM_5, eM_4, eM_3, eM_2]; exact ((RS_s6 (RS_s8 (RS_s7 r_1))).der (by decide)), by rw [eM_5, su_f (by decide), eM_4, su_f (by decide), eM_3, su_f (by decide), eM_2, su_f (by decide), eM_1]; exact su_s, by rw [eM_5]; exact su_s, fun f hf => by rw [eM_5, su_f ((show ∀ x ∈ mKP, x ≠ 17 by decide) f hf), eM_4, su_f ((show ∀ x ∈ mKP, x ≠ 6 by decide) f hf), eM_3, su_f ((show ∀ x ∈ mKP, x ≠ 8 by decide) f hf), eM_2, su_f ((show ∀ x ∈ mKP, x ≠ 7 by decide) f hf), eM_1, su_f ((show ∀ x ∈ mKP, x ≠ 0 by decide) f hf)], ((((FA.rf.up eh_1 (by omega)).up eh_2 (by omega)).up eh_3 (by omega)).up eh_4 (by omega)).up eh_5 (by omega)⟩, ?_⟩⟩
        exact congrArg (fun x => some (JV x)) (show (n9 : Int) + 1 - 1 = n9 by omega)
      · have q_9 := bI_p c_9
        have q_25 := bI_p c_25
        refine wp_aload_n dX11_addTask_43 rfl ?_
        refine wp_iconst dX11_addTask_44 ?_
        refine wp_v1 0 0 (m_refuse (N := N) (x := 3) P_1) cvX11_194 dX11_addTask_45 ⟨Nat.le_of_ble_eq_true rfl, Nat.le_of_ble_eq_true rfl⟩ (Nat.le_of_ble_eq_true rfl) (P_1.s0 r_1) rfl rfl (by omega) (by omega) (fun r9 h8 N8 hq => ?_)
        obtain ⟨hN8, rfl, M8, P8, e8, f8⟩ := hq
        rw [hN8]
        have r8 : RS S M8 := by rw [e8]; exact r_1.der (by decide)
        change WP G mX11_addTask _ _ _ _ h8 N 48 [some (.ref (cB G + 169)), some (JV x), some (JV t)] [JV 0]
        refine wp_iret dX11_addTask_48 rfl ?_
        exact ⟨M8, Or.inr (Or.inr (Or.inr (⟨⟨by omega, by omega, fun q => by omega⟩, ⟨Nat.le_refl _, by omega, P8, r8, by rw [e8]; exact su_s, fun f h0 => by rw [e8, su_f h0, eM_1, su_f h0], (FA.rf.up eh_1 (by omega)).tr f8.fa (Nat.le_refl _)⟩, rfl⟩)))⟩
    · have q_9 := bI_p c_9
      refine wp_aload_n dX11_addTask_28 rfl ?_
      refine wp_iconst dX11_addTask_29 ?_
      refine wp_v1 0 0 (m_refuse (N := N) (x := 2) P_1) cvX11_194 dX11_addTask_30 ⟨Nat.le_of_ble_eq_true rfl, Nat.le_of_ble_eq_true rfl⟩ (Nat.le_of_ble_eq_true rfl) (P_1.s0 r_1) rfl rfl (by omega) (by omega) (fun r9 h8 N8 hq => ?_)
      obtain ⟨hN8, rfl, M8, P8, e8, f8⟩ := hq
      rw [hN8]
      have r8 : RS S M8 := by rw [e8]; exact r_1.der (by decide)
      change WP G mX11_addTask _ _ _ _ h8 N 33 [some (.ref (cB G + 169)), some (JV x), some (JV t)] [JV 0]
      refine wp_iret dX11_addTask_33 rfl ?_
      exact ⟨M8, Or.inr (Or.inr (Or.inl ⟨⟨by omega, fun q => by rw [decide_eq_true (show 0 ≤ x ∧ x ≤ 20 by omega)] at c_25; exact absurd c_25 (by decide)⟩, ⟨Nat.le_refl _, by omega, P8, r8, by rw [e8]; exact su_s, fun f h0 => by rw [e8, su_f h0, eM_1, su_f h0], (FA.rf.up eh_1 (by omega)).tr f8.fa (Nat.le_refl _)⟩, rfl⟩))⟩
  · refine wp_aload_n dX11_addTask_12 rfl ?_
    refine wp_iconst dX11_addTask_13 ?_
    refine wp_v1 0 0 (m_refuse (N := N) (x := 1) P_1) cvX11_194 dX11_addTask_14 ⟨Nat.le_of_ble_eq_true rfl, Nat.le_of_ble_eq_true rfl⟩ (Nat.le_of_ble_eq_true rfl) (P_1.s0 r_1) rfl rfl (by omega) (by omega) (fun r9 h8 N8 hq => ?_)
    obtain ⟨hN8, rfl, M8, P8, e8, f8⟩ := hq
    rw [hN8]
    have r8 : RS S M8 := by rw [e8]; exact r_1.der (by decide)
    change WP G mX11_addTask _ _ _ _ h8 N 17 [some (.ref (cB G + 169)), some (JV x), some (JV t)] [JV 0]
    refine wp_iret dX11_addTask_17 rfl ?_
    exact ⟨M8, Or.inr (Or.inl ⟨(fun q => by rw [decide_eq_true (show 0 ≤ t ∧ t ≤ 3 by omega)] at c_9; exact absurd c_9 (by decide)), ⟨Nat.le_refl _, by omega, P8, r8, by rw [e8]; exact su_s, fun f h0 => by rw [e8, su_f h0, eM_1, su_f h0], (FA.rf.up eh_1 (by omega)).tr f8.fa (Nat.le_refl _)⟩, rfl⟩)⟩

end Ms

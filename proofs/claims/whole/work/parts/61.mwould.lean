/-! ===== the reference: what would be ===== -/
section Mw
variable {G : Ctx} {h h1 : AH} {N : Nat} {S S' M M' : ST} {L L' : Nat → Nat} {z : Int64} {K : KTup}
/-- asked, laid out anew -/
def MRX (G : Ctx) (S M : ST) (L : Nat → Nat) (z : Int64) (h : AH) (N : Nat) (M' : ST) (h' : AH) (N' : Nat) : Prop := N ≤ N' ∧ N' ≤ N + 60 ∧ MP G N' M' L z h' ∧ RS S M' ∧ M' 0 0 0 = 0 ∧ M' 17 0 0 = 0 ∧ (∀ f ∈ mKP, M' f = M f) ∧ FA G N h h'
theorem mKP_DV : ∀ f ∈ mKP, ∀ g ∈ mDV, g ≠ f := by decide
theorem su_su {f i j : Nat} {v : Int} : su (su S f i j v) f i j (S f i j) = S := by
  funext a b c
  unfold su
  by_cases hq : a = f ∧ b = i ∧ c = j
  · rw [if_pos hq, hq.1, hq.2.1, hq.2.2]
  · rw [if_neg hq, if_neg hq]
theorem LL_b (w : WF S) {lb rm : Nat → Int} {rl : Int} : 0 ≤ LL S lb rm rl ∧ LL S lb rm rl ≤ 4984 := by
  have p := LV9_all (S := S) w (lb := lb) (rm := rm) (rl := rl) (fun _ => 0)
  have a := p.2.2.2.2.2.2.1
  have b := p.ct w
  have c := w.nT
  rw [LL_od] at a
  omega
theorem m_lastWith (P : MP G N M L z h) (r : RS S M) (w : WF S) (tp : TOP S) {t x : Int} (ht : InR t) (hx : InR x) : CT G mX11_lastWith [.ref (cB G + 169), JV t, JV x] h N 2 48 (fun r h' N' => ∃ M', (((0 ≤ t ∧ t < S 13 0 0) ∧ (0 ≤ x ∧ x ≤ 20)) ∧ MRX G S M L z h N M' h' N' ∧ ∃ v : Int, r = some (JV v) ∧ (∃ eb ee, EP (su S 5 t.toNat 0 x) eb ee ∧ LDY (su S 5 t.toNat 0 x) ee v)) ∨ (¬ (0 ≤ t ∧ t < S 13 0 0) ∧ MRB G S M L z h N 1 M' h' N' ∧ r = some (JV 0)) ∨ (((0 ≤ t ∧ t < S 13 0 0) ∧ ¬ (0 ≤ x ∧ x ≤ 20)) ∧ MRB G S M L z h N 2 M' h' N' ∧ r = some (JV 0))) := by
  have wT := w.nT
  have wL := w.nL
  have wR := w.rule
  have hN0 := P.nN
  refine CT_of (by decide +kernel) rfl (by simp [Value.category]) (Nat.le_of_ble_eq_true rfl) ?_
  change WP G mX11_lastWith _ noX _ _ h N 0 [some (.ref (cB G + 169)), some (JV t), some (JV x), none, none] []
  refine wp_aload_n dX11_lastWith_0 rfl ?_
  refine wp_iconst dX11_lastWith_1 ?_
  refine wp_put fkX11_88 dX11_lastWith_2 (P.s0 r) rfl rfl (Nat.le_of_ble_eq_true rfl) ?_
  obtain ⟨h_1, eh_1⟩ : ∃ hh9 : AH, hh9 = hup h (cB G + 169) (eO 11 [JV 0, .ref (cB G + 170), .ref (cB G + 171), .ref (cB G + 172), .ref (cB G + 177), .ref (cB G + 178), JV (S 13 0 0), .ref (cB G + 179), .ref (cB G + 180), .ref (cB G + 181), .ref (cB G + 182), .ref (cB G + 183), .ref (cB G + 208), .ref (cB G + 209), JV (S 14 0 0), .ref (cB G + 212), JV (S 15 0 0), JV (M 17 0 0), .ref (cB G + 253), .ref (cB G + 254), .ref (cB G + 257), .ref (cB G + 260), .ref (cB G + 261), .ref (cB G + 264), JV (M 24 0 0), JV (M 25 0 0), JV (M 26 0 0), .ref (cB G + 265), JV (M 28 0 0), .ref (cB G + 270), .ref (cB G + 273), .ref (cB G + 274), .ref (cB G + 275), .ref (cB G + 276), .long z]) := ⟨_, rfl⟩
  refine WP.heq eh_1 ?_
  obtain ⟨M_1, eM_1⟩ : ∃ ss9 : ST, ss9 = su M 0 0 0 0 := ⟨_, rfl⟩
  have P_1 : MP G (N) M_1 L z h_1 := by rw [eM_1]; exact P.sc (f := 0) (v := 0) (by decide) (eh_1.trans (by simp [cMod, su, r.2.2.1.1, r.2.2.1.2.1, r.2.2.1.2.2]))
  have r_1 : RS S M_1 := by rw [eM_1]; exact r.der (by decide)
  refine wp_aload_n dX11_lastWith_5 rfl ?_
  refine wp_iload_n dX11_lastWith_6 rfl ?_
  refine wp_v1p (m_isTask (N := N) P_1 r_1 w ht) cvX11_201 dX11_lastWith_7 ⟨Nat.le_of_ble_eq_true rfl, Nat.le_of_ble_eq_true rfl⟩ (Nat.le_of_ble_eq_true rfl) (P_1.s0 r_1) rfl rfl ?_
  refine wp_if_ne 19 dX11_lastWith_10 (by decide) (bI_r _) (fun c_10 => ?_) (fun c_10 => ?_)
  · have q_10 := bI_p c_10
    refine wp_iload_n dX11_lastWith_19 rfl ?_
    refine wp_iconst dX11_lastWith_20 ?_
    refine wp_bipush dX11_lastWith_21 rfl ?_
    refine wp_s3p (m_is (N := N) hx ⟨by omega, by omega⟩ ⟨by omega, by omega⟩) csX11_92 dX11_lastWith_23 ⟨Nat.le_of_ble_eq_true rfl, Nat.le_of_ble_eq_true rfl⟩ (Nat.le_of_ble_eq_true rfl) ?_
    refine wp_if_ne 35 dX11_lastWith_26 (by decide) (bI_r _) (fun c_26 => ?_) (fun c_26 => ?_)
    · have q_26 := bI_p c_26
      obtain ⟨t9, rfl⟩ : ∃ t9 : Nat, t = (t9 : Int) := ⟨t.toNat, by omega⟩
      refine wp_aload_n dX11_lastWith_35 rfl ?_
      refine wp_get fkX11_27 dX11_lastWith_36 (P_1.s0 r_1) rfl ?_
      refine wp_iload_n dX11_lastWith_39 rfl ?_
      refine wp_iaload dX11_lastWith_40 (P_1.s7 r_1) (by omega) (by omega) (by omega) ?_
      change WP G mX11_lastWith _ _ _ _ h_1 N 41 [some (.ref (cB G + 169)), some (JV (t9 : Int)), some (JV x), none, none] [JV (S 5 t9 0)]
      refine wp_istore_n dX11_lastWith_41 (Nat.le_of_ble_eq_true rfl) rfl ?_
      change WP G mX11_lastWith _ _ _ _ h_1 N 42 [some (.ref (cB G + 169)), some (JV (t9 : Int)), some (JV x), some (JV (S 5 t9 0)), none] []
      refine wp_aload_n dX11_lastWith_42 rfl ?_
      refine wp_get fkX11_27 dX11_lastWith_43 P_1.c0 rfl ?_
      refine wp_iload_n dX11_lastWith_46 rfl ?_
      refine wp_iload_n dX11_lastWith_47 rfl ?_
      refine wp_iastore dX11_lastWith_48 P_1.c7 (by omega) (by omega) (by omega) ?_
      obtain ⟨h_2, eh_2⟩ : ∃ hh9 : AH, hh9 = hup h_1 (cB G + 179) (eI G 24 (fup (fun i => M_1 7 i 0) t9 x)) := ⟨_, rfl⟩
      refine WP.heq eh_2 ?_
      obtain ⟨M_2, eM_2⟩ : ∃ ss9 : ST, ss9 = su M_1 7 t9 0 x := ⟨_, rfl⟩
      have P_2 : MP G (N) M_2 L z h_2 := by rw [eM_2]; exact P_1.u1 (q := (7, 179, 24, false)) (i := t9) (v := x) (by decide) eh_2
      refine wp_aload_n dX11_lastWith_49 rfl ?_
      refine wp_iconst dX11_lastWith_50 ?_
      refine wp_v1 0 0 (m_relaid0 (N := N) P_2 (show RS (su S 5 t9 0 x) M_2 by rw [eM_2]; exact RS_s7 r_1) (w.len (by omega)) (tp.same (su_f (by decide)) (su_f (by decide)) (su_f (by decide)) (su_f (by decide)) (su_f (by decide)) (su_f (by decide)))) cvX11_272 dX11_lastWith_51 ⟨Nat.le_of_ble_eq_true rfl, Nat.le_of_ble_eq_true rfl⟩ (Nat.le_of_ble_eq_true rfl) P_2.c0 rfl rfl (by omega) (by omega) (fun r9 h5 N5 hq => ?_)
      obtain ⟨hNa5, hNb5, v5, rfl, M5, P5, r5, z5, k5, w5, f5⟩ := hq
      change WP G mX11_lastWith _ _ _ _ h5 N5 54 [some (.ref (cB G + 169)), some (JV (t9 : Int)), some (JV x), some (JV (S 5 t9 0)), none] [JV v5]
      refine wp_istore dX11_lastWith_54 (Nat.le_of_ble_eq_true rfl) rfl ?_
      change WP G mX11_lastWith _ _ _ _ h5 N5 56 [some (.ref (cB G + 169)), some (JV (t9 : Int)), some (JV x), some (JV (S 5 t9 0)), some (JV v5)] []
      refine wp_aload_n dX11_lastWith_56 rfl ?_
      refine wp_get fkX11_27 dX11_lastWith_57 P5.c0 rfl ?_
      refine wp_iload_n dX11_lastWith_60 rfl ?_
      refine wp_iload_n dX11_lastWith_61 rfl ?_
      refine wp_iastore dX11_lastWith_62 P5.c7 (by omega) (by omega) (by omega) ?_
      obtain ⟨h_3, eh_3⟩ : ∃ hh9 : AH, hh9 = hup h5 (cB G + 179) (eI G 24 (fup (fun i => M5 7 i 0) t9 (S 5 t9 0))) := ⟨_, rfl⟩
      refine WP.heq eh_3 ?_
      obtain ⟨M_3, eM_3⟩ : ∃ ss9 : ST, ss9 = su M5 7 t9 0 (S 5 t9 0) := ⟨_, rfl⟩
      have P_3 : MP G (N5) M_3 L z h_3 := by rw [eM_3]; exact P5.u1 (q := (7, 179, 24, false)) (i := t9) (v := S 5 t9 0) (by decide) eh_3
      refine wp_iload dX11_lastWith_63 rfl ?_
      refine wp_iret dX11_lastWith_65 rfl ?_
      have kf : ∀ f ∈ mKP, M_3 f = M f := fun f hf => by rw [eM_3, su_f ((show ∀ x ∈ mKP, x ≠ 7 by decide) f hf), k5 f (mKP_DV f hf), eM_2, su_f ((show ∀ x ∈ mKP, x ≠ 7 by decide) f hf), eM_1, su_f ((show ∀ x ∈ mKP, x ≠ 0 by decide) f hf)]
      have rf : RS S M_3 := by have q := RS_s7 (t := t9) (v := S 5 t9 0) r5; rw [su_su] at q; rw [eM_3]; exact q
      refine ⟨M_3, Or.inl ⟨by omega, ⟨by omega, by omega, P_3, rf, by rw [eM_3, su_f (by decide), k5 0 (by decide), eM_2, su_f (by decide), eM_1]; exact su_s, by rw [eM_3, su_f (by decide)]; exact z5, kf, (((FA.rf.up eh_1 (by omega)).up eh_2 (by omega)).tr f5 (by omega)).up eh_3 (by omega)⟩, v5, rfl, ?_⟩⟩
      obtain ⟨eb, ee, a, b⟩ := w5
      exact ⟨eb, ee, a, b⟩
    · refine wp_aload_n dX11_lastWith_29 rfl ?_
      refine wp_iconst dX11_lastWith_30 ?_
      refine wp_v1 0 0 (m_refuse (N := N) (x := 2) P_1) cvX11_194 dX11_lastWith_31 ⟨Nat.le_of_ble_eq_true rfl, Nat.le_of_ble_eq_true rfl⟩ (Nat.le_of_ble_eq_true rfl) (P_1.s0 r_1) rfl rfl (by omega) (by omega) (fun r9 h8 N8 hq => ?_)
      obtain ⟨hN8, rfl, M8, P8, e8, f8⟩ := hq
      rw [hN8]
      have r8 : RS S M8 := by rw [e8]; exact r_1.der (by decide)
      change WP G mX11_lastWith _ _ _ _ h8 N 34 [some (.ref (cB G + 169)), some (JV t), some (JV x), none, none] [JV 0]
      refine wp_iret dX11_lastWith_34 rfl ?_
      exact ⟨M8, Or.inr (Or.inr (⟨⟨by omega, (fun q => by rw [decide_eq_true (show 0 ≤ x ∧ x ≤ 20 by omega)] at c_26; exact absurd c_26 (by decide))⟩, ⟨Nat.le_refl _, by omega, P8, r8, by rw [e8]; exact su_s, fun f h0 => by rw [e8, su_f h0, eM_1, su_f h0], (FA.rf.up eh_1 (by omega)).tr f8.fa (Nat.le_refl _)⟩, rfl⟩))⟩
  · refine wp_aload_n dX11_lastWith_13 rfl ?_
    refine wp_iconst dX11_lastWith_14 ?_
    refine wp_v1 0 0 (m_refuse (N := N) (x := 1) P_1) cvX11_194 dX11_lastWith_15 ⟨Nat.le_of_ble_eq_true rfl, Nat.le_of_ble_eq_true rfl⟩ (Nat.le_of_ble_eq_true rfl) (P_1.s0 r_1) rfl rfl (by omega) (by omega) (fun r9 h8 N8 hq => ?_)
    obtain ⟨hN8, rfl, M8, P8, e8, f8⟩ := hq
    rw [hN8]
    have r8 : RS S M8 := by rw [e8]; exact r_1.der (by decide)
    change WP G mX11_lastWith _ _ _ _ h8 N 18 [some (.ref (cB G + 169)), some (JV t), some (JV x), none, none] [JV 0]
    refine wp_iret dX11_lastWith_18 rfl ?_
    exact ⟨M8, Or.inr (Or.inl ⟨(fun q => by rw [decide_eq_true (show 0 ≤ t ∧ t ≤ S 13 0 0 - 1 by omega)] at c_10; exact absurd c_10 (by decide)), ⟨Nat.le_refl _, by omega, P8, r8, by rw [e8]; exact su_s, fun f h0 => by rw [e8, su_f h0, eM_1, su_f h0], (FA.rf.up eh_1 (by omega)).tr f8.fa (Nat.le_refl _)⟩, rfl⟩)⟩

theorem m_levelledWith (P : MP G N M L z h) (r : RS S M) (w : WF S) (tp : TOP S) {t x : Int} (ht : InR t) (hx : InR x) : CT G mX11_levelledWith [.ref (cB G + 169), JV t, JV x] h N 2 48 (fun r h' N' => ∃ M', (((0 ≤ t ∧ t < 4) ∧ (0 ≤ x ∧ x ≤ 9)) ∧ MRX G S M L z h N M' h' N' ∧ ∃ v : Int, r = some (JV v) ∧ (∃ eb ee lb le rm ld, EP (su S 3 t.toNat 0 x) eb ee ∧ LDY (su S 3 t.toNat 0 x) ee ld ∧ LATE (su S 3 t.toNat 0 x) eb lb le rm ld ∧ v = LL (su S 3 t.toNat 0 x) lb rm (S 15 0 0))) ∨ (¬ (0 ≤ t ∧ t < 4) ∧ MRB G S M L z h N 1 M' h' N' ∧ r = some (JV 0)) ∨ (((0 ≤ t ∧ t < 4) ∧ ¬ (0 ≤ x ∧ x ≤ 9)) ∧ MRB G S M L z h N 2 M' h' N' ∧ r = some (JV 0))) := by
  have wT := w.nT
  have wL := w.nL
  have wR := w.rule
  have hN0 := P.nN
  refine CT_of (by decide +kernel) rfl (by simp [Value.category]) (Nat.le_of_ble_eq_true rfl) ?_
  change WP G mX11_levelledWith _ noX _ _ h N 0 [some (.ref (cB G + 169)), some (JV t), some (JV x), none, none] []
  refine wp_aload_n dX11_levelledWith_0 rfl ?_
  refine wp_iconst dX11_levelledWith_1 ?_
  refine wp_put fkX11_88 dX11_levelledWith_2 (P.s0 r) rfl rfl (Nat.le_of_ble_eq_true rfl) ?_
  obtain ⟨h_1, eh_1⟩ : ∃ hh9 : AH, hh9 = hup h (cB G + 169) (eO 11 [JV 0, .ref (cB G + 170), .ref (cB G + 171), .ref (cB G + 172), .ref (cB G + 177), .ref (cB G + 178), JV (S 13 0 0), .ref (cB G + 179), .ref (cB G + 180), .ref (cB G + 181), .ref (cB G + 182), .ref (cB G + 183), .ref (cB G + 208), .ref (cB G + 209), JV (S 14 0 0), .ref (cB G + 212), JV (S 15 0 0), JV (M 17 0 0), .ref (cB G + 253), .ref (cB G + 254), .ref (cB G + 257), .ref (cB G + 260), .ref (cB G + 261), .ref (cB G + 264), JV (M 24 0 0), JV (M 25 0 0), JV (M 26 0 0), .ref (cB G + 265), JV (M 28 0 0), .ref (cB G + 270), .ref (cB G + 273), .ref (cB G + 274), .ref (cB G + 275), .ref (cB G + 276), .long z]) := ⟨_, rfl⟩
  refine WP.heq eh_1 ?_
  obtain ⟨M_1, eM_1⟩ : ∃ ss9 : ST, ss9 = su M 0 0 0 0 := ⟨_, rfl⟩
  have P_1 : MP G (N) M_1 L z h_1 := by rw [eM_1]; exact P.sc (f := 0) (v := 0) (by decide) (eh_1.trans (by simp [cMod, su, r.2.2.1.1, r.2.2.1.2.1, r.2.2.1.2.2]))
  have r_1 : RS S M_1 := by rw [eM_1]; exact r.der (by decide)
  refine wp_iload_n dX11_levelledWith_5 rfl ?_
  refine wp_s1p (m_isCrew (N := N) ht) csX11_198 dX11_levelledWith_6 ⟨Nat.le_of_ble_eq_true rfl, Nat.le_of_ble_eq_true rfl⟩ (Nat.le_of_ble_eq_true rfl) ?_
  refine wp_if_ne 18 dX11_levelledWith_9 (by decide) (bI_r _) (fun c_9 => ?_) (fun c_9 => ?_)
  · have q_9 := bI_p c_9
    refine wp_iload_n dX11_levelledWith_18 rfl ?_
    refine wp_iconst dX11_levelledWith_19 ?_
    refine wp_bipush dX11_levelledWith_20 rfl ?_
    refine wp_s3p (m_is (N := N) hx ⟨by omega, by omega⟩ ⟨by omega, by omega⟩) csX11_92 dX11_levelledWith_22 ⟨Nat.le_of_ble_eq_true rfl, Nat.le_of_ble_eq_true rfl⟩ (Nat.le_of_ble_eq_true rfl) ?_
    refine wp_if_ne 34 dX11_levelledWith_25 (by decide) (bI_r _) (fun c_25 => ?_) (fun c_25 => ?_)
    · have q_25 := bI_p c_25
      obtain ⟨t9, rfl⟩ : ∃ t9 : Nat, t = (t9 : Int) := ⟨t.toNat, by omega⟩
      refine wp_aload_n dX11_levelledWith_34 rfl ?_
      refine wp_get fkX11_21 dX11_levelledWith_35 (P_1.s0 r_1) rfl ?_
      refine wp_iload_n dX11_levelledWith_38 rfl ?_
      refine wp_iaload dX11_levelledWith_39 (P_1.s4 r_1) (by omega) (by omega) (by omega) ?_
      change WP G mX11_levelledWith _ _ _ _ h_1 N 40 [some (.ref (cB G + 169)), some (JV (t9 : Int)), some (JV x), none, none] [JV (S 3 t9 0)]
      refine wp_istore_n dX11_levelledWith_40 (Nat.le_of_ble_eq_true rfl) rfl ?_
      change WP G mX11_levelledWith _ _ _ _ h_1 N 41 [some (.ref (cB G + 169)), some (JV (t9 : Int)), some (JV x), some (JV (S 3 t9 0)), none] []
      refine wp_aload_n dX11_levelledWith_41 rfl ?_
      refine wp_get fkX11_21 dX11_levelledWith_42 P_1.c0 rfl ?_
      refine wp_iload_n dX11_levelledWith_45 rfl ?_
      refine wp_iload_n dX11_levelledWith_46 rfl ?_
      refine wp_iastore dX11_levelledWith_47 P_1.c4 (by omega) (by omega) (by omega) ?_
      obtain ⟨h_2, eh_2⟩ : ∃ hh9 : AH, hh9 = hup h_1 (cB G + 177) (eI G 4 (fup (fun i => M_1 4 i 0) t9 x)) := ⟨_, rfl⟩
      refine WP.heq eh_2 ?_
      obtain ⟨M_2, eM_2⟩ : ∃ ss9 : ST, ss9 = su M_1 4 t9 0 x := ⟨_, rfl⟩
      have P_2 : MP G (N) M_2 L z h_2 := by rw [eM_2]; exact P_1.u1 (q := (4, 177, 4, false)) (i := t9) (v := x) (by decide) eh_2
      refine wp_aload_n dX11_levelledWith_48 rfl ?_
      refine wp_iconst dX11_levelledWith_49 ?_
      refine wp_v1 0 0 (m_relaid1 (N := N) P_2 (show RS (su S 3 t9 0 x) M_2 by rw [eM_2]; exact RS_s4 r_1) (w.siz (by omega)) (tp.same (su_f (by decide)) (su_f (by decide)) (su_f (by decide)) (su_f (by decide)) (su_f (by decide)) (su_f (by decide)))) cvX11_272 dX11_levelledWith_50 ⟨Nat.le_of_ble_eq_true rfl, Nat.le_of_ble_eq_true rfl⟩ (Nat.le_of_ble_eq_true rfl) P_2.c0 rfl rfl (by omega) (by omega) (fun r9 h5 N5 hq => ?_)
      obtain ⟨hNa5, hNb5, v5, rfl, M5, P5, r5, z5, k5, w5, f5⟩ := hq
      change WP G mX11_levelledWith _ _ _ _ h5 N5 53 [some (.ref (cB G + 169)), some (JV (t9 : Int)), some (JV x), some (JV (S 3 t9 0)), none] [JV v5]
      refine wp_istore dX11_levelledWith_53 (Nat.le_of_ble_eq_true rfl) rfl ?_
      change WP G mX11_levelledWith _ _ _ _ h5 N5 55 [some (.ref (cB G + 169)), some (JV (t9 : Int)), some (JV x), some (JV (S 3 t9 0)), some (JV v5)] []
      refine wp_aload_n dX11_levelledWith_55 rfl ?_
      refine wp_get fkX11_21 dX11_levelledWith_56 P5.c0 rfl ?_
      refine wp_iload_n dX11_levelledWith_59 rfl ?_
      refine wp_iload_n dX11_levelledWith_60 rfl ?_
      refine wp_iastore dX11_levelledWith_61 P5.c4 (by omega) (by omega) (by omega) ?_
      obtain ⟨h_3, eh_3⟩ : ∃ hh9 : AH, hh9 = hup h5 (cB G + 177) (eI G 4 (fup (fun i => M5 4 i 0) t9 (S 3 t9 0))) := ⟨_, rfl⟩
      refine WP.heq eh_3 ?_
      obtain ⟨M_3, eM_3⟩ : ∃ ss9 : ST, ss9 = su M5 4 t9 0 (S 3 t9 0) := ⟨_, rfl⟩
      have P_3 : MP G (N5) M_3 L z h_3 := by rw [eM_3]; exact P5.u1 (q := (4, 177, 4, false)) (i := t9) (v := S 3 t9 0) (by decide) eh_3
      refine wp_iload dX11_levelledWith_62 rfl ?_
      refine wp_iret dX11_levelledWith_64 rfl ?_
      have kf : ∀ f ∈ mKP, M_3 f = M f := fun f hf => by rw [eM_3, su_f ((show ∀ x ∈ mKP, x ≠ 4 by decide) f hf), k5 f (mKP_DV f hf), eM_2, su_f ((show ∀ x ∈ mKP, x ≠ 4 by decide) f hf), eM_1, su_f ((show ∀ x ∈ mKP, x ≠ 0 by decide) f hf)]
      have rf : RS S M_3 := by have q := RS_s4 (t := t9) (v := S 3 t9 0) r5; rw [su_su] at q; rw [eM_3]; exact q
      refine ⟨M_3, Or.inl ⟨by omega, ⟨by omega, by omega, P_3, rf, by rw [eM_3, su_f (by decide), k5 0 (by decide), eM_2, su_f (by decide), eM_1]; exact su_s, by rw [eM_3, su_f (by decide)]; exact z5, kf, (((FA.rf.up eh_1 (by omega)).up eh_2 (by omega)).tr f5 (by omega)).up eh_3 (by omega)⟩, v5, rfl, ?_⟩⟩
      obtain ⟨eb, ee, lb, le, rm, ld, a, b, c, d⟩ := w5
      exact ⟨eb, ee, lb, le, rm, ld, a, b, c, by rw [d]; exact congrArg (LL _ lb rm) (congrFun (congrFun (su_f (by decide)) _) _)⟩
    · refine wp_aload_n dX11_levelledWith_28 rfl ?_
      refine wp_iconst dX11_levelledWith_29 ?_
      refine wp_v1 0 0 (m_refuse (N := N) (x := 2) P_1) cvX11_194 dX11_levelledWith_30 ⟨Nat.le_of_ble_eq_true rfl, Nat.le_of_ble_eq_true rfl⟩ (Nat.le_of_ble_eq_true rfl) (P_1.s0 r_1) rfl rfl (by omega) (by omega) (fun r9 h8 N8 hq => ?_)
      obtain ⟨hN8, rfl, M8, P8, e8, f8⟩ := hq
      rw [hN8]
      have r8 : RS S M8 := by rw [e8]; exact r_1.der (by decide)
      change WP G mX11_levelledWith _ _ _ _ h8 N 33 [some (.ref (cB G + 169)), some (JV t), some (JV x), none, none] [JV 0]
      refine wp_iret dX11_levelledWith_33 rfl ?_
      exact ⟨M8, Or.inr (Or.inr (⟨⟨by omega, (fun q => by rw [decide_eq_true (show 0 ≤ x ∧ x ≤ 9 by omega)] at c_25; exact absurd c_25 (by decide))⟩, ⟨Nat.le_refl _, by omega, P8, r8, by rw [e8]; exact su_s, fun f h0 => by rw [e8, su_f h0, eM_1, su_f h0], (FA.rf.up eh_1 (by omega)).tr f8.fa (Nat.le_refl _)⟩, rfl⟩))⟩
  · refine wp_aload_n dX11_levelledWith_12 rfl ?_
    refine wp_iconst dX11_levelledWith_13 ?_
    refine wp_v1 0 0 (m_refuse (N := N) (x := 1) P_1) cvX11_194 dX11_levelledWith_14 ⟨Nat.le_of_ble_eq_true rfl, Nat.le_of_ble_eq_true rfl⟩ (Nat.le_of_ble_eq_true rfl) (P_1.s0 r_1) rfl rfl (by omega) (by omega) (fun r9 h8 N8 hq => ?_)
    obtain ⟨hN8, rfl, M8, P8, e8, f8⟩ := hq
    rw [hN8]
    have r8 : RS S M8 := by rw [e8]; exact r_1.der (by decide)
    change WP G mX11_levelledWith _ _ _ _ h8 N 17 [some (.ref (cB G + 169)), some (JV t), some (JV x), none, none] [JV 0]
    refine wp_iret dX11_levelledWith_17 rfl ?_
    exact ⟨M8, Or.inr (Or.inl ⟨(fun q => by rw [decide_eq_true (show 0 ≤ t ∧ t ≤ 3 by omega)] at c_9; exact absurd c_9 (by decide)), ⟨Nat.le_refl _, by omega, P8, r8, by rw [e8]; exact su_s, fun f h0 => by rw [e8, su_f h0, eM_1, su_f h0], (FA.rf.up eh_1 (by omega)).tr f8.fa (Nat.le_refl _)⟩, rfl⟩)⟩

end Mw

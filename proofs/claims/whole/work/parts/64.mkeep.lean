/-! ===== the reference: pace, keep ===== -/
section Mpk
variable {G : Ctx} {h h1 : AH} {N : Nat} {S S' M M' : ST} {L L' : Nat → Nat} {z : Int64} {K : KTup}

theorem m_pace (P : MP G N M L z h) (r : RS S M) (w : WF S) (km : KM S K M) (kc : KC K) {d : Int} (hd : InR d) : CT G mX11_pace [.ref (cB G + 169), JV d] h N 0 0 (fun r h' N' => ∃ M', ((0 ≤ d ∧ d ≤ 9999) ∧ MRB G S M L z h N 0 M' h' N' ∧ r = some (.double (paceF (planF S K.2.1 K.2.2.1 K.2.2.2.1 K.2.2.2.2.1 K.2.2.2.2.2.1 K.2.2.2.2.2.2.2 d (S 13 0 0).toNat 0) (earnF S K.2.2.2.1 K.2.2.2.2.1 (S 13 0 0).toNat 0)))) ∨ (¬ (0 ≤ d ∧ d ≤ 9999) ∧ MRB G S M L z h N 1 M' h' N' ∧ r = some (.double 0))) := by
  have wT := w.nT
  have wL := w.nL
  have wR := w.rule
  have hN0 := P.nN
  refine CT_of (by decide +kernel) rfl (by simp [Value.category]) (Nat.le_of_ble_eq_true rfl) ?_
  change WP G mX11_pace _ noX _ _ h N 0 [some (.ref (cB G + 169)), some (JV d)] []
  refine wp_aload_n dX11_pace_0 rfl ?_
  refine wp_iload_n dX11_pace_1 rfl ?_
  refine wp_iconst dX11_pace_2 ?_
  refine wp_sipush dX11_pace_3 rfl ?_
  refine wp_s3p (m_is (N := N) hd ⟨by omega, by omega⟩ ⟨by omega, by omega⟩) csX11_92 dX11_pace_6 ⟨Nat.le_of_ble_eq_true rfl, Nat.le_of_ble_eq_true rfl⟩ (Nat.le_of_ble_eq_true rfl) ?_
  refine wp_if_eq 16 dX11_pace_9 (by decide) (bI_r _) (fun c_9 => ?_) (fun c_9 => ?_)
  · refine wp_iconst dX11_pace_16 ?_
    refine wp_put fkX11_88 dX11_pace_17 (P.s0 r) rfl rfl (Nat.le_of_ble_eq_true rfl) ?_
    obtain ⟨h_1, eh_1⟩ : ∃ hh9 : AH, hh9 = hup h (cB G + 169) (eO 11 [JV 1, .ref (cB G + 170), .ref (cB G + 171), .ref (cB G + 172), .ref (cB G + 177), .ref (cB G + 178), JV (S 13 0 0), .ref (cB G + 179), .ref (cB G + 180), .ref (cB G + 181), .ref (cB G + 182), .ref (cB G + 183), .ref (cB G + 208), .ref (cB G + 209), JV (S 14 0 0), .ref (cB G + 212), JV (S 15 0 0), JV (M 17 0 0), .ref (cB G + 253), .ref (cB G + 254), .ref (cB G + 257), .ref (cB G + 260), .ref (cB G + 261), .ref (cB G + 264), JV (M 24 0 0), JV (M 25 0 0), JV (M 26 0 0), .ref (cB G + 265), JV (M 28 0 0), .ref (cB G + 270), .ref (cB G + 273), .ref (cB G + 274), .ref (cB G + 275), .ref (cB G + 276), .long z]) := ⟨_, rfl⟩
    refine WP.heq eh_1 ?_
    obtain ⟨M_1, eM_1⟩ : ∃ ss9 : ST, ss9 = su M 0 0 0 1 := ⟨_, rfl⟩
    have P_1 : MP G (N) M_1 L z h_1 := by rw [eM_1]; exact P.sc (f := 0) (v := 1) (by decide) (eh_1.trans (by simp [cMod, su, r.2.2.1.1, r.2.2.1.2.1, r.2.2.1.2.2]))
    have r_1 : RS S M_1 := by rw [eM_1]; exact r.der (by decide)
    refine wp_aload_n dX11_pace_20 rfl ?_
    refine wp_get fkX11_88 dX11_pace_21 (P_1.s0 r_1) rfl ?_
    rw [show M_1 0 0 0 = 1 by rw [eM_1]; exact su_s]
    refine wp_if_gt 35 dX11_pace_24 (by decide) ⟨by omega, by omega⟩ (fun c_24 => ?_) (fun c_24 => ?_)
    · refine wp_dconst0 dX11_pace_35 ?_
      refine wp_dret dX11_pace_36 rfl ?_
      exact ⟨M_1, Or.inr ⟨(fun q => by rw [decide_eq_true (show 0 ≤ d ∧ d ≤ 9999 by omega)] at c_9; exact absurd c_9 (by decide)), ⟨Nat.le_refl _, by omega, P_1, r_1, by rw [eM_1]; exact su_s, fun f h0 => by rw [eM_1, su_f h0], FA.rf.up eh_1 (by omega)⟩, rfl⟩⟩
    · exact absurd c_24 (by decide)
  · have q_9 := bI_p c_9
    obtain ⟨d9, rfl⟩ : ∃ d9 : Nat, d = (d9 : Int) := ⟨d.toNat, by omega⟩
    refine wp_iconst dX11_pace_12 ?_
    refine wp_goto 17 dX11_pace_13 (by decide) ?_
    refine wp_put fkX11_88 dX11_pace_17 (P.s0 r) rfl rfl (Nat.le_of_ble_eq_true rfl) ?_
    obtain ⟨h_1, eh_1⟩ : ∃ hh9 : AH, hh9 = hup h (cB G + 169) (eO 11 [JV 0, .ref (cB G + 170), .ref (cB G + 171), .ref (cB G + 172), .ref (cB G + 177), .ref (cB G + 178), JV (S 13 0 0), .ref (cB G + 179), .ref (cB G + 180), .ref (cB G + 181), .ref (cB G + 182), .ref (cB G + 183), .ref (cB G + 208), .ref (cB G + 209), JV (S 14 0 0), .ref (cB G + 212), JV (S 15 0 0), JV (M 17 0 0), .ref (cB G + 253), .ref (cB G + 254), .ref (cB G + 257), .ref (cB G + 260), .ref (cB G + 261), .ref (cB G + 264), JV (M 24 0 0), JV (M 25 0 0), JV (M 26 0 0), .ref (cB G + 265), JV (M 28 0 0), .ref (cB G + 270), .ref (cB G + 273), .ref (cB G + 274), .ref (cB G + 275), .ref (cB G + 276), .long z]) := ⟨_, rfl⟩
    refine WP.heq eh_1 ?_
    obtain ⟨M_1, eM_1⟩ : ∃ ss9 : ST, ss9 = su M 0 0 0 0 := ⟨_, rfl⟩
    have P_1 : MP G (N) M_1 L z h_1 := by rw [eM_1]; exact P.sc (f := 0) (v := 0) (by decide) (eh_1.trans (by simp [cMod, su, r.2.2.1.1, r.2.2.1.2.1, r.2.2.1.2.2]))
    have r_1 : RS S M_1 := by rw [eM_1]; exact r.der (by decide)
    refine wp_aload_n dX11_pace_20 rfl ?_
    refine wp_get fkX11_88 dX11_pace_21 (P_1.s0 r_1) rfl ?_
    rw [show M_1 0 0 0 = 0 by rw [eM_1]; exact su_s]
    refine wp_if_gt 35 dX11_pace_24 (by decide) ⟨by omega, by omega⟩ (fun c_24 => ?_) (fun c_24 => ?_)
    · exact absurd c_24 (by decide)
    · refine wp_aload_n dX11_pace_27 rfl ?_
      refine wp_iload_n dX11_pace_28 rfl ?_
      refine wp_v1p (m_plannedNow (N := N) P_1 r_1 w (km.of (M' := M_1) (fun f hf => by rw [eM_1, su_f ((show ∀ x ∈ mKP, x ≠ 0 by decide) f hf)])) kc (dl := (d9 : Int)) rfl (by omega) (km.of (M' := M_1) (fun f hf => by rw [eM_1, su_f ((show ∀ x ∈ mKP, x ≠ 0 by decide) f hf)])).hE) cvX11_263 dX11_pace_29 ⟨Nat.le_of_ble_eq_true rfl, Nat.le_of_ble_eq_true rfl⟩ (Nat.le_of_ble_eq_true rfl) (P_1.s0 r_1) rfl rfl ?_
      have pr := planF_r (S := S) (kw := K.2.2.2.2.2.1) (kr := K.2.2.2.2.2.2.2) kc.1 (d9 : Int) (S 13 0 0).toNat 0 (by omega)
      refine wp_if_ne 37 dX11_pace_32 (by decide) ⟨by omega, by omega⟩ (fun c_32 => ?_) (fun c_32 => ?_)
      · refine wp_aload_n dX11_pace_37 rfl ?_
        refine wp_v0p (m_earnedNow (N := N) P_1 r_1 w (km.of (M' := M_1) (fun f hf => by rw [eM_1, su_f ((show ∀ x ∈ mKP, x ≠ 0 by decide) f hf)])) kc) cvX11_266 dX11_pace_38 ⟨Nat.le_of_ble_eq_true rfl, Nat.le_of_ble_eq_true rfl⟩ (Nat.le_of_ble_eq_true rfl) (P_1.s0 r_1) rfl rfl ?_
        refine wp_i2d dX11_pace_41 ?_
        refine wp_aload_n dX11_pace_42 rfl ?_
        refine wp_iload_n dX11_pace_43 rfl ?_
        refine wp_v1p (m_plannedNow (N := N) P_1 r_1 w (km.of (M' := M_1) (fun f hf => by rw [eM_1, su_f ((show ∀ x ∈ mKP, x ≠ 0 by decide) f hf)])) kc (dl := (d9 : Int)) rfl (by omega) (km.of (M' := M_1) (fun f hf => by rw [eM_1, su_f ((show ∀ x ∈ mKP, x ≠ 0 by decide) f hf)])).hE) cvX11_263 dX11_pace_44 ⟨Nat.le_of_ble_eq_true rfl, Nat.le_of_ble_eq_true rfl⟩ (Nat.le_of_ble_eq_true rfl) (P_1.s0 r_1) rfl rfl ?_
        refine wp_i2d dX11_pace_47 ?_
        refine wp_ddiv dX11_pace_48 (n64_div (fun z => c_32 ((J_eq ⟨by omega, by omega⟩ ⟨by omega, by omega⟩).mp z))) ?_
        refine wp_dret dX11_pace_49 rfl ?_
        exact ⟨M_1, Or.inl ⟨by omega, ⟨Nat.le_refl _, by omega, P_1, r_1, by rw [eM_1]; exact su_s, fun f h0 => by rw [eM_1, su_f h0], FA.rf.up eh_1 (by omega)⟩, congrArg (fun x => some (Value.double x)) (by unfold paceF; rw [if_neg c_32])⟩⟩
      · refine wp_dconst0 dX11_pace_35 ?_
        refine wp_dret dX11_pace_36 rfl ?_
        exact ⟨M_1, Or.inl ⟨by omega, ⟨Nat.le_refl _, by omega, P_1, r_1, by rw [eM_1]; exact su_s, fun f h0 => by rw [eM_1, su_f h0], FA.rf.up eh_1 (by omega)⟩, congrArg (fun x => some (Value.double x)) (by unfold paceF; rw [if_pos c_32])⟩⟩

/-- kept, as far as task n -/
def KD1 (S M : ST) (n : Nat) : Prop := ∀ t : Nat, t < n → M 29 0 t = M 22 0 t ∧ M 29 1 t = M 22 1 t ∧ M 30 t 0 = S 5 t 0 * wsum (fun c => S 12 t c * S 4 c 0) 4
def KD2 (S M : ST) (n : Nat) : Prop := ∀ c : Nat, c < n → M 31 c 0 = S 0 c 0 ∧ M 32 c 0 = S 1 c 0 ∧ ∀ k : Nat, k < 12 → M 33 c k = M 3 c k
theorem lm_keep1 {Q : PQ} {X : PX} {k9 n9 : Nat} {N0 : Nat} {h0 : AH} {M0 : ST} (w : WF S) : ∀ (m : Nat) (t : Nat) (M : ST) (h : AH), ((S 13 0 0).toNat - t = m) → ((t : Int) ≤ S 13 0 0) → (MP G N M L z h) → (RS S M) → (KD1 S M t) → (∀ f, f ≠ 29 → f ≠ 30 → M f = M0 f) → (FA G N0 h0 h) → (∀ (M' : ST) (h' : AH), MP G N M' L z h' → RS S M' → KD1 S M' (S 13 0 0).toNat → (∀ f, f ≠ 29 → f ≠ 30 → M' f = M0 f) → FA G N0 h0 h' → WP G mX11_keep Q X k9 n9 h' N 76 [some (.ref (cB G + 169)), some (JV (S 13 0 0))] []) → WP G mX11_keep Q X k9 n9 h N 19 [some (.ref (cB G + 169)), some (JV (t : Int))] [] := by
  intro m
  induction m with
  | zero =>
    intro t M h hm ht P r kd kf fa kk
    have wT := w.nT
    have et : S 13 0 0 = (t : Int) := by omega
    refine wp_iload_n dX11_keep_19 rfl ?_
    refine wp_aload_n dX11_keep_20 rfl ?_
    refine wp_get fkX11_96 dX11_keep_21 (P.s0 r) rfl ?_
    refine wp_icmp_ge 76 dX11_keep_24 (by decide) ⟨by omega, by omega⟩ ⟨by omega, by omega⟩ (fun c_24 => ?_) (fun c_24 => ?_)
    · rw [← et]
      exact kk M h P r (by rw [show (S 13 0 0).toNat = t by omega]; exact kd) kf fa
    · exact absurd c_24 (by omega)
  | succ m ih =>
    intro t M h hm ht P r kd kf fa kk
    have wT := w.nT
    refine wp_iload_n dX11_keep_19 rfl ?_
    refine wp_aload_n dX11_keep_20 rfl ?_
    refine wp_get fkX11_96 dX11_keep_21 (P.s0 r) rfl ?_
    refine wp_icmp_ge 76 dX11_keep_24 (by decide) ⟨by omega, by omega⟩ ⟨by omega, by omega⟩ (fun c_24 => ?_) (fun c_24 => ?_)
    · exact absurd c_24 (by omega)
    · refine wp_aload_n dX11_keep_27 rfl ?_
      refine wp_get fkX11_73 dX11_keep_28 (P.s0 r) rfl ?_
      refine wp_iconst dX11_keep_31 ?_
      refine wp_aaload dX11_keep_32 P.q29 rfl rfl (by omega) (by omega) (by omega) (if_pos (by omega)) ?_
      change WP G mX11_keep _ _ _ _ h N 33 [some (.ref (cB G + 169)), some (JV (t : Int))] [.ref (cB G + 271 + 0)]
      refine wp_iload_n dX11_keep_33 rfl ?_
      refine wp_aload_n dX11_keep_34 rfl ?_
      refine wp_get fkX11_64 dX11_keep_35 (P.s0 r) rfl ?_
      refine wp_iconst dX11_keep_38 ?_
      refine wp_aaload dX11_keep_39 P.q22 rfl rfl (by omega) (by omega) (by omega) (if_pos (by omega)) ?_
      change WP G mX11_keep _ _ _ _ h N 40 [some (.ref (cB G + 169)), some (JV (t : Int))] [.ref (cB G + 262 + 0), JV (t : Int), .ref (cB G + 271 + 0)]
      refine wp_iload_n dX11_keep_40 rfl ?_
      refine wp_iaload dX11_keep_41 (P.r22 (i := 0) (by omega)) (by omega) (by omega) (by omega) ?_
      change WP G mX11_keep _ _ _ _ h N 42 [some (.ref (cB G + 169)), some (JV (t : Int))] [JV (M 22 0 t), JV (t : Int), .ref (cB G + 271 + 0)]
      refine wp_iastore dX11_keep_42 (P.r29 (i := 0) (by omega)) (by omega) (by omega) (by omega) ?_
      obtain ⟨h_1, eh_1⟩ : ∃ hh9 : AH, hh9 = hup h (cB G + 271 + 0) (eI G 24 (fup (fun j9 => M 29 0 j9) t (M 22 0 t))) := ⟨_, rfl⟩
      refine WP.heq eh_1 ?_
      obtain ⟨M_1, eM_1⟩ : ∃ ss9 : ST, ss9 = su M 29 0 t (M 22 0 t) := ⟨_, rfl⟩
      have P_1 : MP G (N) M_1 L z h_1 := by rw [eM_1]; exact P.u2 (q := (29, 270, 2, 24)) (i := 0) (j := t) (v := M 22 0 t) (by decide) (show 0 < 2 by omega) eh_1
      have r_1 : RS S M_1 := by rw [eM_1]; exact r.der (by decide)
      refine wp_aload_n dX11_keep_43 rfl ?_
      refine wp_get fkX11_73 dX11_keep_44 (P_1.s0 r_1) rfl ?_
      refine wp_iconst dX11_keep_47 ?_
      refine wp_aaload dX11_keep_48 P_1.q29 rfl rfl (by omega) (by omega) (by omega) (if_pos (by omega)) ?_
      change WP G mX11_keep _ _ _ _ h_1 N 49 [some (.ref (cB G + 169)), some (JV (t : Int))] [.ref (cB G + 271 + 1)]
      refine wp_iload_n dX11_keep_49 rfl ?_
      refine wp_aload_n dX11_keep_50 rfl ?_
      refine wp_get fkX11_64 dX11_keep_51 (P_1.s0 r_1) rfl ?_
      refine wp_iconst dX11_keep_54 ?_
      refine wp_aaload dX11_keep_55 P_1.q22 rfl rfl (by omega) (by omega) (by omega) (if_pos (by omega)) ?_
      change WP G mX11_keep _ _ _ _ h_1 N 56 [some (.ref (cB G + 169)), some (JV (t : Int))] [.ref (cB G + 262 + 1), JV (t : Int), .ref (cB G + 271 + 1)]
      refine wp_iload_n dX11_keep_56 rfl ?_
      refine wp_iaload dX11_keep_57 (P_1.r22 (i := 1) (by omega)) (by omega) (by omega) (by omega) ?_
      change WP G mX11_keep _ _ _ _ h_1 N 58 [some (.ref (cB G + 169)), some (JV (t : Int))] [JV (M_1 22 1 t), JV (t : Int), .ref (cB G + 271 + 1)]
      refine wp_iastore dX11_keep_58 (P_1.r29 (i := 1) (by omega)) (by omega) (by omega) (by omega) ?_
      obtain ⟨h_2, eh_2⟩ : ∃ hh9 : AH, hh9 = hup h_1 (cB G + 271 + 1) (eI G 24 (fup (fun j9 => M_1 29 1 j9) t (M_1 22 1 t))) := ⟨_, rfl⟩
      refine WP.heq eh_2 ?_
      obtain ⟨M_2, eM_2⟩ : ∃ ss9 : ST, ss9 = su M_1 29 1 t (M_1 22 1 t) := ⟨_, rfl⟩
      have P_2 : MP G (N) M_2 L z h_2 := by rw [eM_2]; exact P_1.u2 (q := (29, 270, 2, 24)) (i := 1) (j := t) (v := M_1 22 1 t) (by decide) (show 1 < 2 by omega) eh_2
      have r_2 : RS S M_2 := by rw [eM_2]; exact r_1.der (by decide)
      refine wp_aload_n dX11_keep_59 rfl ?_
      refine wp_get fkX11_76 dX11_keep_60 (P_2.s0 r_2) rfl ?_
      refine wp_iload_n dX11_keep_63 rfl ?_
      refine wp_aload_n dX11_keep_64 rfl ?_
      refine wp_iload_n dX11_keep_65 rfl ?_
      refine wp_v1p (m_worthOf (N := N) P_2 r_2 w (t := t) (by omega)) cvX11_251 dX11_keep_66 ⟨Nat.le_of_ble_eq_true rfl, Nat.le_of_ble_eq_true rfl⟩ (Nat.le_of_ble_eq_true rfl) (P_2.s0 r_2) rfl rfl ?_
      refine wp_iastore dX11_keep_69 P_2.c30 (by omega) (by omega) (by omega) ?_
      obtain ⟨h_3, eh_3⟩ : ∃ hh9 : AH, hh9 = hup h_2 (cB G + 273) (eI G 24 (fup (fun i => M_2 30 i 0) t (S 5 t 0 * wsum (fun c => S 12 t c * S 4 c 0) 4))) := ⟨_, rfl⟩
      refine WP.heq eh_3 ?_
      obtain ⟨M_3, eM_3⟩ : ∃ ss9 : ST, ss9 = su M_2 30 t 0 (S 5 t 0 * wsum (fun c => S 12 t c * S 4 c 0) 4) := ⟨_, rfl⟩
      have P_3 : MP G (N) M_3 L z h_3 := by rw [eM_3]; exact P_2.u1 (q := (30, 273, 24, false)) (i := t) (v := S 5 t 0 * wsum (fun c => S 12 t c * S 4 c 0) 4) (by decide) eh_3
      have r_3 : RS S M_3 := by rw [eM_3]; exact r_2.der (by decide)
      refine wp_iinc dX11_keep_70 rfl (Nat.le_of_ble_eq_true rfl) rfl ?_
      change WP G mX11_keep _ _ _ _ h_3 N 73 [some (.ref (cB G + 169)), some (JV ((t : Int) + 1))] []
      refine wp_goto 19 dX11_keep_73 (by decide) ?_
      refine ih (t + 1) M_3 h_3 (by omega) (by omega) P_3 r_3 (fun x hx => ?_) (fun f h1 h2 => by rw [eM_3, su_f h2, eM_2, su_f h1, eM_1, su_f h1]; exact kf f h1 h2) (((fa.up eh_1 (by omega)).up eh_2 (by omega)).up eh_3 (by omega)) kk
      have e22 : M_3 22 = M 22 := by rw [eM_3, su_f (by decide), eM_2, su_f (by decide), eM_1, su_f (by decide)]
      have e0 : M_3 29 0 = fup (M 29 0) t (M 22 0 t) := by rw [eM_3, su_f (by decide), eM_2, su_rown (by decide), eM_1, su_row]
      have e1 : M_3 29 1 = fup (M 29 1) t (M 22 1 t) := by rw [eM_3, su_f (by decide), eM_2, su_row, eM_1, su_rown (by decide), su_f (by decide)]
      have e3 : ∀ y, y ≠ t → M_3 30 y 0 = M 30 y 0 := fun y hy => by rw [eM_3, su_i hy, eM_2, su_f (by decide), eM_1, su_f (by decide)]
      have e4 : M_3 30 t 0 = S 5 t 0 * wsum (fun c => S 12 t c * S 4 c 0) 4 := by rw [eM_3, su_s]
      rw [e22, e0, e1]
      by_cases hxt : x = t
      · rw [hxt, fupe, fupe]
        exact ⟨rfl, rfl, e4⟩
      · rw [fupn hxt, fupn hxt, e3 x hxt]
        exact kd x (by omega)

theorem lm_keep2 {Q : PQ} {X : PX} {k9 n9 : Nat} {N0 : Nat} {h0 : AH} {M0 : ST} (w : WF S) : ∀ (m : Nat) (c : Nat) (M : ST) (h : AH), (4 - c = m) → (c ≤ 4) → (MP G N M L z h) → (RS S M) → (KD2 S M c) → (∀ f, f ≠ 31 → f ≠ 32 → f ≠ 33 → M f = M0 f) → (FA G N0 h0 h) → (∀ (M' : ST) (h' : AH), MP G N M' L z h' → RS S M' → KD2 S M' 4 → (∀ f, f ≠ 31 → f ≠ 32 → f ≠ 33 → M' f = M0 f) → FA G N0 h0 h' → WP G mX11_keep Q X k9 n9 h' N 132 [some (.ref (cB G + 169)), some (JV 4)] []) → WP G mX11_keep Q X k9 n9 h N 78 [some (.ref (cB G + 169)), some (JV (c : Int))] [] := by
  intro m
  induction m with
  | zero =>
    intro c M h hm hc P r kd kf fa kk
    have ec : c = 4 := by omega
    subst ec
    refine wp_iload_n dX11_keep_78 rfl ?_
    refine wp_iconst dX11_keep_79 ?_
    refine wp_icmp_ge 132 dX11_keep_80 (by decide) ⟨by omega, by omega⟩ ⟨by omega, by omega⟩ (fun c_80 => ?_) (fun c_80 => ?_)
    · exact kk M h P r kd kf fa
    · exact absurd c_80 (by omega)
  | succ m ih =>
    intro c M h hm hc P r kd kf fa kk
    refine wp_iload_n dX11_keep_78 rfl ?_
    refine wp_iconst dX11_keep_79 ?_
    refine wp_icmp_ge 132 dX11_keep_80 (by decide) ⟨by omega, by omega⟩ ⟨by omega, by omega⟩ (fun c_80 => ?_) (fun c_80 => ?_)
    · exact absurd c_80 (by omega)
    · refine wp_aload_n dX11_keep_83 rfl ?_
      refine wp_get fkX11_79 dX11_keep_84 (P.s0 r) rfl ?_
      refine wp_iload_n dX11_keep_87 rfl ?_
      refine wp_aload_n dX11_keep_88 rfl ?_
      refine wp_get fkX11_7 dX11_keep_89 (P.s0 r) rfl ?_
      refine wp_iload_n dX11_keep_92 rfl ?_
      refine wp_iaload dX11_keep_93 (P.s1 r) (by omega) (by omega) (by omega) ?_
      change WP G mX11_keep _ _ _ _ h N 94 [some (.ref (cB G + 169)), some (JV (c : Int))] [JV (S 0 c 0), JV (c : Int), .ref (cB G + 274)]
      refine wp_iastore dX11_keep_94 P.c31 (by omega) (by omega) (by omega) ?_
      obtain ⟨h_1, eh_1⟩ : ∃ hh9 : AH, hh9 = hup h (cB G + 274) (eI G 4 (fup (fun i => M 31 i 0) c (S 0 c 0))) := ⟨_, rfl⟩
      refine WP.heq eh_1 ?_
      obtain ⟨M_1, eM_1⟩ : ∃ ss9 : ST, ss9 = su M 31 c 0 (S 0 c 0) := ⟨_, rfl⟩
      have P_1 : MP G (N) M_1 L z h_1 := by rw [eM_1]; exact P.u1 (q := (31, 274, 4, false)) (i := c) (v := S 0 c 0) (by decide) eh_1
      have r_1 : RS S M_1 := by rw [eM_1]; exact r.der (by decide)
      refine wp_aload_n dX11_keep_95 rfl ?_
      refine wp_get fkX11_82 dX11_keep_96 (P_1.s0 r_1) rfl ?_
      refine wp_iload_n dX11_keep_99 rfl ?_
      refine wp_aload_n dX11_keep_100 rfl ?_
      refine wp_get fkX11_13 dX11_keep_101 (P_1.s0 r_1) rfl ?_
      refine wp_iload_n dX11_keep_104 rfl ?_
      refine wp_iaload dX11_keep_105 (P_1.s2 r_1) (by omega) (by omega) (by omega) ?_
      change WP G mX11_keep _ _ _ _ h_1 N 106 [some (.ref (cB G + 169)), some (JV (c : Int))] [JV (S 1 c 0), JV (c : Int), .ref (cB G + 275)]
      refine wp_iastore dX11_keep_106 P_1.c32 (by omega) (by omega) (by omega) ?_
      obtain ⟨h_2, eh_2⟩ : ∃ hh9 : AH, hh9 = hup h_1 (cB G + 275) (eI G 4 (fup (fun i => M_1 32 i 0) c (S 1 c 0))) := ⟨_, rfl⟩
      refine WP.heq eh_2 ?_
      obtain ⟨M_2, eM_2⟩ : ∃ ss9 : ST, ss9 = su M_1 32 c 0 (S 1 c 0) := ⟨_, rfl⟩
      have P_2 : MP G (N) M_2 L z h_2 := by rw [eM_2]; exact P_1.u1 (q := (32, 275, 4, false)) (i := c) (v := S 1 c 0) (by decide) eh_2
      have r_2 : RS S M_2 := by rw [eM_2]; exact r_1.der (by decide)
      refine wp_aload_n dX11_keep_107 rfl ?_
      refine wp_get fkX11_18 dX11_keep_108 (P_2.s0 r_2) rfl ?_
      refine wp_iload_n dX11_keep_111 rfl ?_
      refine wp_aaload dX11_keep_112 P_2.q3 rfl rfl (by omega) (by omega) (by omega) (if_pos (by omega)) ?_
      change WP G mX11_keep _ _ _ _ h_2 N 113 [some (.ref (cB G + 169)), some (JV (c : Int))] [.ref (cB G + 173 + c)]
      refine wp_iconst dX11_keep_113 ?_
      refine wp_aload_n dX11_keep_114 rfl ?_
      refine wp_get fkX11_85 dX11_keep_115 (P_2.s0 r_2) rfl ?_
      refine wp_iload_n dX11_keep_118 rfl ?_
      refine wp_aaload dX11_keep_119 P_2.q33 rfl rfl (by omega) (by omega) (by omega) (if_pos (by omega)) ?_
      change WP G mX11_keep _ _ _ _ h_2 N 120 [some (.ref (cB G + 169)), some (JV (c : Int))] [.ref (cB G + 277 + c), JV 0, .ref (cB G + 173 + c)]
      refine wp_iconst dX11_keep_120 ?_
      refine wp_bipush dX11_keep_121 rfl ?_
      refine wp_copyI (n0 := 12) (n1 := 12) (f := fun j => M_2 3 c j) (g := fun j => M_2 33 c j) dX11_keep_123 acX11_207 w_arr (Nat.le_of_ble_eq_true rfl) (Nat.le_of_ble_eq_true rfl) 0 .int rfl (Or.inl rfl) (P_2.r3 (i := c) (by omega)) (P_2.r33 (i := c) (by omega)) (by decide) (by decide) (by decide) (by decide) (by decide) (by decide) (by decide) ?_
      obtain ⟨h_c, eh_c⟩ : ∃ hh9 : AH, hh9 = hup h_2 (cB G + (276 + 1) + c) (eI G 12 (va_cpy (fun j => M_2 3 c j) (fun j => M_2 33 c j) 0 0 12)) := ⟨_, rfl⟩
      refine WP.heq eh_c ?_
      obtain ⟨M_c, eM_c⟩ : ∃ ss9 : ST, ss9 = sr M_2 33 c (va_cpy (fun j => M_2 3 c j) (fun j => M_2 33 c j) 0 0 12) := ⟨_, rfl⟩
      have P_c : MP G N M_c L z h_c := by rw [eM_c]; exact P_2.row (q := (33, 276, 4, 12)) (by decide) (show c < 4 by omega) eh_c
      have r_c : RS S M_c := r_2.of (fun f hf => by rw [eM_c]; exact sr_f ((show ∀ x ∈ mBS, x ≠ 33 by decide) f hf))
      change WP G mX11_keep _ _ _ _ h_c N 126 [some (.ref (cB G + 169)), some (JV (c : Int))] []
      refine wp_iinc dX11_keep_126 rfl (Nat.le_of_ble_eq_true rfl) rfl ?_
      change WP G mX11_keep _ _ _ _ h_c N 129 [some (.ref (cB G + 169)), some (JV ((c : Int) + 1))] []
      refine wp_goto 78 dX11_keep_129 (by decide) ?_
      refine ih (c + 1) M_c h_c (by omega) (by omega) P_c r_c (fun x hx => ?_) (fun f h1 h2 h3 => by rw [eM_c, sr_f h3, eM_2, su_f h2, eM_1, su_f h1]; exact kf f h1 h2 h3) (((fa.up eh_1 (by omega)).up eh_2 (by omega)).up eh_c (by omega)) kk
      have e3 : M_c 3 = M 3 := by rw [eM_c, sr_f (by decide), eM_2, su_f (by decide), eM_1, su_f (by decide)]
      have e31 : M_c 31 = su M 31 c 0 (S 0 c 0) 31 := by rw [eM_c, sr_f (by decide), eM_2, su_f (by decide), eM_1]
      have e32 : ∀ y, M_c 32 y 0 = su M 32 c 0 (S 1 c 0) 32 y 0 := fun y => by
        by_cases hy : y = c
        · rw [hy, su_s, eM_c, sr_f (by decide), eM_2, su_s]
        · rw [su_i hy, eM_c, sr_f (by decide), eM_2, su_i hy, eM_1, su_f (by decide)]
      rw [e3, e31, e32]
      by_cases hxt : x = c
      · rw [hxt, su_s, su_s]
        refine ⟨rfl, rfl, fun k hk => ?_⟩
        rw [eM_c, sr_s]
        unfold va_cpy
        rw [if_pos (by omega), show 0 + (k - 0) = k by omega, eM_2, su_f (by decide), eM_1, su_f (by decide)]
      · rw [su_i hxt, su_i hxt, show M_c 33 x = M 33 x by rw [eM_c, sr_i hxt, eM_2, su_f (by decide), eM_1, su_f (by decide)]]
        exact kd x (by omega)

theorem m_keep (P : MP G N M L z h) (r : RS S M) (w : WF S) (tp : TOP S) (hl : M 17 0 0 = 0 ∨ (M 17 0 0 = 1 ∧ LAID S M)) : CT G mX11_keep [.ref (cB G + 169)] h N 2 48 (fun r h' N' => ∃ M', (N ≤ N' ∧ N' ≤ N + 30 ∧ MP G N' M' L z h' ∧ RS S M' ∧ M' 0 0 0 = 0 ∧ M' 17 0 0 = 1 ∧ LAID S M' ∧ M' 28 0 0 = S 13 0 0 ∧ KD1 S M' (S 13 0 0).toNat ∧ KD2 S M' 4 ∧ FA G N h h') ∧ r = some (JV (M' 24 0 0))) := by
  have wT := w.nT
  have wL := w.nL
  have wR := w.rule
  have hN0 := P.nN
  refine CT_of (by decide +kernel) rfl (by simp [Value.category]) (Nat.le_of_ble_eq_true rfl) ?_
  change WP G mX11_keep _ noX _ _ h N 0 [some (.ref (cB G + 169)), none] []
  refine wp_aload_n dX11_keep_0 rfl ?_
  refine wp_iconst dX11_keep_1 ?_
  refine wp_put fkX11_88 dX11_keep_2 (P.s0 r) rfl rfl (Nat.le_of_ble_eq_true rfl) ?_
  obtain ⟨h_1, eh_1⟩ : ∃ hh9 : AH, hh9 = hup h (cB G + 169) (eO 11 [JV 0, .ref (cB G + 170), .ref (cB G + 171), .ref (cB G + 172), .ref (cB G + 177), .ref (cB G + 178), JV (S 13 0 0), .ref (cB G + 179), .ref (cB G + 180), .ref (cB G + 181), .ref (cB G + 182), .ref (cB G + 183), .ref (cB G + 208), .ref (cB G + 209), JV (S 14 0 0), .ref (cB G + 212), JV (S 15 0 0), JV (M 17 0 0), .ref (cB G + 253), .ref (cB G + 254), .ref (cB G + 257), .ref (cB G + 260), .ref (cB G + 261), .ref (cB G + 264), JV (M 24 0 0), JV (M 25 0 0), JV (M 26 0 0), .ref (cB G + 265), JV (M 28 0 0), .ref (cB G + 270), .ref (cB G + 273), .ref (cB G + 274), .ref (cB G + 275), .ref (cB G + 276), .long z]) := ⟨_, rfl⟩
  refine WP.heq eh_1 ?_
  obtain ⟨M_1, eM_1⟩ : ∃ ss9 : ST, ss9 = su M 0 0 0 0 := ⟨_, rfl⟩
  have P_1 : MP G (N) M_1 L z h_1 := by rw [eM_1]; exact P.sc (f := 0) (v := 0) (by decide) (eh_1.trans (by simp [cMod, su, r.2.2.1.1, r.2.2.1.2.1, r.2.2.1.2.2]))
  have r_1 : RS S M_1 := by rw [eM_1]; exact r.der (by decide)
  refine wp_aload_n dX11_keep_5 rfl ?_
  have hl1 : M_1 17 0 0 = 0 ∨ (M_1 17 0 0 = 1 ∧ LAID S M_1) := by rw [eM_1]; exact hl_thr hl
  refine wp_v0 0 0 (m_lay (N := N) P_1 r_1 w tp hl1) cvX11_220 dX11_keep_6 ⟨Nat.le_of_ble_eq_true rfl, Nat.le_of_ble_eq_true rfl⟩ (Nat.le_of_ble_eq_true rfl) (P_1.s0 r_1) rfl rfl (by omega) (by omega) (fun r9 h7 N7 hq => ?_)
  obtain ⟨rfl, hN7, hN7b, M7, P7, r7, e717, la7, m7, f7⟩ := hq
  change WP G mX11_keep _ _ _ _ h7 N7 9 [some (.ref (cB G + 169)), none] []
  have hN0 := P.nN
  have e70 : M7 0 0 0 = 0 := by rw [m7 0 mDV_0, eM_1]; exact su_s
  have fa7 : FA G N h h7 := (FA.rf.up eh_1 (by omega)).tr f7 (Nat.le_refl _)
  have m7' : ∀ f, (∀ g ∈ mDV, g ≠ f) → f ≠ 0 → M7 f = M f := fun f hf h0 => by rw [m7 f hf, eM_1, su_f h0]
  refine wp_aload_n dX11_keep_9 rfl ?_
  refine wp_aload_n dX11_keep_10 rfl ?_
  refine wp_get fkX11_96 dX11_keep_11 (P7.s0 r7) rfl ?_
  refine wp_put fkX11_248 dX11_keep_14 (P7.s0 r7) rfl rfl (Nat.le_of_ble_eq_true rfl) ?_
  obtain ⟨h_2, eh_2⟩ : ∃ hh9 : AH, hh9 = hup h7 (cB G + 169) (eO 11 [JV (M7 0 0 0), .ref (cB G + 170), .ref (cB G + 171), .ref (cB G + 172), .ref (cB G + 177), .ref (cB G + 178), JV (S 13 0 0), .ref (cB G + 179), .ref (cB G + 180), .ref (cB G + 181), .ref (cB G + 182), .ref (cB G + 183), .ref (cB G + 208), .ref (cB G + 209), JV (S 14 0 0), .ref (cB G + 212), JV (S 15 0 0), JV (M7 17 0 0), .ref (cB G + 253), .ref (cB G + 254), .ref (cB G + 257), .ref (cB G + 260), .ref (cB G + 261), .ref (cB G + 264), JV (M7 24 0 0), JV (M7 25 0 0), JV (M7 26 0 0), .ref (cB G + 265), JV (S 13 0 0), .ref (cB G + 270), .ref (cB G + 273), .ref (cB G + 274), .ref (cB G + 275), .ref (cB G + 276), .long z]) := ⟨_, rfl⟩
  refine WP.heq eh_2 ?_
  obtain ⟨M_2, eM_2⟩ : ∃ ss9 : ST, ss9 = su M7 28 0 0 (S 13 0 0) := ⟨_, rfl⟩
  have P_2 : MP G (N7) M_2 L z h_2 := by rw [eM_2]; exact P7.sc (f := 28) (v := S 13 0 0) (by decide) (eh_2.trans (by simp [cMod, su, r7.2.2.1.1, r7.2.2.1.2.1, r7.2.2.1.2.2]))
  have r_2 : RS S M_2 := by rw [eM_2]; exact r7.der (by decide)
  refine wp_iconst dX11_keep_17 ?_
  refine wp_istore_n dX11_keep_18 (Nat.le_of_ble_eq_true rfl) rfl ?_
  change WP G mX11_keep _ _ _ _ h_2 N7 19 [some (.ref (cB G + 169)), some (JV 0)] []
  refine lm_keep1 (M0 := M_2) (h0 := h) w _ 0 M_2 h_2 rfl (by have := w.nT; omega) P_2 r_2 (fun x hx => absurd hx (by omega)) (fun f _ _ => rfl) (fa7.up eh_2 (by omega)) (fun M2 h2 P2 r2 kd2 kf2 fa2 => ?_)
  change WP G mX11_keep _ _ _ _ h2 N7 76 [some (.ref (cB G + 169)), some (JV (S 13 0 0))] []
  refine wp_iconst dX11_keep_76 ?_
  refine wp_istore_n dX11_keep_77 (Nat.le_of_ble_eq_true rfl) rfl ?_
  change WP G mX11_keep _ _ _ _ h2 N7 78 [some (.ref (cB G + 169)), some (JV 0)] []
  refine lm_keep2 (M0 := M2) (h0 := h) w _ 0 M2 h2 rfl (by omega) P2 r2 (fun x hx => absurd hx (by omega)) (fun f _ _ _ => rfl) fa2 (fun M3 h3 P3 r3 kd3 kf3 fa3 => ?_)
  change WP G mX11_keep _ _ _ _ h3 N7 132 [some (.ref (cB G + 169)), some (JV 4)] []
  refine wp_aload_n dX11_keep_132 rfl ?_
  refine wp_get fkX11_150 dX11_keep_133 P3.c0 rfl ?_
  refine wp_iret dX11_keep_136 rfl ?_
  have kf : ∀ f, f ≠ 28 → f ≠ 29 → f ≠ 30 → f ≠ 31 → f ≠ 32 → f ≠ 33 → M3 f = M7 f := fun f a b c d e g => by rw [kf3 f d e g, kf2 f b c, eM_2, su_f a]
  refine ⟨M3, ⟨by omega, by omega, P3, r3, ?_, ?_, la7.of fun f hf => kf f (fun e => by subst e; exact absurd hf (by decide)) (fun e => by subst e; exact absurd hf (by decide)) (fun e => by subst e; exact absurd hf (by decide)) (fun e => by subst e; exact absurd hf (by decide)) (fun e => by subst e; exact absurd hf (by decide)) (fun e => by subst e; exact absurd hf (by decide)), ?_, ?_, kd3, fa3⟩, rfl⟩
  · rw [kf 0 (by decide) (by decide) (by decide) (by decide) (by decide) (by decide)]; exact e70
  · rw [kf 17 (by decide) (by decide) (by decide) (by decide) (by decide) (by decide)]; exact e717
  · rw [kf3 28 (by decide) (by decide) (by decide), kf2 28 (by decide) (by decide), eM_2]; exact su_s
  · unfold KD1; rw [kf3 29 (by decide) (by decide) (by decide), kf3 30 (by decide) (by decide) (by decide), kf3 22 (by decide) (by decide) (by decide)]; exact kd2

end Mpk

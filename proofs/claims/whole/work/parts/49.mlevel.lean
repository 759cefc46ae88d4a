/-! ===== the reference: LEVELLED, put together ===== -/
section Mw
variable {G : Ctx} {h : AH} {N : Nat} {S M : ST} {L : Nat → Nat} {z : Int64}
/-- the reference's levelling is the state s -/
def MLS (S M : ST) (s : LState) : Prop := (∀ x, x < 24 → M 22 0 x = s.1 x ∧ M 22 1 x = s.2.1 x) ∧ (∀ i, M 23 i 0 = s.2.2.2.1 i) ∧ M 24 0 0 = s.2.2.2.2.1 ∧ M 26 0 0 = s.2.2.2.2.2 ∧ ∀ c, c < 4 → ∀ d, d < 16000 → M 27 c d = ldg S s.1 s.2.1 s.2.2.1 c d
abbrev mLV : List Nat := [22, 23, 24, 26, 27]
theorem m_place (P : MP G N M L z h) (r : RS S M) (w : WF S) {s : LState} {t x y : Nat} (ml : MLS S M s) (ht : t < 24) (h0 : s.2.2.1 t = 0) (hx : x ≤ 5000) (hy : y ≤ 5000) (hct : 0 ≤ s.2.2.2.2.1 ∧ s.2.2.2.2.1 ≤ 23) (hld : 0 ≤ s.2.2.2.2.2 ∧ s.2.2.2.2.2 ≤ 5000) : CT G mX11_place [.ref (cB G + 169), JV (t : Int), JV (x : Int), JV (y : Int)] h N 0 0 (fun r h' N' => r = none ∧ N' = N ∧ ∃ M', MP G N M' L z h' ∧ RS S M' ∧ MLS S M' (putS s t (x : Int) (y : Int)) ∧ (∀ f, (∀ g ∈ mLV, g ≠ f) → M' f = M f) ∧ FRM G h h') := by
  refine CT_of (by decide +kernel) rfl (by simp [Value.category]) (Nat.le_of_ble_eq_true rfl) ?_
  change WP G mX11_place _ noX _ _ h N 0 [some (.ref (cB G + 169)), some (JV (t : Int)), some (JV (x : Int)), some (JV (y : Int))] []
  refine wp_aload_n dX11_place_0 rfl ?_
  refine wp_get fkX11_64 dX11_place_1 (P.s0 r) rfl ?_
  refine wp_iconst dX11_place_4 ?_
  refine wp_aaload dX11_place_5 P.q22 rfl rfl (by omega) (by omega) (by omega) (if_pos (by omega)) ?_
  change WP G mX11_place _ _ _ _ h N 6 [some (.ref (cB G + 169)), some (JV (t : Int)), some (JV (x : Int)), some (JV (y : Int))] [.ref (cB G + 262 + 0)]
  refine wp_iload_n dX11_place_6 rfl ?_
  refine wp_iload_n dX11_place_7 rfl ?_
  refine wp_iastore dX11_place_8 (P.r22 (i := 0) (by omega)) (by omega) (by omega) (by omega) ?_
  obtain ⟨h_1, eh_1⟩ : ∃ hh9 : AH, hh9 = hup h (cB G + 262 + 0) (eI G 24 (fup (fun j9 => M 22 0 j9) t (x : Int))) := ⟨_, rfl⟩
  refine WP.heq eh_1 ?_
  obtain ⟨M_1, eM_1⟩ : ∃ ss9 : ST, ss9 = su M 22 0 t (x : Int) := ⟨_, rfl⟩
  have P_1 : MP G (N) M_1 L z h_1 := by rw [eM_1]; exact P.u2 (q := (22, 261, 2, 24)) (i := 0) (j := t) (v := (x : Int)) (by decide) (show 0 < 2 by omega) eh_1
  have r_1 : RS S M_1 := by rw [eM_1]; exact r.der (by decide)
  refine wp_aload_n dX11_place_9 rfl ?_
  refine wp_get fkX11_64 dX11_place_10 (P_1.s0 r_1) rfl ?_
  refine wp_iconst dX11_place_13 ?_
  refine wp_aaload dX11_place_14 P_1.q22 rfl rfl (by omega) (by omega) (by omega) (if_pos (by omega)) ?_
  change WP G mX11_place _ _ _ _ h_1 N 15 [some (.ref (cB G + 169)), some (JV (t : Int)), some (JV (x : Int)), some (JV (y : Int))] [.ref (cB G + 262 + 1)]
  refine wp_iload_n dX11_place_15 rfl ?_
  refine wp_iload_n dX11_place_16 rfl ?_
  refine wp_iastore dX11_place_17 (P_1.r22 (i := 1) (by omega)) (by omega) (by omega) (by omega) ?_
  obtain ⟨h_2, eh_2⟩ : ∃ hh9 : AH, hh9 = hup h_1 (cB G + 262 + 1) (eI G 24 (fup (fun j9 => M_1 22 1 j9) t (y : Int))) := ⟨_, rfl⟩
  refine WP.heq eh_2 ?_
  obtain ⟨M_2, eM_2⟩ : ∃ ss9 : ST, ss9 = su M_1 22 1 t (y : Int) := ⟨_, rfl⟩
  have P_2 : MP G (N) M_2 L z h_2 := by rw [eM_2]; exact P_1.u2 (q := (22, 261, 2, 24)) (i := 1) (j := t) (v := (y : Int)) (by decide) (show 1 < 2 by omega) eh_2
  have r_2 : RS S M_2 := by rw [eM_2]; exact r_1.der (by decide)
  refine wp_aload_n dX11_place_18 rfl ?_
  refine wp_iload_n dX11_place_19 rfl ?_
  refine wp_iload_n dX11_place_20 rfl ?_
  refine wp_iload_n dX11_place_21 rfl ?_
  refine wp_v3 0 0 (m_use (N := N) P_2 r_2 w (t := t) (x := x) (y := y) ht hy hx) cvX11_146 dX11_place_22 ⟨Nat.le_of_ble_eq_true rfl, Nat.le_of_ble_eq_true rfl⟩ (Nat.le_of_ble_eq_true rfl) (P_2.s0 r_2) rfl rfl (by omega) (by omega) (fun r h3_0 N9 hq => ?_)
  obtain ⟨rfl, hN9, M3, P3, r3, m3, u3, f3⟩ := hq
  rw [hN9]
  have e24 : M3 24 0 0 = s.2.2.2.2.1 := by rw [m3 24 (by decide), eM_2, su_f (by decide), eM_1, su_f (by decide)]; exact ml.2.2.1
  have e26 : M3 26 0 0 = s.2.2.2.2.2 := by rw [m3 26 (by decide), eM_2, su_f (by decide), eM_1, su_f (by decide)]; exact ml.2.2.2.1
  change WP G mX11_place _ _ _ _ h3_0 N 25 [some (.ref (cB G + 169)), some (JV (t : Int)), some (JV (x : Int)), some (JV (y : Int))] []
  refine wp_aload_n dX11_place_25 rfl ?_
  refine wp_get fkX11_67 dX11_place_26 (P3.s0 r3) rfl ?_
  refine wp_aload_n dX11_place_29 rfl ?_
  refine wp_get fkX11_150 dX11_place_30 (P3.s0 r3) rfl ?_
  rw [e24]
  refine wp_iload_n dX11_place_33 rfl ?_
  refine wp_iastore dX11_place_34 P3.c23 (by omega) (by omega) (by omega) ?_
  obtain ⟨h_3, eh_3⟩ : ∃ hh9 : AH, hh9 = hup h3_0 (cB G + 264) (eI G 24 (fup (fun i => M3 23 i 0) s.2.2.2.2.1.toNat (t : Int))) := ⟨_, rfl⟩
  refine WP.heq eh_3 ?_
  obtain ⟨M_3, eM_3⟩ : ∃ ss9 : ST, ss9 = su M3 23 s.2.2.2.2.1.toNat 0 (t : Int) := ⟨_, rfl⟩
  have P_3 : MP G (N) M_3 L z h_3 := by rw [eM_3]; exact P3.u1 (q := (23, 264, 24, false)) (i := s.2.2.2.2.1.toNat) (v := (t : Int)) (by decide) eh_3
  have r_3 : RS S M_3 := by rw [eM_3]; exact r3.der (by decide)
  refine wp_aload_n dX11_place_35 rfl ?_
  refine wp_dup dX11_place_36 rfl ?_
  refine wp_get fkX11_150 dX11_place_37 (P_3.s0 r_3) rfl ?_
  rw [show M_3 24 0 0 = s.2.2.2.2.1 by rw [eM_3, su_f (by decide)]; exact e24]
  refine wp_iconst dX11_place_40 ?_
  refine wp_iadd dX11_place_41 ?_
  refine wp_put fkX11_150 dX11_place_42 (P_3.s0 r_3) rfl rfl (Nat.le_of_ble_eq_true rfl) ?_
  obtain ⟨h_4, eh_4⟩ : ∃ hh9 : AH, hh9 = hup h_3 (cB G + 169) (eO 11 [JV (M_3 0 0 0), .ref (cB G + 170), .ref (cB G + 171), .ref (cB G + 172), .ref (cB G + 177), .ref (cB G + 178), JV (S 13 0 0), .ref (cB G + 179), .ref (cB G + 180), .ref (cB G + 181), .ref (cB G + 182), .ref (cB G + 183), .ref (cB G + 208), .ref (cB G + 209), JV (S 14 0 0), .ref (cB G + 212), JV (S 15 0 0), JV (M_3 17 0 0), .ref (cB G + 253), .ref (cB G + 254), .ref (cB G + 257), .ref (cB G + 260), .ref (cB G + 261), .ref (cB G + 264), JV (s.2.2.2.2.1 + 1), JV (M_3 25 0 0), JV (M_3 26 0 0), .ref (cB G + 265), JV (M_3 28 0 0), .ref (cB G + 270), .ref (cB G + 273), .ref (cB G + 274), .ref (cB G + 275), .ref (cB G + 276), .long z]) := ⟨_, rfl⟩
  refine WP.heq eh_4 ?_
  obtain ⟨M_4, eM_4⟩ : ∃ ss9 : ST, ss9 = su M_3 24 0 0 (s.2.2.2.2.1 + 1) := ⟨_, rfl⟩
  have P_4 : MP G (N) M_4 L z h_4 := by rw [eM_4]; exact P_3.sc (f := 24) (v := s.2.2.2.2.1 + 1) (by decide) (eh_4.trans (by simp [cMod, su, r_3.2.2.1.1, r_3.2.2.1.2.1, r_3.2.2.1.2.2]))
  have r_4 : RS S M_4 := by rw [eM_4]; exact r_3.der (by decide)
  refine wp_aload_n dX11_place_45 rfl ?_
  refine wp_aload_n dX11_place_46 rfl ?_
  refine wp_get fkX11_153 dX11_place_47 (P_4.s0 r_4) rfl ?_
  rw [show M_4 26 0 0 = s.2.2.2.2.2 by rw [eM_4, su_f (by decide), eM_3, su_f (by decide)]; exact e26]
  refine wp_iload_n dX11_place_50 rfl ?_
  refine wp_max dX11_place_51 maX11_116 w_max (Nat.le_of_ble_eq_true rfl) (Nat.le_of_ble_eq_true rfl) ⟨by omega, by omega⟩ ⟨by omega, by omega⟩ ?_
  refine wp_put fkX11_153 dX11_place_54 (P_4.s0 r_4) rfl rfl (Nat.le_of_ble_eq_true rfl) ?_
  obtain ⟨h_5, eh_5⟩ : ∃ hh9 : AH, hh9 = hup h_4 (cB G + 169) (eO 11 [JV (M_4 0 0 0), .ref (cB G + 170), .ref (cB G + 171), .ref (cB G + 172), .ref (cB G + 177), .ref (cB G + 178), JV (S 13 0 0), .ref (cB G + 179), .ref (cB G + 180), .ref (cB G + 181), .ref (cB G + 182), .ref (cB G + 183), .ref (cB G + 208), .ref (cB G + 209), JV (S 14 0 0), .ref (cB G + 212), JV (S 15 0 0), JV (M_4 17 0 0), .ref (cB G + 253), .ref (cB G + 254), .ref (cB G + 257), .ref (cB G + 260), .ref (cB G + 261), .ref (cB G + 264), JV (M_4 24 0 0), JV (M_4 25 0 0), JV (max s.2.2.2.2.2 (y : Int)), .ref (cB G + 265), JV (M_4 28 0 0), .ref (cB G + 270), .ref (cB G + 273), .ref (cB G + 274), .ref (cB G + 275), .ref (cB G + 276), .long z]) := ⟨_, rfl⟩
  refine WP.heq eh_5 ?_
  obtain ⟨M_5, eM_5⟩ : ∃ ss9 : ST, ss9 = su M_4 26 0 0 (max s.2.2.2.2.2 (y : Int)) := ⟨_, rfl⟩
  have P_5 : MP G (N) M_5 L z h_5 := by rw [eM_5]; exact P_4.sc (f := 26) (v := max s.2.2.2.2.2 (y : Int)) (by decide) (eh_5.trans (by simp [cMod, su, r_4.2.2.1.1, r_4.2.2.1.2.1, r_4.2.2.1.2.2]))
  have r_5 : RS S M_5 := by rw [eM_5]; exact r_4.der (by decide)
  refine wp_vret dX11_place_57 rfl ?_
  have eo : ∀ f, (∀ g ∈ mLV, g ≠ f) → M_5 f = M f := fun f hf => by
    rw [eM_5, su_f (fun q => hf 26 (by decide) q.symm), eM_4, su_f (fun q => hf 24 (by decide) q.symm), eM_3, su_f (fun q => hf 23 (by decide) q.symm), m3 f (fun q => hf 27 (by decide) q.symm), eM_2, su_f (fun q => hf 22 (by decide) q.symm), eM_1, su_f (fun q => hf 22 (by decide) q.symm)]
  have e22 : M_5 22 = M_2 22 := by rw [eM_5, su_f (by decide), eM_4, su_f (by decide), eM_3, su_f (by decide), m3 22 (by decide)]
  refine ⟨rfl, rfl, M_5, P_5, r_5, ⟨fun v hv => ?_, fun i => ?_, ?_, ?_, fun c hc d hd => ?_⟩, eo, (((((FRM.rf.up eh_1 (by omega)).up eh_2 (by omega)).tr f3).up eh_3 (by omega)).up eh_4 (by omega)).up eh_5 (by omega)⟩
  · rw [e22]
    have a1 : M_2 22 0 = fup (M 22 0) t (x : Int) := by rw [eM_2, su_rown (by decide), eM_1]; exact su_row
    have a2 : M_2 22 1 = fup (M 22 1) t (y : Int) := by rw [eM_2, su_row, eM_1, su_rown (by decide)]
    rw [a1, a2]
    show fup (M 22 0) t (x : Int) v = fup s.1 t (x : Int) v ∧ fup (M 22 1) t (y : Int) v = fup s.2.1 t (y : Int) v
    have q := ml.1 v hv
    unfold fup
    split
    · exact ⟨rfl, rfl⟩
    · exact q
  · rw [eM_5, su_f (by decide), eM_4, su_f (by decide)]
    show M_3 23 i 0 = fup s.2.2.2.1 s.2.2.2.2.1.toNat (t : Int) i
    unfold fup
    by_cases hi : i = s.2.2.2.2.1.toNat
    · rw [if_pos hi, hi, eM_3]
      exact su_s
    · rw [if_neg hi, eM_3, su_i hi, m3 23 (by decide), eM_2, su_f (by decide), eM_1, su_f (by decide)]
      exact ml.2.1 i
  · rw [eM_5, su_f (by decide), eM_4]
    exact su_s
  · rw [eM_5]
    exact su_s
  · rw [eM_5, su_f (by decide), eM_4, su_f (by decide), eM_3, su_f (by decide), u3 c hc d, eM_2, su_f (by decide), eM_1, su_f (by decide), ml.2.2.2.2 c hc d hd]
    show _ = ldg S (fup s.1 t (x : Int)) (fup s.2.1 t (y : Int)) (fup s.2.2.1 t 1) c d
    rw [ldg_put ht h0]
    have e9 : (x ≤ d ∧ d < y ∧ wkS S (S 6 t 0).toNat d = true) ↔ ((x : Int) ≤ (d : Int) ∧ (d : Int) < min (y : Int) 5000 ∧ wkS S (S 6 t 0).toNat d = true) := ⟨fun q => ⟨by omega, by omega, q.2.2⟩, fun q => ⟨by omega, by omega, q.2.2⟩⟩
    by_cases hq : x ≤ d ∧ d < y ∧ wkS S (S 6 t 0).toNat d = true
    · rw [if_pos hq, if_pos (e9.mp hq)]
    · rw [if_neg hq, if_neg (fun q => hq (e9.mpr q))]
      omega

theorem l_lev0 {Q : PQ} {X : PX} {k9 n9 : Nat} {h0 : AH} {M0 : ST} (w : WF S) : ∀ (m : Nat) (i : Nat) (M : ST) (h : AH) (x4 : Option Value), (4 - i = m) → (i ≤ 4) → (MP G N M L z h) → (RS S M) → (∀ f, f ≠ 27 → M f = M0 f) → (∀ c, c < i → ∀ d, d < 16000 → M 27 c d = 0) → (FRM G h0 h) → (∀ (M' : ST) (h' : AH) (x3 x4 : Option Value), MP G N M' L z h' → RS S M' → (∀ f, f ≠ 27 → M' f = M0 f) → (∀ c, c < 4 → ∀ d, d < 16000 → M' 27 c d = 0) → FRM G h0 h' → WP G mX11_layLevelled Q X k9 n9 h' N 32 [some (.ref (cB G + 169)), some (.ref (cB G + 265)), some (JV 4), x3, x4] []) → WP G mX11_layLevelled Q X k9 n9 h N 10 [some (.ref (cB G + 169)), some (.ref (cB G + 265)), some (JV 4), some (JV (i : Int)), x4] [] := by
  intro m
  induction m with
  | zero =>
    intro i M h x4 hm hi P r hM hu fr kk
    refine wp_iload_n dX11_layLevelled_10 rfl ?_
    refine wp_iload_n dX11_layLevelled_11 rfl ?_
    refine wp_icmp_ge 32 dX11_layLevelled_12 (by decide) ⟨by omega, by omega⟩ ⟨by omega, by omega⟩ (fun c_12 => ?_) (fun c_12 => ?_)
    · exact kk M h _ _ P r hM (fun c hc => hu c (by omega)) fr
    · exact absurd c_12 (by omega)
  | succ m ih =>
    intro i M h x4 hm hi P r hM hu fr kk
    refine wp_iload_n dX11_layLevelled_10 rfl ?_
    refine wp_iload_n dX11_layLevelled_11 rfl ?_
    refine wp_icmp_ge 32 dX11_layLevelled_12 (by decide) ⟨by omega, by omega⟩ ⟨by omega, by omega⟩ (fun c_12 => ?_) (fun c_12 => ?_)
    · exact absurd c_12 (by omega)
    · refine wp_aload_n dX11_layLevelled_15 rfl ?_
      refine wp_iload_n dX11_layLevelled_16 rfl ?_
      refine wp_aaload dX11_layLevelled_17 P.q27 rfl rfl (by omega) (by omega) (by omega) (if_pos (by omega)) ?_
      change WP G mX11_layLevelled _ _ _ _ h N 18 [some (.ref (cB G + 169)), some (.ref (cB G + 265)), some (JV 4), some (JV (i : Int)), x4] [.ref (cB G + 266 + i)]
      refine wp_astore dX11_layLevelled_18 (Nat.le_of_ble_eq_true rfl) rfl ?_
      change WP G mX11_layLevelled _ _ _ _ h N 20 [some (.ref (cB G + 169)), some (.ref (cB G + 265)), some (JV 4), some (JV (i : Int)), some (.ref (cB G + 266 + i))] []
      refine wp_aload dX11_layLevelled_20 rfl ?_
      refine wp_iconst dX11_layLevelled_22 ?_
      refine wp_s2 k9 n9 (c_fill2 (N := N) (v := 0) (P.r27 (i := i) (by omega)) (by omega)) csX11_156 dX11_layLevelled_23 ⟨Nat.le_of_ble_eq_true rfl, Nat.le_of_ble_eq_true rfl⟩ (Nat.le_of_ble_eq_true rfl) (by omega) (by omega) (fun r9 h9_23 N9 hq9 => ?_)
      obtain ⟨rfl, eh9_23, hN9⟩ := hq9
      rw [hN9]
      obtain ⟨M1, eM1⟩ : ∃ M9 : ST, M9 = sr M 27 i (filF (M 27 i) 0 16000 (0)) := ⟨_, rfl⟩
      have P_M1 : MP G (N) M1 L z h9_23 := by rw [eM1]; exact P.row (q := (27, 265, 4, 16000)) (i := i) (by decide) (show i < 4 by omega) eh9_23
      have r_M1 : RS S M1 := by rw [eM1]; exact r.row (by decide)
      change WP G mX11_layLevelled _ _ _ _ h9_23 N 26 [some (.ref (cB G + 169)), some (.ref (cB G + 265)), some (JV 4), some (JV (i : Int)), some (.ref (cB G + 266 + i))] []
      refine wp_iinc dX11_layLevelled_26 rfl (Nat.le_of_ble_eq_true rfl) rfl ?_
      change WP G mX11_layLevelled _ _ _ _ h9_23 N 29 [some (.ref (cB G + 169)), some (.ref (cB G + 265)), some (JV 4), some (JV ((i : Int) + 1)), some (.ref (cB G + 266 + i))] []
      refine wp_goto 10 dX11_layLevelled_29 (by decide) ?_
      refine ih (i + 1) M1 h9_23 _ (by omega) (by omega) P_M1 r_M1 (fun f hf => by rw [eM1, sr_f hf]; exact hM f hf) (fun c hc d hd => ?_) (fr.up eh9_23 (by omega)) kk
      by_cases hci : c = i
      · rw [hci, eM1, sr_s]
        exact if_pos ⟨Nat.zero_le _, hd⟩
      · rw [eM1, sr_i hci]; exact hu c (by omega) d hd

theorem l_lev1 {Q : PQ} {X : PX} {k9 n9 : Nat} {h0 : AH} {M0 : ST} {b N0 : Nat} (w : WF S) (hbN : cB G + 283 ≤ b ∧ N0 ≤ b) (hbL : ∀ i, i < 40 → L i ≠ b) : ∀ (m : Nat) (i : Nat) (s : LState) (M : ST) (h : AH) (x3 x4 : Option Value), ((S 13 0 0).toNat - i = m) → ((i : Int) ≤ S 13 0 0) → (MP G N M L z h) → (RS S M) → (h b = some (eZ G 24 s.2.2.1)) → (MLS S M s) → (LV9 S s) → (∀ f, (∀ g ∈ mLV, g ≠ f) → M f = M0 f) → (FA G N0 h0 h) → (∀ x, i ≤ x → s.2.2.1 x = 0) → (∀ (M' : ST) (h' : AH) (x3 x4 : Option Value), MP G N M' L z h' → RS S M' → h' b = some (eZ G 24 (lvD S m i s).2.2.1) → MLS S M' (lvD S m i s) → LV9 S (lvD S m i s) → (∀ f, (∀ g ∈ mLV, g ≠ f) → M' f = M0 f) → FA G N0 h0 h' → ∀ x2, WP G mX11_layLevelled Q X k9 n9 h' N 120 [some (.ref (cB G + 169)), some (.ref b), x2, x3, x4] []) → WP G mX11_layLevelled Q X k9 n9 h N 69 [some (.ref (cB G + 169)), some (.ref b), some (JV (i : Int)), x3, x4] [] := by
  intro m
  induction m with
  | zero =>
    intro i s M h x3 x4 hm hi P r hb ml lv hM fa hz kk
    have wT := w.nT
    refine wp_iload_n dX11_layLevelled_69 rfl ?_
    refine wp_aload_n dX11_layLevelled_70 rfl ?_
    refine wp_get fkX11_96 dX11_layLevelled_71 (P.s0 r) rfl ?_
    refine wp_icmp_ge 120 dX11_layLevelled_74 (by decide) ⟨by omega, by omega⟩ ⟨by omega, by omega⟩ (fun c_74 => ?_) (fun c_74 => ?_)
    · exact kk M h _ _ P r hb ml lv hM fa _
    · exact absurd c_74 (by omega)
  | succ m ih =>
    intro i s M h x3 x4 hm hi P r hb ml lv hM fa hz kk
    have wT := w.nT
    refine wp_iload_n dX11_layLevelled_69 rfl ?_
    refine wp_aload_n dX11_layLevelled_70 rfl ?_
    refine wp_get fkX11_96 dX11_layLevelled_71 (P.s0 r) rfl ?_
    refine wp_icmp_ge 120 dX11_layLevelled_74 (by decide) ⟨by omega, by omega⟩ ⟨by omega, by omega⟩ (fun c_74 => ?_) (fun c_74 => ?_)
    · exact absurd c_74 (by omega)
    · have ht : i < 24 := by omega
      have wi := w.task ht
      have h0t := hz i (Nat.le_refl _)
      have hin : (i : Int) < S 13 0 0 := by omega
      have hct : 0 ≤ s.2.2.2.2.1 ∧ s.2.2.2.2.1 ≤ 23 := ⟨lv.2.2.2.1, by have := lv.lt w hin h0t; omega⟩
      have hldb := lv.2.2.2.2.2.2.1
      refine wp_aload_n dX11_layLevelled_77 rfl ?_
      refine wp_get fkX11_42 dX11_layLevelled_78 (P.s0 r) rfl ?_
      refine wp_iload_n dX11_layLevelled_81 rfl ?_
      refine wp_zaload dX11_layLevelled_82 (P.s12 r) (by omega) (by omega) (by omega) ?_
      change WP G mX11_layLevelled _ _ _ _ h N 83 [some (.ref (cB G + 169)), some (.ref b), some (JV (i : Int)), x3, x4] [JV (S 9 i 0)]
      refine wp_if_ne 89 dX11_layLevelled_83 (by decide) ⟨by omega, by omega⟩ (fun c_83 => ?_) (fun c_83 => ?_)
      · rw [lvD, if_neg c_83] at kk
        refine wp_aload_n dX11_layLevelled_89 rfl ?_
        refine wp_iload_n dX11_layLevelled_90 rfl ?_
        refine wp_iconst dX11_layLevelled_91 ?_
        refine wp_zastore dX11_layLevelled_92 hb (by omega) (by omega) (by omega) (Or.inr rfl) ?_
        obtain ⟨h_1, eh_1⟩ : ∃ hh9 : AH, hh9 = hup h b (eZ G 24 (fup s.2.2.1 i 1)) := ⟨_, rfl⟩
        refine WP.heq eh_1 ?_
        have c1_0 : h_1 b = some (eZ G 24 (fup s.2.2.1 i 1)) := by rw [eh_1]; exact hup_self _ _ _
        have PX_1 : MP G (N) M L z h_1 := P.loc (by omega) hbL eh_1
        refine wp_aload_n dX11_layLevelled_93 rfl ?_
        refine wp_iload_n dX11_layLevelled_94 rfl ?_
        refine wp_aload_n dX11_layLevelled_95 rfl ?_
        refine wp_get fkX11_46 dX11_layLevelled_96 (PX_1.s0 r) rfl ?_
        refine wp_iconst dX11_layLevelled_99 ?_
        refine wp_aaload dX11_layLevelled_100 PX_1.q13 rfl rfl (by omega) (by omega) (by omega) (if_pos (by omega)) ?_
        change WP G mX11_layLevelled _ _ _ _ h_1 N 101 [some (.ref (cB G + 169)), some (.ref b), some (JV (i : Int)), x3, x4] [.ref (cB G + 210 + 0), JV (i : Int), .ref (cB G + 169)]
        refine wp_iload_n dX11_layLevelled_101 rfl ?_
        refine wp_iaload dX11_layLevelled_102 (PX_1.s13a r) (by omega) (by omega) (by omega) ?_
        change WP G mX11_layLevelled _ _ _ _ h_1 N 103 [some (.ref (cB G + 169)), some (.ref b), some (JV (i : Int)), x3, x4] [JV (S 10 i 0), JV (i : Int), .ref (cB G + 169)]
        refine wp_aload_n dX11_layLevelled_103 rfl ?_
        refine wp_get fkX11_46 dX11_layLevelled_104 (PX_1.s0 r) rfl ?_
        refine wp_iconst dX11_layLevelled_107 ?_
        refine wp_aaload dX11_layLevelled_108 PX_1.q13 rfl rfl (by omega) (by omega) (by omega) (if_pos (by omega)) ?_
        change WP G mX11_layLevelled _ _ _ _ h_1 N 109 [some (.ref (cB G + 169)), some (.ref b), some (JV (i : Int)), x3, x4] [.ref (cB G + 210 + 1), JV (S 10 i 0), JV (i : Int), .ref (cB G + 169)]
        refine wp_iload_n dX11_layLevelled_109 rfl ?_
        refine wp_iaload dX11_layLevelled_110 (PX_1.s13b r) (by omega) (by omega) (by omega) ?_
        change WP G mX11_layLevelled _ _ _ _ h_1 N 111 [some (.ref (cB G + 169)), some (.ref b), some (JV (i : Int)), x3, x4] [JV (S 11 i 0), JV (S 10 i 0), JV (i : Int), .ref (cB G + 169)]
        obtain ⟨a9, ea⟩ : ∃ a9 : Nat, S 10 i 0 = (a9 : Int) := ⟨(S 10 i 0).toNat, by omega⟩
        obtain ⟨b9, eb⟩ : ∃ b9 : Nat, S 11 i 0 = (b9 : Int) := ⟨(S 11 i 0).toNat, by omega⟩
        rw [ea, eb]
        refine wp_v3 k9 n9 (m_place (N := N) (s := s) (t := i) (x := a9) (y := b9) PX_1 r w ml ht h0t (by omega) (by omega) hct (by omega)) cvX11_162 dX11_layLevelled_111 ⟨Nat.le_of_ble_eq_true rfl, Nat.le_of_ble_eq_true rfl⟩ (Nat.le_of_ble_eq_true rfl) (PX_1.s0 r) rfl rfl (by omega) (by omega) (fun r h2 N9 hq => ?_)
        obtain ⟨rfl, hN9, M2, P2, r2, ml2, m2, f2⟩ := hq
        rw [hN9]
        have hbx2 : h2 b = some (eZ G 24 (fup s.2.2.1 i 1)) := (f2 b (by omega)).trans c1_0
        change WP G mX11_layLevelled _ _ _ _ h2 N 114 [some (.ref (cB G + 169)), some (.ref b), some (JV (i : Int)), x3, x4] []
        refine wp_iinc dX11_layLevelled_114 rfl (Nat.le_of_ble_eq_true rfl) rfl ?_
        change WP G mX11_layLevelled _ _ _ _ h2 N 117 [some (.ref (cB G + 169)), some (.ref b), some (JV ((i : Int) + 1)), x3, x4] []
        refine wp_goto 69 dX11_layLevelled_117 (by decide) ?_
        have wi2 := wi
        refine ih (i + 1) (putS s i (S 10 i 0) (S 11 i 0)) M2 h2 _ _ (by omega) (by omega) P2 r2 hbx2 (by rw [ea, eb] ; exact ml2) (lv.put w (by omega) h0t (by omega) (by omega) (fun q => absurd q c_83)) (fun f hf => by rw [m2 f hf]; exact hM f hf) ((fa.up eh_1 (by omega)).tr (fun q h3 h4 => f2 q (by omega)) (Nat.le_refl _)) (fun x hx => by show fup s.2.2.1 i 1 x = 0; rw [fupn (by omega)]; exact hz x (by omega)) kk
      · rw [lvD, if_pos c_83] at kk
        refine wp_goto 114 dX11_layLevelled_86 (by decide) ?_
        refine wp_iinc dX11_layLevelled_114 rfl (Nat.le_of_ble_eq_true rfl) rfl ?_
        change WP G mX11_layLevelled _ _ _ _ h N 117 [some (.ref (cB G + 169)), some (.ref b), some (JV ((i : Int) + 1)), x3, x4] []
        refine wp_goto 69 dX11_layLevelled_117 (by decide) ?_
        exact ih (i + 1) s M h _ _ (by omega) (by omega) P r hb ml lv hM fa (fun x hx => hz x (by omega)) kk

/-- the best so far, with its key -/
def BST (S M : ST) (y zz : Int) : Prop := y = -1 ∨ ∃ u : Nat, y = (u : Int) ∧ (u : Int) < S 13 0 0 ∧ zz = keyF S (M 20 0) (fun x => M 21 x 0) (S 15 0 0) u
theorem BST.r {y zz : Int} (w : WF S) (b : BST S M y zz) : -1 ≤ y ∧ y < 24 := by
  have wT := w.nT
  rcases b with q | ⟨u, q1, q2, _⟩ <;> omega
theorem l_lev2 {Q : PQ} {X : PX} {k9 n9 : Nat} (P : MP G N M L z h) (r : RS S M) (w : WF S) {b : Nat} {g : Nat → Int} (hb : h b = some (eZ G 24 g)) (hg : ∀ x, g x = 0 ∨ g x = 1) (hlr : ∀ x : Nat, (x : Int) < S 13 0 0 → (-1000000 ≤ M 20 0 x ∧ M 20 0 x ≤ 1000000) ∧ -1000000 ≤ M 21 x 0 ∧ M 21 x 0 ≤ 1000000) {x4 : Option Value} : ∀ (m : Nat) (i : Nat) (y zz : Int), ((S 13 0 0).toNat - i = m) → ((i : Int) ≤ S 13 0 0) → (BST S M y zz) → (∀ x3 : Option Value, WP G mX11_layLevelled Q X k9 n9 h N 177 [some (.ref (cB G + 169)), some (.ref b), some (JV (chs S (M 20 0) (fun x => M 21 x 0) (S 15 0 0) g m i y zz)), x3, x4] []) → WP G mX11_layLevelled Q X k9 n9 h N 124 [some (.ref (cB G + 169)), some (.ref b), some (JV y), some (JV (i : Int)), x4] [] := by
  intro m
  induction m with
  | zero =>
    intro i y zz hm hi hy kk
    have wT := w.nT
    refine wp_iload_n dX11_layLevelled_124 rfl ?_
    refine wp_aload_n dX11_layLevelled_125 rfl ?_
    refine wp_get fkX11_96 dX11_layLevelled_126 (P.s0 r) rfl ?_
    refine wp_icmp_ge 177 dX11_layLevelled_129 (by decide) ⟨by omega, by omega⟩ ⟨by omega, by omega⟩ (fun c_129 => ?_) (fun c_129 => ?_)
    · exact kk _
    · exact absurd c_129 (by omega)
  | succ m ih =>
    intro i y zz hm hi hy kk
    have wT := w.nT
    have hgi := hg i
    have hyr := hy.r w
    refine wp_iload_n dX11_layLevelled_124 rfl ?_
    refine wp_aload_n dX11_layLevelled_125 rfl ?_
    refine wp_get fkX11_96 dX11_layLevelled_126 (P.s0 r) rfl ?_
    refine wp_icmp_ge 177 dX11_layLevelled_129 (by decide) ⟨by omega, by omega⟩ ⟨by omega, by omega⟩ (fun c_129 => ?_) (fun c_129 => ?_)
    · exact absurd c_129 (by omega)
    · refine wp_aload_n dX11_layLevelled_132 rfl ?_
      refine wp_iload_n dX11_layLevelled_133 rfl ?_
      refine wp_zaload dX11_layLevelled_134 hb (by omega) (by omega) (by omega) ?_
      change WP G mX11_layLevelled _ _ _ _ h N 135 [some (.ref (cB G + 169)), some (.ref b), some (JV y), some (JV (i : Int)), x4] [JV (g i)]
      refine wp_if_ne 171 dX11_layLevelled_135 (by decide) ⟨by omega, by omega⟩ (fun c_135 => ?_) (fun c_135 => ?_)
      · refine wp_iinc dX11_layLevelled_171 rfl (Nat.le_of_ble_eq_true rfl) rfl ?_
        change WP G mX11_layLevelled _ _ _ _ h N 174 [some (.ref (cB G + 169)), some (.ref b), some (JV y), some (JV ((i : Int) + 1)), x4] []
        refine wp_goto 124 dX11_layLevelled_174 (by decide) ?_
        have kk := fun x3 => kk x3
        rw [chs, if_neg (fun q => c_135 q.1)] at kk
        exact ih (i + 1) _ zz (by omega) (by omega) hy kk
      · refine wp_aload_n dX11_layLevelled_138 rfl ?_
        refine wp_iload_n dX11_layLevelled_139 rfl ?_
        refine wp_aload_n dX11_layLevelled_140 rfl ?_
        refine wp_v2p (m_isFree (N := N) (P := P) (r := r) (w := w) (t := (i : Int)) (b := b) (g := g) (by omega) hb hg) cvX11_129 dX11_layLevelled_141 ⟨Nat.le_of_ble_eq_true rfl, Nat.le_of_ble_eq_true rfl⟩ (Nat.le_of_ble_eq_true rfl) (P.s0 r) rfl rfl ?_
        refine wp_if_eq 171 dX11_layLevelled_144 (by decide) (bI_r _) (fun c_144 => ?_) (fun c_144 => ?_)
        · refine wp_iinc dX11_layLevelled_171 rfl (Nat.le_of_ble_eq_true rfl) rfl ?_
          change WP G mX11_layLevelled _ _ _ _ h N 174 [some (.ref (cB G + 169)), some (.ref b), some (JV y), some (JV ((i : Int) + 1)), x4] []
          refine wp_goto 124 dX11_layLevelled_174 (by decide) ?_
          have kk := fun x3 => kk x3
          rw [chs, if_neg (fun q => by rw [q.2.2.1] at c_144; exact absurd c_144 (by decide))] at kk
          exact ih (i + 1) _ zz (by omega) (by omega) hy kk
        · refine wp_aload_n dX11_layLevelled_147 rfl ?_
          refine wp_iload_n dX11_layLevelled_148 rfl ?_
          refine wp_v1p (m_isTooMuch (N := N) P r w (t := i) (by omega)) cvX11_165 dX11_layLevelled_149 ⟨Nat.le_of_ble_eq_true rfl, Nat.le_of_ble_eq_true rfl⟩ (Nat.le_of_ble_eq_true rfl) (P.s0 r) rfl rfl ?_
          refine wp_if_ne 171 dX11_layLevelled_152 (by decide) (bI_r _) (fun c_152 => ?_) (fun c_152 => ?_)
          · refine wp_iinc dX11_layLevelled_171 rfl (Nat.le_of_ble_eq_true rfl) rfl ?_
            change WP G mX11_layLevelled _ _ _ _ h N 174 [some (.ref (cB G + 169)), some (.ref b), some (JV y), some (JV ((i : Int) + 1)), x4] []
            refine wp_goto 124 dX11_layLevelled_174 (by decide) ?_
            have kk := fun x3 => kk x3
            rw [chs, if_neg (fun q => by rw [q.2.1] at c_152; exact c_152 rfl)] at kk
            exact ih (i + 1) _ zz (by omega) (by omega) hy kk
          · refine wp_iload_n dX11_layLevelled_155 rfl ?_
            refine wp_iconst dX11_layLevelled_156 ?_
            refine wp_icmp_eq 169 dX11_layLevelled_157 (by decide) ⟨by omega, by omega⟩ ⟨by omega, by omega⟩ (fun c_157 => ?_) (fun c_157 => ?_)
            · refine wp_iload_n dX11_layLevelled_169 rfl ?_
              refine wp_istore_n dX11_layLevelled_170 (Nat.le_of_ble_eq_true rfl) rfl ?_
              change WP G mX11_layLevelled _ _ _ _ h N 171 [some (.ref (cB G + 169)), some (.ref b), some (JV (i : Int)), some (JV (i : Int)), x4] []
              refine wp_iinc dX11_layLevelled_171 rfl (Nat.le_of_ble_eq_true rfl) rfl ?_
              change WP G mX11_layLevelled _ _ _ _ h N 174 [some (.ref (cB G + 169)), some (.ref b), some (JV (i : Int)), some (JV ((i : Int) + 1)), x4] []
              refine wp_goto 124 dX11_layLevelled_174 (by decide) ?_
              rw [chs, if_pos ⟨by omega, bI_eq c_152, bI_ne c_144, Or.inl (by omega)⟩] at kk
              exact ih (i + 1) (i : Int) (keyF S (M 20 0) (fun x => M 21 x 0) (S 15 0 0) i) (by omega) (by omega) (Or.inr ⟨i, rfl, by omega, rfl⟩) kk
            · refine wp_aload_n dX11_layLevelled_160 rfl ?_
              refine wp_iload_n dX11_layLevelled_161 rfl ?_
              refine wp_iload_n dX11_layLevelled_162 rfl ?_
              obtain ⟨u, eu, hun, ezz⟩ : ∃ u : Nat, y = (u : Int) ∧ (u : Int) < S 13 0 0 ∧ zz = keyF S (M 20 0) (fun x => M 21 x 0) (S 15 0 0) u := hy.resolve_left c_157
              subst eu
              refine wp_v2p (m_isBetter (N := N) P r w (t := i) (u := u) (by omega) (by omega) (fun x hx => hlr x (by rcases hx with q | q <;> rw [q] <;> omega))) cvX11_169 dX11_layLevelled_163 ⟨Nat.le_of_ble_eq_true rfl, Nat.le_of_ble_eq_true rfl⟩ (Nat.le_of_ble_eq_true rfl) (P.s0 r) rfl rfl ?_
              refine wp_if_eq 171 dX11_layLevelled_166 (by decide) (bI_r _) (fun c_166 => ?_) (fun c_166 => ?_)
              · refine wp_iinc dX11_layLevelled_171 rfl (Nat.le_of_ble_eq_true rfl) rfl ?_
                change WP G mX11_layLevelled _ _ _ _ h N 174 [some (.ref (cB G + 169)), some (.ref b), some (JV (u : Int)), some (JV ((i : Int) + 1)), x4] []
                refine wp_goto 124 dX11_layLevelled_174 (by decide) ?_
                have kk := fun x3 => kk x3
                rw [chs, if_neg (fun q => by rcases q.2.2.2 with z9 | z9; omega; rw [ezz] at z9; rw [decide_eq_true z9] at c_166; exact absurd c_166 (by decide))] at kk
                exact ih (i + 1) _ zz (by omega) (by omega) hy kk
              · refine wp_iload_n dX11_layLevelled_169 rfl ?_
                refine wp_istore_n dX11_layLevelled_170 (Nat.le_of_ble_eq_true rfl) rfl ?_
                change WP G mX11_layLevelled _ _ _ _ h N 171 [some (.ref (cB G + 169)), some (.ref b), some (JV (i : Int)), some (JV (i : Int)), x4] []
                refine wp_iinc dX11_layLevelled_171 rfl (Nat.le_of_ble_eq_true rfl) rfl ?_
                change WP G mX11_layLevelled _ _ _ _ h N 174 [some (.ref (cB G + 169)), some (.ref b), some (JV (i : Int)), some (JV ((i : Int) + 1)), x4] []
                refine wp_goto 124 dX11_layLevelled_174 (by decide) ?_
                rw [chs, if_pos ⟨by omega, bI_eq c_152, bI_ne c_144, Or.inr (by rw [ezz]; exact bI_p c_166)⟩] at kk
                exact ih (i + 1) (i : Int) (keyF S (M 20 0) (fun x => M 21 x 0) (S 15 0 0) i) (by omega) (by omega) (Or.inr ⟨i, rfl, by omega, rfl⟩) kk

theorem l_lev3 {Q : PQ} {X : PX} {k9 n9 : Nat} (P : MP G N M L z h) (r : RS S M) (w : WF S) {b t y : Nat} (ht : t < 24) (hus : ∀ c, c < 4 → ∀ d, d < 5000 → 0 ≤ M 27 c d ∧ M 27 c d ≤ 100000) (hy5 : y ≤ 4850) (hyE : EN (wkS S (S 6 t 0).toNat) (S 5 t 0).toNat y ≤ 5000) (hgy : GDP S (M 27) t y) {d0 : Nat} (hmin : ∀ x, d0 ≤ x → x < 20000 → GDP S (M 27) t x → y ≤ x) {x4 : Option Value} : ∀ (m : Nat) (d : Nat), (y - d ≤ m) → (d ≤ y) → (d0 ≤ d) → ((S 5 t 0).toNat = 0 ∨ wkS S (S 6 t 0).toNat d = true) → (WP G mX11_layLevelled Q X k9 n9 h N 214 [some (.ref (cB G + 169)), some (.ref b), some (JV (t : Int)), some (JV (y : Int)), x4] []) → WP G mX11_layLevelled Q X k9 n9 h N 193 [some (.ref (cB G + 169)), some (.ref b), some (JV (t : Int)), some (JV (d : Int)), x4] [] := by
  intro m
  induction m with
  | zero =>
    intro d hm hdy hd0 hok kk
    have wt := w.task ht
    have k9 := wkS_WK w (c := (S 6 t 0).toNat) (by omega)
    have mE := EN_mono (wk := wkS S (S 6 t 0).toNat) (l := (S 5 t 0).toNat) hdy (by omega)
    have gE := EN_ge (wk := wkS S (S 6 t 0).toNat) (l := (S 5 t 0).toNat) (b := d)
    have hcr := hcr_iff (S := S) (g := M 27) (t := t) (EN (wkS S (S 6 t 0).toNat) (S 5 t 0).toNat d - d) d
    rw [show d + (EN (wkS S (S 6 t 0).toNat) (S 5 t 0).toNat d - d) = EN (wkS S (S 6 t 0).toNat) (S 5 t 0).toNat d by omega] at hcr
    have hdd : d = y := by omega
    subst hdd
    refine wp_aload_n dX11_layLevelled_193 rfl ?_
    refine wp_iload_n dX11_layLevelled_194 rfl ?_
    refine wp_iload_n dX11_layLevelled_195 rfl ?_
    refine wp_v2p (m_hasCrews (N := N) P r w (t := t) (b := d) ht hus (by omega)) cvX11_172 dX11_layLevelled_196 ⟨Nat.le_of_ble_eq_true rfl, Nat.le_of_ble_eq_true rfl⟩ (Nat.le_of_ble_eq_true rfl) (P.s0 r) rfl rfl ?_
    refine wp_if_ne 214 dX11_layLevelled_199 (by decide) (bI_r _) (fun c_199 => ?_) (fun c_199 => ?_)
    · exact kk
    · exact absurd (bI_eq c_199) (by rw [hcr.mpr hgy.2]; decide)
  | succ m ih =>
    intro d hm hdy hd0 hok kk
    have wt := w.task ht
    have k9 := wkS_WK w (c := (S 6 t 0).toNat) (by omega)
    have mE := EN_mono (wk := wkS S (S 6 t 0).toNat) (l := (S 5 t 0).toNat) hdy (by omega)
    have gE := EN_ge (wk := wkS S (S 6 t 0).toNat) (l := (S 5 t 0).toNat) (b := d)
    have hcr := hcr_iff (S := S) (g := M 27) (t := t) (EN (wkS S (S 6 t 0).toNat) (S 5 t 0).toNat d - d) d
    rw [show d + (EN (wkS S (S 6 t 0).toNat) (S 5 t 0).toNat d - d) = EN (wkS S (S 6 t 0).toNat) (S 5 t 0).toNat d by omega] at hcr
    refine wp_aload_n dX11_layLevelled_193 rfl ?_
    refine wp_iload_n dX11_layLevelled_194 rfl ?_
    refine wp_iload_n dX11_layLevelled_195 rfl ?_
    refine wp_v2p (m_hasCrews (N := N) P r w (t := t) (b := d) ht hus (by omega)) cvX11_172 dX11_layLevelled_196 ⟨Nat.le_of_ble_eq_true rfl, Nat.le_of_ble_eq_true rfl⟩ (Nat.le_of_ble_eq_true rfl) (P.s0 r) rfl rfl ?_
    refine wp_if_ne 214 dX11_layLevelled_199 (by decide) (bI_r _) (fun c_199 => ?_) (fun c_199 => ?_)
    · have hdd : d = y := by have := hmin d hd0 (by omega) ⟨hok, hcr.mp (bI_ne c_199)⟩; omega
      subst hdd
      exact kk
    · refine wp_aload_n dX11_layLevelled_202 rfl ?_
      refine wp_iload_n dX11_layLevelled_203 rfl ?_
      refine wp_iload_n dX11_layLevelled_204 rfl ?_
      refine wp_iconst dX11_layLevelled_205 ?_
      refine wp_iadd dX11_layLevelled_206 ?_
      have hdn : d ≠ y := fun q => by subst q; rw [hcr.mpr hgy.2] at c_199; exact absurd c_199 (by decide)
      obtain ⟨y1, z1, z2⟩ := frm_ex k9 (S 5 t 0).toNat (d := d + 1) (by omega)
      have z3 : y1 ≤ y := (z2.2 y (by omega) hgy.1).mpr (by omega)
      have z4 := (z2.2 y1 (by omega) z2.1).mp (Nat.le_refl _)
      rw [show (d : Int) + 1 = ((d + 1 : Nat) : Int) by omega]
      refine wp_v2p (m_from (N := N) P r w (t := t) (d := d + 1) (y := y1) ht z2 (by omega)) cvX11_110 dX11_layLevelled_207 ⟨Nat.le_of_ble_eq_true rfl, Nat.le_of_ble_eq_true rfl⟩ (Nat.le_of_ble_eq_true rfl) (P.s0 r) rfl rfl ?_
      refine wp_istore_n dX11_layLevelled_210 (Nat.le_of_ble_eq_true rfl) rfl ?_
      change WP G mX11_layLevelled _ _ _ _ h N 211 [some (.ref (cB G + 169)), some (.ref b), some (JV (t : Int)), some (JV (y1 : Int)), x4] []
      refine wp_goto 193 dX11_layLevelled_211 (by decide) ?_
      exact ih y1 (by omega) (by omega) (by omega) z2.1 kk

theorem suf_cg {g g' : Nat → Nat → Int} {t : Nat} {d : Int} (h : ∀ c, c < 4 → ∀ x, x < 5000 → g c x = g' c x) : ∀ m c, c + m ≤ 4 → suf S g t d m c = suf S g' t d m c
  | 0, _, _ => rfl
  | m + 1, c, hc => by
    have e : onF g c d = onF g' c d := by
      unfold onF
      split
      · exact h c (by omega) _ (by omega)
      · rfl
    rw [suf, suf, e, suf_cg h m (c + 1) (by omega)]
theorem GDP_cg {g g' : Nat → Nat → Int} {t b : Nat} (h : ∀ c, c < 4 → ∀ x, x < 5000 → g c x = g' c x) : GDP S g t b ↔ GDP S g' t b := by
  unfold GDP
  refine and_congr_right fun _ => ⟨fun q d h1 h2 h3 => ?_, fun q d h1 h2 h3 => ?_⟩
  · rw [← suf_cg h 4 0 (by omega)]; exact q d h1 h2 h3
  · rw [suf_cg h 4 0 (by omega)]; exact q d h1 h2 h3
theorem chs_r (w : WF S) {lb rm : Nat → Int} {rl : Int} {s : LState} : -1 ≤ nxtL S lb rm rl s ∧ nxtL S lb rm rl s < 24 := by
  have wT := w.nT
  rcases chs_spec (S := S) (lb := lb) (rm := rm) (rl := rl) (inn := s.2.2.1) (S 13 0 0).toNat 0 (-1) 0 with g | ⟨x, _, x2, x3, _⟩
  · have g : nxtL S lb rm rl s = -1 := g
    omega
  · have x3 : nxtL S lb rm rl s = (x : Int) := x3
    omega
theorem l_lev4 {Q : PQ} {X : PX} {k9 n9 : Nat} {h0 : AH} {M0 : ST} {b N0 : Nat} (w : WF S) (hbN : cB G + 283 ≤ b ∧ N0 ≤ b) (hbL : ∀ i, i < 40 → L i ≠ b) (hlr : ∀ x : Nat, (x : Int) < S 13 0 0 → (-1000000 ≤ M0 20 0 x ∧ M0 20 0 x ≤ 1000000) ∧ -1000000 ≤ M0 21 x 0 ∧ M0 21 x 0 ≤ 1000000) : ∀ (m : Nat) (s : LState) (M : ST) (h : AH) (x2 x3 x4 : Option Value), (S 13 0 0 ≤ s.2.2.2.2.1 + (m : Int)) → (MP G N M L z h) → (RS S M) → (h b = some (eZ G 24 s.2.2.1)) → (MLS S M s) → (LV9 S s) → (∀ f, (∀ g ∈ mLV, g ≠ f) → M f = M0 f) → (FA G N0 h0 h) → (∀ (M' : ST) (h' : AH), MP G N M' L z h' → RS S M' → MLS S M' (lvR S (M0 20 0) (fun x => M0 21 x 0) (S 15 0 0) m s) → (∀ f, (∀ g ∈ mLV, g ≠ f) → M' f = M0 f) → FA G N0 h0 h' → Q none h' N) → WP G mX11_layLevelled Q X k9 n9 h N 120 [some (.ref (cB G + 169)), some (.ref b), x2, x3, x4] [] := by
  intro m
  induction m with
  | zero =>
    intro s M h x2 x3 x4 hm P r hb ml lv hM fa kk
    have wT := w.nT
    have eM20 : M 20 = M0 20 := hM 20 (by decide)
    have eM21 : M 21 = M0 21 := hM 21 (by decide)
    have hlr2 := hlr
    rw [← eM20, ← eM21] at hlr2
    refine wp_iconst dX11_layLevelled_120 ?_
    refine wp_istore_n dX11_layLevelled_121 (Nat.le_of_ble_eq_true rfl) rfl ?_
    change WP G mX11_layLevelled _ _ _ _ h N 122 [some (.ref (cB G + 169)), some (.ref b), some (JV (-1)), x3, x4] []
    refine wp_iconst dX11_layLevelled_122 ?_
    refine wp_istore_n dX11_layLevelled_123 (Nat.le_of_ble_eq_true rfl) rfl ?_
    change WP G mX11_layLevelled _ _ _ _ h N 124 [some (.ref (cB G + 169)), some (.ref b), some (JV (-1)), some (JV 0), x4] []
    refine l_lev2 P r w hb lv.1 hlr2 _ 0 (-1) 0 rfl (by omega) (Or.inl rfl) (fun y3 => ?_)
    rw [show chs S (M 20 0) (fun x => M 21 x 0) (S 15 0 0) s.2.2.1 ((S 13 0 0).toNat - 0) 0 (-1) 0 = nxtL S (M0 20 0) (fun x => M0 21 x 0) (S 15 0 0) s by rw [eM20, eM21]; rfl]
    have hnr := chs_r w (lb := M0 20 0) (rm := fun x => M0 21 x 0) (rl := S 15 0 0) (s := s)
    obtain ⟨nx, enx⟩ : ∃ nx : Int, nxtL S (M0 20 0) (fun x => M0 21 x 0) (S 15 0 0) s = nx := ⟨_, rfl⟩
    rw [enx] at hnr ⊢
    refine wp_iload_n dX11_layLevelled_177 rfl ?_
    refine wp_iconst dX11_layLevelled_178 ?_
    refine wp_icmp_ne 183 dX11_layLevelled_179 (by decide) ⟨by omega, by omega⟩ ⟨by omega, by omega⟩ (fun c_179 => ?_) (fun c_179 => ?_)
    · exfalso
      obtain ⟨t, et⟩ : ∃ t : Nat, nx = (t : Int) := ⟨nx.toNat, by omega⟩
      have q := lv.step w (enx.trans et)
      have := lv.lt w q.1.1 q.1.2.1
      omega
    · refine wp_vret dX11_layLevelled_182 rfl ?_
      exact kk M h P r ml hM fa
  | succ m ih =>
    intro s M h x2 x3 x4 hm P r hb ml lv hM fa kk
    have wT := w.nT
    have eM20 : M 20 = M0 20 := hM 20 (by decide)
    have eM21 : M 21 = M0 21 := hM 21 (by decide)
    have hlr2 := hlr
    rw [← eM20, ← eM21] at hlr2
    refine wp_iconst dX11_layLevelled_120 ?_
    refine wp_istore_n dX11_layLevelled_121 (Nat.le_of_ble_eq_true rfl) rfl ?_
    change WP G mX11_layLevelled _ _ _ _ h N 122 [some (.ref (cB G + 169)), some (.ref b), some (JV (-1)), x3, x4] []
    refine wp_iconst dX11_layLevelled_122 ?_
    refine wp_istore_n dX11_layLevelled_123 (Nat.le_of_ble_eq_true rfl) rfl ?_
    change WP G mX11_layLevelled _ _ _ _ h N 124 [some (.ref (cB G + 169)), some (.ref b), some (JV (-1)), some (JV 0), x4] []
    refine l_lev2 P r w hb lv.1 hlr2 _ 0 (-1) 0 rfl (by omega) (Or.inl rfl) (fun y3 => ?_)
    rw [show chs S (M 20 0) (fun x => M 21 x 0) (S 15 0 0) s.2.2.1 ((S 13 0 0).toNat - 0) 0 (-1) 0 = nxtL S (M0 20 0) (fun x => M0 21 x 0) (S 15 0 0) s by rw [eM20, eM21]; rfl]
    have hnr := chs_r w (lb := M0 20 0) (rm := fun x => M0 21 x 0) (rl := S 15 0 0) (s := s)
    obtain ⟨nx, enx⟩ : ∃ nx : Int, nxtL S (M0 20 0) (fun x => M0 21 x 0) (S 15 0 0) s = nx := ⟨_, rfl⟩
    rw [enx] at hnr ⊢
    refine wp_iload_n dX11_layLevelled_177 rfl ?_
    refine wp_iconst dX11_layLevelled_178 ?_
    refine wp_icmp_ne 183 dX11_layLevelled_179 (by decide) ⟨by omega, by omega⟩ ⟨by omega, by omega⟩ (fun c_179 => ?_) (fun c_179 => ?_)
    · obtain ⟨t, et⟩ : ∃ t : Nat, nx = (t : Int) := ⟨nx.toNat, by omega⟩
      rw [et]
      have enx := enx.trans et
      obtain ⟨⟨htn, h0t, htl, hct23⟩, hpre, y0, zz, ⟨fy, fy1, fy2⟩, ⟨z1, z2, z3, z4, z5⟩, ⟨z6, z7⟩, lv2⟩ := lv.step w enx
      have ht : t < 24 := by omega
      have hct : 0 ≤ s.2.2.2.2.1 ∧ s.2.2.2.2.1 ≤ 23 := ⟨lv.2.2.2.1, hct23⟩
      have hldb := lv.2.2.2.2.2.2.1
      rw [lvR, if_neg (by rw [enx]; omega), enx, Int.toNat_natCast, z1, z7] at kk
      have hlt : ∀ j : Nat, (j : Int) < S 14 0 0 → (lF S j).toNat < 24 := fun j hj => by have := w.at (i := j) (by have := w.nL; omega); show (S 19 (S 18 j 0).toNat 0).toNat < 24; omega
      have efd : fday S (M 22 0) (M 22 1) t = (y0 : Int) := by rw [← fy]; exact fday_cg fun j hj _ => ml.1 _ (hlt j hj)
      have gd : ∀ c, c < 4 → ∀ x, x < 5000 → M 27 c x = ldg S s.1 s.2.1 s.2.2.1 c x := fun c hc x hx => ml.2.2.2.2 c hc x (by omega)
      refine wp_aload_n dX11_layLevelled_183 rfl ?_
      refine wp_iload_n dX11_layLevelled_184 rfl ?_
      refine wp_aload_n dX11_layLevelled_185 rfl ?_
      refine wp_get fkX11_64 dX11_layLevelled_186 (P.s0 r) rfl ?_
      refine wp_v2p (m_byAll (N := N) (B := 1000 + 166 * s.2.2.2.2.1) P r w P.pl22 ht (by omega) (fun j hj hl => by rw [(ml.1 _ (hlt j hj)).1, (ml.1 _ (hlt j hj)).2]; exact hpre j hj hl)) cvX11_136 dX11_layLevelled_189 ⟨Nat.le_of_ble_eq_true rfl, Nat.le_of_ble_eq_true rfl⟩ (Nat.le_of_ble_eq_true rfl) (P.s0 r) rfl rfl ?_
      rw [efd]
      refine wp_istore_n dX11_layLevelled_192 (Nat.le_of_ble_eq_true rfl) rfl ?_
      change WP G mX11_layLevelled _ _ _ _ h N 193 [some (.ref (cB G + 169)), some (.ref b), some (JV (t : Int)), some (JV (y0 : Int)), x4] []
      have gE := EN_ge (wk := wkS S (S 6 t 0).toNat) (l := (S 5 t 0).toNat) (b := zz)
      refine l_lev3 (b := b) (y := zz) P r w ht (fun c hc x hx => by rw [gd c hc x hx]; have := ldg_r w (b := s.1) (e := s.2.1) (inn := s.2.2.1) c x; omega) z3 (by omega) ((GDP_cg gd).mpr z4) (d0 := y0) (fun x h1 h2 h3 => z5 x h1 h2 ((GDP_cg gd).mp h3)) _ y0 (Nat.le_refl _) z2 (Nat.le_refl _) fy2 ?_
      refine wp_aload_n dX11_layLevelled_214 rfl ?_
      refine wp_iload_n dX11_layLevelled_215 rfl ?_
      refine wp_iconst dX11_layLevelled_216 ?_
      refine wp_zastore dX11_layLevelled_217 hb (by omega) (by omega) (by omega) (Or.inr rfl) ?_
      obtain ⟨h_1, eh_1⟩ : ∃ hh9 : AH, hh9 = hup h b (eZ G 24 (fup s.2.2.1 t 1)) := ⟨_, rfl⟩
      refine WP.heq eh_1 ?_
      have c1_0 : h_1 b = some (eZ G 24 (fup s.2.2.1 t 1)) := by rw [eh_1]; exact hup_self _ _ _
      have PX_1 : MP G (N) M L z h_1 := P.loc (by omega) hbL eh_1
      refine wp_aload_n dX11_layLevelled_218 rfl ?_
      refine wp_iload_n dX11_layLevelled_219 rfl ?_
      refine wp_iload_n dX11_layLevelled_220 rfl ?_
      refine wp_aload_n dX11_layLevelled_221 rfl ?_
      refine wp_iload_n dX11_layLevelled_222 rfl ?_
      refine wp_iload_n dX11_layLevelled_223 rfl ?_
      refine wp_v2p (m_endOf (N := N) PX_1 r w (t := t) (b := zz) ht (by omega)) cvX11_113 dX11_layLevelled_224 ⟨Nat.le_of_ble_eq_true rfl, Nat.le_of_ble_eq_true rfl⟩ (Nat.le_of_ble_eq_true rfl) (PX_1.s0 r) rfl rfl ?_
      refine wp_v3 k9 n9 (m_place (N := N) (s := s) (t := t) (x := zz) (y := (EN (wkS S (S 6 t 0).toNat) (S 5 t 0).toNat zz)) PX_1 r w ml ht h0t (by omega) (by omega) hct (by omega)) cvX11_162 dX11_layLevelled_227 ⟨Nat.le_of_ble_eq_true rfl, Nat.le_of_ble_eq_true rfl⟩ (Nat.le_of_ble_eq_true rfl) (PX_1.s0 r) rfl rfl (by omega) (by omega) (fun r h2 N9 hq => ?_)
      obtain ⟨rfl, hN9, M2, P2, r2, ml2, m2, f2⟩ := hq
      rw [hN9]
      have hbx2 : h2 b = some (eZ G 24 (fup s.2.2.1 t 1)) := (f2 b (by omega)).trans c1_0
      change WP G mX11_layLevelled _ _ _ _ h2 N 230 [some (.ref (cB G + 169)), some (.ref b), some (JV (t : Int)), some (JV (zz : Int)), x4] []
      refine wp_goto 120 dX11_layLevelled_230 (by decide) ?_
      refine ih (putS s t (zz : Int) ((EN (wkS S (S 6 t 0).toNat) (S 5 t 0).toNat zz : Nat) : Int)) M2 h2 _ _ _ (by show S 13 0 0 ≤ s.2.2.2.2.1 + 1 + (m : Int); omega) P2 r2 hbx2 ml2 lv2 (fun f hf => by rw [m2 f hf]; exact hM f hf) ((fa.up eh_1 (by omega)).tr (fun q h3 h4 => f2 q (by omega)) (Nat.le_refl _)) kk
    · rw [lvR, if_pos (by omega)] at kk
      refine wp_vret dX11_layLevelled_182 rfl ?_
      exact kk M h P r ml hM fa

theorem m_layLevelled (P : MP G N M L z h) (r : RS S M) (w : WF S) (hlr : ∀ x : Nat, (x : Int) < S 13 0 0 → (-1000000 ≤ M 20 0 x ∧ M 20 0 x ≤ 1000000) ∧ -1000000 ≤ M 21 x 0 ∧ M 21 x 0 ≤ 1000000) : CT G mX11_layLevelled [.ref (cB G + 169)] h N 1 24 (fun r h' N' => r = none ∧ N' = N + 1 ∧ ∃ M', MP G (N + 1) M' L z h' ∧ RS S M' ∧ MLS S M' (lvAll S (M 20 0) (fun x => M 21 x 0) (S 15 0 0) (fun i => M 23 i 0)) ∧ (∀ f, (∀ g ∈ mLV, g ≠ f) → M' f = M f) ∧ FA G N h h') := by
  refine CT_of (by decide +kernel) rfl (by simp [Value.category]) (Nat.le_of_ble_eq_true rfl) ?_
  change WP G mX11_layLevelled _ noX _ _ h N 0 [some (.ref (cB G + 169)), none, none, none, none] []
  have hN := P.nN
  refine wp_aload_n dX11_layLevelled_0 rfl ?_
  refine wp_get fkX11_70 dX11_layLevelled_1 (P.s0 r) rfl ?_
  refine wp_astore_n dX11_layLevelled_4 (Nat.le_of_ble_eq_true rfl) rfl ?_
  change WP G mX11_layLevelled _ _ _ _ h N 5 [some (.ref (cB G + 169)), some (.ref (cB G + 265)), none, none, none] []
  refine wp_aload_n dX11_layLevelled_5 rfl ?_
  refine wp_alenII dX11_layLevelled_6 P.q27 ?_
  refine wp_istore_n dX11_layLevelled_7 (Nat.le_of_ble_eq_true rfl) rfl ?_
  change WP G mX11_layLevelled _ _ _ _ h N 8 [some (.ref (cB G + 169)), some (.ref (cB G + 265)), some (JV 4), none, none] []
  refine wp_iconst dX11_layLevelled_8 ?_
  refine wp_istore_n dX11_layLevelled_9 (Nat.le_of_ble_eq_true rfl) rfl ?_
  change WP G mX11_layLevelled _ _ _ _ h N 10 [some (.ref (cB G + 169)), some (.ref (cB G + 265)), some (JV 4), some (JV 0), none] []
  refine l_lev0 (h0 := h) (M0 := M) w _ 0 M h _ rfl (Nat.zero_le _) P r (fun _ _ => rfl) (fun c hc => absurd hc (by omega)) FRM.rf (fun M1 h1 x3 x4 P1 r1 m1 u1 f1 => ?_)
  refine wp_aload_n dX11_layLevelled_32 rfl ?_
  refine wp_get fkX11_64 dX11_layLevelled_33 (P1.s0 r1) rfl ?_
  refine wp_iconst dX11_layLevelled_36 ?_
  refine wp_aaload dX11_layLevelled_37 P1.q22 rfl rfl (by omega) (by omega) (by omega) (if_pos (by omega)) ?_
  change WP G mX11_layLevelled _ _ _ _ h1 N 38 [some (.ref (cB G + 169)), some (.ref (cB G + 265)), some (JV 4), x3, x4] [.ref (cB G + 262 + 0)]
  refine wp_iconst dX11_layLevelled_38 ?_
  refine wp_s2 1 24 (c_fill2 (N := N) (v := -1) (P1.r22 (i := 0) (by omega)) (by omega)) csX11_156 dX11_layLevelled_39 ⟨Nat.le_of_ble_eq_true rfl, Nat.le_of_ble_eq_true rfl⟩ (Nat.le_of_ble_eq_true rfl) (by omega) (by omega) (fun r9 h9_39 N9 hq9 => ?_)
  obtain ⟨rfl, eh9_39, hN9⟩ := hq9
  rw [hN9]
  obtain ⟨M2, eM2⟩ : ∃ M9 : ST, M9 = sr M1 22 0 (filF (M1 22 0) 0 24 (-1)) := ⟨_, rfl⟩
  have P_M2 : MP G (N) M2 L z h9_39 := by rw [eM2]; exact P1.row (q := (22, 261, 2, 24)) (i := 0) (by decide) (show 0 < 2 by omega) eh9_39
  have r_M2 : RS S M2 := by rw [eM2]; exact r1.row (by decide)
  change WP G mX11_layLevelled _ _ _ _ h9_39 N 42 [some (.ref (cB G + 169)), some (.ref (cB G + 265)), some (JV 4), x3, x4] []
  refine wp_aload_n dX11_layLevelled_42 rfl ?_
  refine wp_get fkX11_64 dX11_layLevelled_43 (P_M2.s0 r_M2) rfl ?_
  refine wp_iconst dX11_layLevelled_46 ?_
  refine wp_aaload dX11_layLevelled_47 P_M2.q22 rfl rfl (by omega) (by omega) (by omega) (if_pos (by omega)) ?_
  change WP G mX11_layLevelled _ _ _ _ h9_39 N 48 [some (.ref (cB G + 169)), some (.ref (cB G + 265)), some (JV 4), x3, x4] [.ref (cB G + 262 + 1)]
  refine wp_iconst dX11_layLevelled_48 ?_
  refine wp_s2 1 24 (c_fill2 (N := N) (v := -1) (P_M2.r22 (i := 1) (by omega)) (by omega)) csX11_156 dX11_layLevelled_49 ⟨Nat.le_of_ble_eq_true rfl, Nat.le_of_ble_eq_true rfl⟩ (Nat.le_of_ble_eq_true rfl) (by omega) (by omega) (fun r9 h9_49 N9 hq9 => ?_)
  obtain ⟨rfl, eh9_49, hN9⟩ := hq9
  rw [hN9]
  obtain ⟨M3, eM3⟩ : ∃ M9 : ST, M9 = sr M2 22 1 (filF (M2 22 1) 0 24 (-1)) := ⟨_, rfl⟩
  have P_M3 : MP G (N) M3 L z h9_49 := by rw [eM3]; exact P_M2.row (q := (22, 261, 2, 24)) (i := 1) (by decide) (show 1 < 2 by omega) eh9_49
  have r_M3 : RS S M3 := by rw [eM3]; exact r_M2.row (by decide)
  change WP G mX11_layLevelled _ _ _ _ h9_49 N 52 [some (.ref (cB G + 169)), some (.ref (cB G + 265)), some (JV 4), x3, x4] []
  refine wp_aload_n dX11_layLevelled_52 rfl ?_
  refine wp_iconst dX11_layLevelled_53 ?_
  refine wp_put fkX11_150 dX11_layLevelled_54 (P_M3.s0 r_M3) rfl rfl (Nat.le_of_ble_eq_true rfl) ?_
  obtain ⟨h_1, eh_1⟩ : ∃ hh9 : AH, hh9 = hup h9_49 (cB G + 169) (eO 11 [JV (M3 0 0 0), .ref (cB G + 170), .ref (cB G + 171), .ref (cB G + 172), .ref (cB G + 177), .ref (cB G + 178), JV (S 13 0 0), .ref (cB G + 179), .ref (cB G + 180), .ref (cB G + 181), .ref (cB G + 182), .ref (cB G + 183), .ref (cB G + 208), .ref (cB G + 209), JV (S 14 0 0), .ref (cB G + 212), JV (S 15 0 0), JV (M3 17 0 0), .ref (cB G + 253), .ref (cB G + 254), .ref (cB G + 257), .ref (cB G + 260), .ref (cB G + 261), .ref (cB G + 264), JV 0, JV (M3 25 0 0), JV (M3 26 0 0), .ref (cB G + 265), JV (M3 28 0 0), .ref (cB G + 270), .ref (cB G + 273), .ref (cB G + 274), .ref (cB G + 275), .ref (cB G + 276), .long z]) := ⟨_, rfl⟩
  refine WP.heq eh_1 ?_
  obtain ⟨M_1, eM_1⟩ : ∃ ss9 : ST, ss9 = su M3 24 0 0 0 := ⟨_, rfl⟩
  have P_1 : MP G (N) M_1 L z h_1 := by rw [eM_1]; exact P_M3.sc (f := 24) (v := 0) (by decide) (eh_1.trans (by simp [cMod, su, r_M3.2.2.1.1, r_M3.2.2.1.2.1, r_M3.2.2.1.2.2]))
  have r_1 : RS S M_1 := by rw [eM_1]; exact r_M3.der (by decide)
  refine wp_aload_n dX11_layLevelled_57 rfl ?_
  refine wp_iconst dX11_layLevelled_58 ?_
  refine wp_put fkX11_153 dX11_layLevelled_59 (P_1.s0 r_1) rfl rfl (Nat.le_of_ble_eq_true rfl) ?_
  obtain ⟨h_2, eh_2⟩ : ∃ hh9 : AH, hh9 = hup h_1 (cB G + 169) (eO 11 [JV (M_1 0 0 0), .ref (cB G + 170), .ref (cB G + 171), .ref (cB G + 172), .ref (cB G + 177), .ref (cB G + 178), JV (S 13 0 0), .ref (cB G + 179), .ref (cB G + 180), .ref (cB G + 181), .ref (cB G + 182), .ref (cB G + 183), .ref (cB G + 208), .ref (cB G + 209), JV (S 14 0 0), .ref (cB G + 212), JV (S 15 0 0), JV (M_1 17 0 0), .ref (cB G + 253), .ref (cB G + 254), .ref (cB G + 257), .ref (cB G + 260), .ref (cB G + 261), .ref (cB G + 264), JV (M_1 24 0 0), JV (M_1 25 0 0), JV 0, .ref (cB G + 265), JV (M_1 28 0 0), .ref (cB G + 270), .ref (cB G + 273), .ref (cB G + 274), .ref (cB G + 275), .ref (cB G + 276), .long z]) := ⟨_, rfl⟩
  refine WP.heq eh_2 ?_
  obtain ⟨M_2, eM_2⟩ : ∃ ss9 : ST, ss9 = su M_1 26 0 0 0 := ⟨_, rfl⟩
  have P_2 : MP G (N) M_2 L z h_2 := by rw [eM_2]; exact P_1.sc (f := 26) (v := 0) (by decide) (eh_2.trans (by simp [cMod, su, r_1.2.2.1.1, r_1.2.2.1.2.1, r_1.2.2.1.2.2]))
  have r_2 : RS S M_2 := by rw [eM_2]; exact r_1.der (by decide)
  refine wp_bipush dX11_layLevelled_62 rfl ?_
  refine wp_newZ (m := 24) (k2 := 0) (n2 := 0) dX11_layLevelled_64 ar_boolean rfl (by decide) (by omega) (by omega) ?_
  obtain ⟨h_3, eh_3⟩ : ∃ hh9 : AH, hh9 = hup h_2 (N) (eZ G 24 (fun _ => 0)) := ⟨_, rfl⟩
  refine WP.heq eh_3 ?_
  have c3_0 : h_3 N = some (eZ G 24 (fun _ => 0)) := by rw [eh_3]; exact hup_self _ _ _
  have PX_3 : MP G (N) M_2 L z h_3 := P_2.loc (by omega) (fun i9 hi9 => by have := P_2.rlt hi9; omega) eh_3
  change WP G mX11_layLevelled _ _ 0 0 h_3 (N + 1) 66 [some (.ref (cB G + 169)), some (.ref (cB G + 265)), some (JV 4), x3, x4] [.ref N]
  refine wp_astore_n dX11_layLevelled_66 (Nat.le_of_ble_eq_true rfl) rfl ?_
  change WP G mX11_layLevelled _ _ _ _ h_3 (N + 1) 67 [some (.ref (cB G + 169)), some (.ref N), some (JV 4), x3, x4] []
  refine wp_iconst dX11_layLevelled_67 ?_
  refine wp_istore_n dX11_layLevelled_68 (Nat.le_of_ble_eq_true rfl) rfl ?_
  change WP G mX11_layLevelled _ _ _ _ h_3 (N + 1) 69 [some (.ref (cB G + 169)), some (.ref N), some (JV 0), x3, x4] []
  have eo : ∀ f, (∀ g ∈ mLV, g ≠ f) → M_2 f = M f := fun f hf => by
    rw [eM_2, su_f (fun q => hf 26 (by decide) q.symm), eM_1, su_f (fun q => hf 24 (by decide) q.symm), eM3, sr_f (fun q => hf 22 (by decide) q.symm), eM2, sr_f (fun q => hf 22 (by decide) q.symm), m1 f (fun q => hf 27 (by decide) q.symm)]
  have e22 : M_2 22 = M3 22 := by rw [eM_2, su_f (by decide), eM_1, su_f (by decide)]
  have ml0 : MLS S M_2 (lv0 (fun i => M 23 i 0)) := by
    refine ⟨fun x hx => ?_, fun i => ?_, ?_, ?_, fun c hc d hd => ?_⟩
    · rw [e22]
      have a1 : M3 22 0 = M2 22 0 := by rw [eM3]; exact sr_i (by decide)
      rw [a1, eM3, sr_s, eM2, sr_s]
      exact ⟨if_pos ⟨Nat.zero_le _, hx⟩, if_pos ⟨Nat.zero_le _, hx⟩⟩
    · rw [eM_2, su_f (by decide), eM_1, su_f (by decide), eM3, sr_f (by decide), eM2, sr_f (by decide), m1 23 (by decide)]
      rfl
    · rw [eM_2, su_f (by decide), eM_1]
      exact su_s
    · rw [eM_2]
      exact su_s
    · rw [eM_2, su_f (by decide), eM_1, su_f (by decide), eM3, sr_f (by decide), eM2, sr_f (by decide), u1 c hc d hd]
      exact (ldg_0 (S := S) (b := fun _ => -1) (e := fun _ => -1) c d).symm
  have fa0 : FA G N h h_3 := fun q hq hl => by
    rw [hup_at eh_3 (by omega), hup_at eh_2 (by omega), hup_at eh_1 (by omega), hup_at eh9_49 (by omega), hup_at eh9_39 (by omega)]
    exact f1 q (by omega)
  refine l_lev1 (N := N + 1) (h0 := h) (M0 := M) (b := N) (N0 := N) w (by omega) (fun i hi => by have := P.rlt hi; omega) _ 0 (lv0 (fun i => M 23 i 0)) M_2 h_3 _ _ rfl (by have := w.nT; omega) (PX_3.up (by omega)) r_2 c3_0 ml0 (LV9.i0 w _) eo fa0 (fun _ _ => rfl) (fun M8 h8 x3 x4 P8 r8 hb8 ml8 lv8 m8 f8 x2 => ?_)
  exact l_lev4 (N := N + 1) (h0 := h) (M0 := M) (b := N) (N0 := N) w (by omega) (fun i hi => by have := P.rlt hi; omega) hlr (S 13 0 0).toNat _ M8 h8 _ _ _ (by have := lv8.2.2.2.1; omega) P8 r8 hb8 ml8 lv8 m8 f8 (fun M9 h9 P9 r9 ml9 m9 f9 => ⟨rfl, rfl, M9, P9, r9, ml9, m9, f9⟩)

end Mw

/-! ===== the reference laid out ===== -/
section Mx
variable {G : Ctx} {h : AH} {N : Nat} {S M : ST} {L : Nat → Nat} {z : Int64}
def LAID (S M : ST) : Prop := EP S (M 19 0) (M 19 1) ∧ LDY S (M 19 1) (M 25 0 0) ∧ LATE S (M 19 0) (M 20 0) (M 20 1) (fun t => M 21 t 0) (M 25 0 0) ∧ ∃ od, MLS S M (lvAll S (M 20 0) (fun x => M 21 x 0) (S 15 0 0) od)
abbrev mDV : List Nat := [17, 18, 19, 20, 21, 22, 23, 24, 25, 26, 27]
theorem LATE_r (w : WF S) (tp : TOP S) {eb ee lb le rm : Nat → Int} {ld : Int} (ep : EP S eb ee) (ldy : LDY S ee ld) (lt : LATE S eb lb le rm ld) {x : Nat} (hx : (x : Int) < S 13 0 0) : (0 ≤ lb x ∧ lb x ≤ 5000) ∧ 0 ≤ rm x ∧ rm x ≤ 5000 := by
  have wT := w.nT
  have wx := w.task (t := x) (by omega)
  have ok := (EP_all w tp ep hx).1
  by_cases h9 : S 9 x 0 = 0
  · have q := (lt x hx).2 h9
    obtain ⟨a, b, y, y1, y2, y3, y4, _⟩ := lday_val w tp (lb := lb) (le := le) ep ldy hx h9
    have r := roomF_r (S := S) (eb := eb) (t := x) (d := (y : Int)) y2
    rw [q.1, q.2.2, q.1, y1]
    omega
  · have q := (lt x hx).1 h9
    rw [q.1, q.2.2]
    omega
theorem LATE_b (w : WF S) (tp : TOP S) {eb ee lb le rm : Nat → Int} {ld : Int} (ep : EP S eb ee) (ldy : LDY S ee ld) (lt : LATE S eb lb le rm ld) : ∀ x : Nat, (x : Int) < S 13 0 0 → (-1000000 ≤ lb x ∧ lb x ≤ 1000000) ∧ -1000000 ≤ rm x ∧ rm x ≤ 1000000 := fun x hx => by
  have := LATE_r w tp ep ldy lt hx
  omega
theorem FRM.fa {h' : AH} (f : FRM G h h') : FA G N h h' := fun q h1 _ => f q h1
theorem FA.le {h' : AH} {N' : Nat} (f : FA G N' h h') (hN : N ≤ N') : FA G N h h' := fun q h1 h2 => f q h1 (by omega)
theorem m_lay (P : MP G N M L z h) (r : RS S M) (w : WF S) (tp : TOP S) (hl : M 17 0 0 = 0 ∨ (M 17 0 0 = 1 ∧ LAID S M)) : CT G mX11_lay [.ref (cB G + 169)] h N 2 48 (fun r h' N' => r = none ∧ N ≤ N' ∧ N' ≤ N + 2 ∧ ∃ M', MP G N' M' L z h' ∧ RS S M' ∧ M' 17 0 0 = 1 ∧ LAID S M' ∧ (∀ f, (∀ g ∈ mDV, g ≠ f) → M' f = M f) ∧ FA G N h h') := by
  have hir : -2147483648 ≤ M 17 0 0 ∧ M 17 0 0 < 2147483648 := by rcases hl with q | q <;> omega
  refine CT_of (by decide +kernel) rfl (by simp [Value.category]) (Nat.le_of_ble_eq_true rfl) ?_
  change WP G mX11_lay _ noX _ _ h N 0 [some (.ref (cB G + 169))] []
  refine wp_aload_n dX11_lay_0 rfl ?_
  refine wp_get fkX11_175 dX11_lay_1 (P.s0 r) rfl ?_
  refine wp_if_eq 8 dX11_lay_4 (by decide) ⟨by omega, by omega⟩ (fun c_4 => ?_) (fun c_4 => ?_)
  · refine wp_aload_n dX11_lay_8 rfl ?_
    refine wp_iconst dX11_lay_9 ?_
    refine wp_put fkX11_175 dX11_lay_10 (P.s0 r) rfl rfl (Nat.le_of_ble_eq_true rfl) ?_
    obtain ⟨h_1, eh_1⟩ : ∃ hh9 : AH, hh9 = hup h (cB G + 169) (eO 11 [JV (M 0 0 0), .ref (cB G + 170), .ref (cB G + 171), .ref (cB G + 172), .ref (cB G + 177), .ref (cB G + 178), JV (S 13 0 0), .ref (cB G + 179), .ref (cB G + 180), .ref (cB G + 181), .ref (cB G + 182), .ref (cB G + 183), .ref (cB G + 208), .ref (cB G + 209), JV (S 14 0 0), .ref (cB G + 212), JV (S 15 0 0), JV 1, .ref (cB G + 253), .ref (cB G + 254), .ref (cB G + 257), .ref (cB G + 260), .ref (cB G + 261), .ref (cB G + 264), JV (M 24 0 0), JV (M 25 0 0), JV (M 26 0 0), .ref (cB G + 265), JV (M 28 0 0), .ref (cB G + 270), .ref (cB G + 273), .ref (cB G + 274), .ref (cB G + 275), .ref (cB G + 276), .long z]) := ⟨_, rfl⟩
    refine WP.heq eh_1 ?_
    obtain ⟨M_1, eM_1⟩ : ∃ ss9 : ST, ss9 = su M 17 0 0 1 := ⟨_, rfl⟩
    have P_1 : MP G (N) M_1 L z h_1 := by rw [eM_1]; exact P.sc (f := 17) (v := 1) (by decide) (eh_1.trans (by simp [cMod, su, r.2.2.1.1, r.2.2.1.2.1, r.2.2.1.2.2]))
    have r_1 : RS S M_1 := by rw [eM_1]; exact r.der (by decide)
    refine wp_aload_n dX11_lay_13 rfl ?_
    refine wp_v0 1 24 (m_sort (N := N) P_1 r_1 w tp) cvX11_179 dX11_lay_14 ⟨Nat.le_of_ble_eq_true rfl, Nat.le_of_ble_eq_true rfl⟩ (Nat.le_of_ble_eq_true rfl) (P_1.s0 r_1) rfl rfl (by omega) (by omega) (fun r9 h1 N1 hq => ?_)
    obtain ⟨rfl, hN1, M1, P1, r1, tq1, m1, f1⟩ := hq
    rw [hN1]
    change WP G mX11_lay _ _ _ _ h1 (N + 1) 17 [some (.ref (cB G + 169))] []
    refine wp_aload_n dX11_lay_17 rfl ?_
    refine wp_v0 1 24 (m_layEarly (N := N + 1) P1 r1 w tq1) cvX11_182 dX11_lay_18 ⟨Nat.le_of_ble_eq_true rfl, Nat.le_of_ble_eq_true rfl⟩ (Nat.le_of_ble_eq_true rfl) (P1.s0 r1) rfl rfl (by omega) (by omega) (fun r9 h2 N2 hq => ?_)
    obtain ⟨rfl, hN2, M2, P2, r2, ep2, ldy2, m2, f2⟩ := hq
    rw [hN2]
    change WP G mX11_lay _ _ _ _ h2 (N + 1) 21 [some (.ref (cB G + 169))] []
    refine wp_aload_n dX11_lay_21 rfl ?_
    have tq2 : TOQ S (fun i => M2 18 i 0) := by rw [show M2 18 = M1 18 from m2 18 (by decide) (by decide)]; exact tq1
    refine wp_v0 1 24 (m_layLate (N := N + 1) P2 r2 w tp tq2 ep2 ldy2) cvX11_185 dX11_lay_22 ⟨Nat.le_of_ble_eq_true rfl, Nat.le_of_ble_eq_true rfl⟩ (Nat.le_of_ble_eq_true rfl) (P2.s0 r2) rfl rfl (by omega) (by omega) (fun r9 h3 N3 hq => ?_)
    obtain ⟨rfl, hN3, M3, P3, r3, lt3, m3, f3⟩ := hq
    rw [hN3]
    have e319 : M3 19 = M2 19 := m3 19 (by decide) (by decide)
    have e325 : M3 25 = M2 25 := m3 25 (by decide) (by decide)
    have ep3 := ep2
    have ldy3 := ldy2
    rw [← e319] at ep3 ldy3
    rw [← e325] at ldy3
    change WP G mX11_lay _ _ _ _ h3 (N + 1) 25 [some (.ref (cB G + 169))] []
    refine wp_aload_n dX11_lay_25 rfl ?_
    refine wp_v0 0 0 (m_layLevelled (N := N + 1) P3 r3 w (LATE_b w tp ep3 ldy3 lt3)) cvX11_188 dX11_lay_26 ⟨Nat.le_of_ble_eq_true rfl, Nat.le_of_ble_eq_true rfl⟩ (Nat.le_of_ble_eq_true rfl) (P3.s0 r3) rfl rfl (by omega) (by omega) (fun r9 h4 N4 hq => ?_)
    obtain ⟨rfl, hN4, M4, P4, r4, ml4, m4, f4⟩ := hq
    rw [hN4]
    have e4 : ∀ f, (∀ g ∈ mLV, g ≠ f) → M4 f = M3 f := m4
    have la4 : LAID S M4 := by
      unfold LAID
      rw [m4 19 (by decide), m4 20 (by decide), m4 21 (by decide), m4 25 (by decide)]
      exact ⟨ep3, ldy3, lt3, _, ml4⟩
    change WP G mX11_lay _ _ _ _ h4 (N + 1 + 1) 29 [some (.ref (cB G + 169))] []
    refine wp_vret dX11_lay_29 rfl ?_
    have eo : ∀ f, (∀ g ∈ mDV, g ≠ f) → M4 f = M f := fun f hf => by
      rw [m4 f (fun g hg => hf g (by revert g; decide)), m3 f (fun q => hf 20 (by decide) q.symm) (fun q => hf 21 (by decide) q.symm), m2 f (fun q => hf 19 (by decide) q.symm) (fun q => hf 25 (by decide) q.symm), m1 f (fun q => hf 18 (by decide) q.symm), eM_1, su_f (fun q => hf 17 (by decide) q.symm)]
    have e17 : M4 17 0 0 = 1 := by rw [m4 17 (by decide), m3 17 (by decide) (by decide), m2 17 (by decide) (by decide), m1 17 (by decide), eM_1]; exact su_s
    have hN0 := P.nN
    exact ⟨rfl, by omega, by omega, M4, P4, r4, e17, la4, eo, fun q h1 h2 => by rw [f4 q h1 (by omega), f3 q h1, f2 q h1, f1 q h1 (by omega)]; exact hup_at eh_1 (by omega)⟩
  · refine wp_vret dX11_lay_7 rfl ?_
    rcases hl with q | ⟨q, la⟩
    · exact absurd q c_4
    · exact ⟨rfl, Nat.le_refl _, by omega, M, P, r, q, la, fun f _ => rfl, FA.rf⟩

theorem LL_ml {lb rm : Nat → Int} {rl : Int} {od : Nat → Int} (ml : MLS S M (lvAll S lb rm rl od)) : M 26 0 0 = LL S lb rm rl := by
  rw [ml.2.2.2.1]
  exact LL_od od
theorem m_relaid0 (P : MP G N M L z h) (r : RS S M) (w : WF S) (tp : TOP S) : CT G mX11_relaid [.ref (cB G + 169), JV 0] h N 2 48 (fun r h' N' => N ≤ N' ∧ N' ≤ N + 2 ∧ ∃ v : Int, r = some (JV v) ∧ ∃ M', MP G N' M' L z h' ∧ RS S M' ∧ M' 17 0 0 = 0 ∧ (∀ f, (∀ g ∈ mDV, g ≠ f) → M' f = M f) ∧ (∃ eb ee, EP S eb ee ∧ LDY S ee v) ∧ FA G N h h') := by
  have hN0 := P.nN
  refine CT_of (by decide +kernel) rfl (by simp [Value.category]) (Nat.le_of_ble_eq_true rfl) ?_
  change WP G mX11_relaid _ noX _ _ h N 0 [some (.ref (cB G + 169)), some (JV 0)] []
  refine wp_aload_n dX11_relaid_0 rfl ?_
  refine wp_iconst dX11_relaid_1 ?_
  refine wp_put fkX11_175 dX11_relaid_2 (P.s0 r) rfl rfl (Nat.le_of_ble_eq_true rfl) ?_
  obtain ⟨h_1, eh_1⟩ : ∃ hh9 : AH, hh9 = hup h (cB G + 169) (eO 11 [JV (M 0 0 0), .ref (cB G + 170), .ref (cB G + 171), .ref (cB G + 172), .ref (cB G + 177), .ref (cB G + 178), JV (S 13 0 0), .ref (cB G + 179), .ref (cB G + 180), .ref (cB G + 181), .ref (cB G + 182), .ref (cB G + 183), .ref (cB G + 208), .ref (cB G + 209), JV (S 14 0 0), .ref (cB G + 212), JV (S 15 0 0), JV 0, .ref (cB G + 253), .ref (cB G + 254), .ref (cB G + 257), .ref (cB G + 260), .ref (cB G + 261), .ref (cB G + 264), JV (M 24 0 0), JV (M 25 0 0), JV (M 26 0 0), .ref (cB G + 265), JV (M 28 0 0), .ref (cB G + 270), .ref (cB G + 273), .ref (cB G + 274), .ref (cB G + 275), .ref (cB G + 276), .long z]) := ⟨_, rfl⟩
  refine WP.heq eh_1 ?_
  obtain ⟨M_1, eM_1⟩ : ∃ ss9 : ST, ss9 = su M 17 0 0 0 := ⟨_, rfl⟩
  have P_1 : MP G (N) M_1 L z h_1 := by rw [eM_1]; exact P.sc (f := 17) (v := 0) (by decide) (eh_1.trans (by simp [cMod, su, r.2.2.1.1, r.2.2.1.2.1, r.2.2.1.2.2]))
  have r_1 : RS S M_1 := by rw [eM_1]; exact r.der (by decide)
  refine wp_aload_n dX11_relaid_5 rfl ?_
  refine wp_v0 1 24 (m_sort (N := N) P_1 r_1 w tp) cvX11_179 dX11_relaid_6 ⟨Nat.le_of_ble_eq_true rfl, Nat.le_of_ble_eq_true rfl⟩ (Nat.le_of_ble_eq_true rfl) (P_1.s0 r_1) rfl rfl (by omega) (by omega) (fun r9 h1 N1 hq => ?_)
  obtain ⟨rfl, hN1, M1, P1, r1, tq1, m1, f1⟩ := hq
  rw [hN1]
  change WP G mX11_relaid _ _ _ _ h1 (N + 1) 9 [some (.ref (cB G + 169)), some (JV 0)] []
  refine wp_aload_n dX11_relaid_9 rfl ?_
  refine wp_v0 1 24 (m_layEarly (N := N + 1) P1 r1 w tq1) cvX11_182 dX11_relaid_10 ⟨Nat.le_of_ble_eq_true rfl, Nat.le_of_ble_eq_true rfl⟩ (Nat.le_of_ble_eq_true rfl) (P1.s0 r1) rfl rfl (by omega) (by omega) (fun r9 h2 N2 hq => ?_)
  obtain ⟨rfl, hN2, M2, P2, r2, ep2, ldy2, m2, f2⟩ := hq
  rw [hN2]
  change WP G mX11_relaid _ _ _ _ h2 (N + 1) 13 [some (.ref (cB G + 169)), some (JV 0)] []
  refine wp_iload_n dX11_relaid_13 rfl ?_
  refine wp_if_ne 22 dX11_relaid_14 (by decide) ⟨by omega, by omega⟩ (fun c_14 => ?_) (fun c_14 => ?_)
  · exact absurd rfl c_14
  · refine wp_aload_n dX11_relaid_17 rfl ?_
    refine wp_get fkX11_133 dX11_relaid_18 (P2.s0 r2) rfl ?_
    refine wp_iret dX11_relaid_21 rfl ?_
    refine ⟨by omega, by omega, M2 25 0 0, rfl, M2, P2, r2, ?_, ?_, ⟨M2 19 0, M2 19 1, ep2, ldy2⟩, fun q h1 h2 => by rw [f2 q h1, f1 q h1 (by omega)]; exact hup_at eh_1 (by omega)⟩
    · rw [m2 17 (by decide) (by decide), m1 17 (by decide), eM_1]; exact su_s
    · exact fun f hf => by
        rw [m2 f (fun q => hf 19 (by decide) q.symm) (fun q => hf 25 (by decide) q.symm), m1 f (fun q => hf 18 (by decide) q.symm), eM_1, su_f (fun q => hf 17 (by decide) q.symm)]

theorem m_relaid1 (P : MP G N M L z h) (r : RS S M) (w : WF S) (tp : TOP S) : CT G mX11_relaid [.ref (cB G + 169), JV 1] h N 2 48 (fun r h' N' => N ≤ N' ∧ N' ≤ N + 2 ∧ ∃ v : Int, r = some (JV v) ∧ ∃ M', MP G N' M' L z h' ∧ RS S M' ∧ M' 17 0 0 = 0 ∧ (∀ f, (∀ g ∈ mDV, g ≠ f) → M' f = M f) ∧ (∃ eb ee lb le rm ld, EP S eb ee ∧ LDY S ee ld ∧ LATE S eb lb le rm ld ∧ v = LL S lb rm (S 15 0 0)) ∧ FA G N h h') := by
  have hN0 := P.nN
  refine CT_of (by decide +kernel) rfl (by simp [Value.category]) (Nat.le_of_ble_eq_true rfl) ?_
  change WP G mX11_relaid _ noX _ _ h N 0 [some (.ref (cB G + 169)), some (JV 1)] []
  refine wp_aload_n dX11_relaid_0 rfl ?_
  refine wp_iconst dX11_relaid_1 ?_
  refine wp_put fkX11_175 dX11_relaid_2 (P.s0 r) rfl rfl (Nat.le_of_ble_eq_true rfl) ?_
  obtain ⟨h_1, eh_1⟩ : ∃ hh9 : AH, hh9 = hup h (cB G + 169) (eO 11 [JV (M 0 0 0), .ref (cB G + 170), .ref (cB G + 171), .ref (cB G + 172), .ref (cB G + 177), .ref (cB G + 178), JV (S 13 0 0), .ref (cB G + 179), .ref (cB G + 180), .ref (cB G + 181), .ref (cB G + 182), .ref (cB G + 183), .ref (cB G + 208), .ref (cB G + 209), JV (S 14 0 0), .ref (cB G + 212), JV (S 15 0 0), JV 0, .ref (cB G + 253), .ref (cB G + 254), .ref (cB G + 257), .ref (cB G + 260), .ref (cB G + 261), .ref (cB G + 264), JV (M 24 0 0), JV (M 25 0 0), JV (M 26 0 0), .ref (cB G + 265), JV (M 28 0 0), .ref (cB G + 270), .ref (cB G + 273), .ref (cB G + 274), .ref (cB G + 275), .ref (cB G + 276), .long z]) := ⟨_, rfl⟩
  refine WP.heq eh_1 ?_
  obtain ⟨M_1, eM_1⟩ : ∃ ss9 : ST, ss9 = su M 17 0 0 0 := ⟨_, rfl⟩
  have P_1 : MP G (N) M_1 L z h_1 := by rw [eM_1]; exact P.sc (f := 17) (v := 0) (by decide) (eh_1.trans (by simp [cMod, su, r.2.2.1.1, r.2.2.1.2.1, r.2.2.1.2.2]))
  have r_1 : RS S M_1 := by rw [eM_1]; exact r.der (by decide)
  refine wp_aload_n dX11_relaid_5 rfl ?_
  refine wp_v0 1 24 (m_sort (N := N) P_1 r_1 w tp) cvX11_179 dX11_relaid_6 ⟨Nat.le_of_ble_eq_true rfl, Nat.le_of_ble_eq_true rfl⟩ (Nat.le_of_ble_eq_true rfl) (P_1.s0 r_1) rfl rfl (by omega) (by omega) (fun r9 h1 N1 hq => ?_)
  obtain ⟨rfl, hN1, M1, P1, r1, tq1, m1, f1⟩ := hq
  rw [hN1]
  change WP G mX11_relaid _ _ _ _ h1 (N + 1) 9 [some (.ref (cB G + 169)), some (JV 1)] []
  refine wp_aload_n dX11_relaid_9 rfl ?_
  refine wp_v0 1 24 (m_layEarly (N := N + 1) P1 r1 w tq1) cvX11_182 dX11_relaid_10 ⟨Nat.le_of_ble_eq_true rfl, Nat.le_of_ble_eq_true rfl⟩ (Nat.le_of_ble_eq_true rfl) (P1.s0 r1) rfl rfl (by omega) (by omega) (fun r9 h2 N2 hq => ?_)
  obtain ⟨rfl, hN2, M2, P2, r2, ep2, ldy2, m2, f2⟩ := hq
  rw [hN2]
  change WP G mX11_relaid _ _ _ _ h2 (N + 1) 13 [some (.ref (cB G + 169)), some (JV 1)] []
  refine wp_iload_n dX11_relaid_13 rfl ?_
  refine wp_if_ne 22 dX11_relaid_14 (by decide) ⟨by omega, by omega⟩ (fun c_14 => ?_) (fun c_14 => ?_)
  · refine wp_aload_n dX11_relaid_22 rfl ?_
    have tq2 : TOQ S (fun i => M2 18 i 0) := by rw [show M2 18 = M1 18 from m2 18 (by decide) (by decide)]; exact tq1
    refine wp_v0 1 24 (m_layLate (N := N + 1) P2 r2 w tp tq2 ep2 ldy2) cvX11_185 dX11_relaid_23 ⟨Nat.le_of_ble_eq_true rfl, Nat.le_of_ble_eq_true rfl⟩ (Nat.le_of_ble_eq_true rfl) (P2.s0 r2) rfl rfl (by omega) (by omega) (fun r9 h3 N3 hq => ?_)
    obtain ⟨rfl, hN3, M3, P3, r3, lt3, m3, f3⟩ := hq
    rw [hN3]
    have e319 : M3 19 = M2 19 := m3 19 (by decide) (by decide)
    have e325 : M3 25 = M2 25 := m3 25 (by decide) (by decide)
    have ep3 := ep2
    have ldy3 := ldy2
    rw [← e319] at ep3 ldy3
    rw [← e325] at ldy3
    change WP G mX11_relaid _ _ _ _ h3 (N + 1) 26 [some (.ref (cB G + 169)), some (JV 1)] []
    refine wp_aload_n dX11_relaid_26 rfl ?_
    refine wp_v0 0 0 (m_layLevelled (N := N + 1) P3 r3 w (LATE_b w tp ep3 ldy3 lt3)) cvX11_188 dX11_relaid_27 ⟨Nat.le_of_ble_eq_true rfl, Nat.le_of_ble_eq_true rfl⟩ (Nat.le_of_ble_eq_true rfl) (P3.s0 r3) rfl rfl (by omega) (by omega) (fun r9 h4 N4 hq => ?_)
    obtain ⟨rfl, hN4, M4, P4, r4, ml4, m4, f4⟩ := hq
    rw [hN4]
    have e4 : ∀ f, (∀ g ∈ mLV, g ≠ f) → M4 f = M3 f := m4
    have la4 : LAID S M4 := by
      unfold LAID
      rw [m4 19 (by decide), m4 20 (by decide), m4 21 (by decide), m4 25 (by decide)]
      exact ⟨ep3, ldy3, lt3, _, ml4⟩
    change WP G mX11_relaid _ _ _ _ h4 (N + 1 + 1) 30 [some (.ref (cB G + 169)), some (JV 1)] []
    refine wp_aload_n dX11_relaid_30 rfl ?_
    refine wp_get fkX11_153 dX11_relaid_31 (P4.s0 r4) rfl ?_
    refine wp_iret dX11_relaid_34 rfl ?_
    have eo : ∀ f, (∀ g ∈ mDV, g ≠ f) → M4 f = M f := fun f hf => by
      rw [m4 f (fun g hg => hf g (by revert g; decide)), m3 f (fun q => hf 20 (by decide) q.symm) (fun q => hf 21 (by decide) q.symm), m2 f (fun q => hf 19 (by decide) q.symm) (fun q => hf 25 (by decide) q.symm), m1 f (fun q => hf 18 (by decide) q.symm), eM_1, su_f (fun q => hf 17 (by decide) q.symm)]
    have e17 : M4 17 0 0 = 0 := by rw [m4 17 (by decide), m3 17 (by decide) (by decide), m2 17 (by decide) (by decide), m1 17 (by decide), eM_1]; exact su_s
    exact ⟨by omega, by omega, M4 26 0 0, rfl, M4, P4, r4, e17, eo, ⟨M3 19 0, M3 19 1, M3 20 0, M3 20 1, fun t => M3 21 t 0, M3 25 0 0, ep3, ldy3, lt3, LL_ml ml4⟩, fun q h1 h2 => by rw [f4 q h1 (by omega), f3 q h1, f2 q h1, f1 q h1 (by omega)]; exact hup_at eh_1 (by omega)⟩
  · exact absurd c_14 (by decide)

theorem LAID.of {M' : ST} (la : LAID S M) (e : ∀ f ∈ [19, 20, 21, 22, 23, 24, 25, 26, 27], M' f = M f) : LAID S M' := by
  unfold LAID MLS at *
  rw [e 19 (by decide), e 20 (by decide), e 21 (by decide), e 22 (by decide), e 23 (by decide), e 24 (by decide), e 25 (by decide), e 26 (by decide), e 27 (by decide)]
  exact la
theorem m_hasTask (P : MP G N M L z h) (r : RS S M) (w : WF S) (tp : TOP S) (hl : M 17 0 0 = 0 ∨ (M 17 0 0 = 1 ∧ LAID S M)) {v : Int} (hv : InR v) : CT G mX11_hasTask [.ref (cB G + 169), JV v] h N 2 48 (fun r h' N' => N ≤ N' ∧ N' ≤ N + 2 ∧ r = some (JV (bI (decide (0 ≤ v ∧ v < S 13 0 0)))) ∧ ∃ M', MP G N' M' L z h' ∧ RS S M' ∧ M' 0 0 0 = (if 0 ≤ v ∧ v < S 13 0 0 then 0 else 1) ∧ M' 17 0 0 = 1 ∧ LAID S M' ∧ (∀ f, (∀ g ∈ mDV, g ≠ f) → f ≠ 0 → M' f = M f) ∧ FA G N h h') := by
  have hN0 := P.nN
  refine CT_of (by decide +kernel) rfl (by simp [Value.category]) (Nat.le_of_ble_eq_true rfl) ?_
  change WP G mX11_hasTask _ noX _ _ h N 0 [some (.ref (cB G + 169)), some (JV v)] []
  refine wp_aload_n dX11_hasTask_0 rfl ?_
  refine wp_v0 0 0 (m_lay (N := N) P r w tp hl) cvX11_220 dX11_hasTask_1 ⟨Nat.le_of_ble_eq_true rfl, Nat.le_of_ble_eq_true rfl⟩ (Nat.le_of_ble_eq_true rfl) (P.s0 r) rfl rfl (by omega) (by omega) (fun r9 h7 N7 hq => ?_)
  obtain ⟨rfl, hN7, hN7b, M7, P7, r7, e717, la7, m7, f7⟩ := hq
  change WP G mX11_hasTask _ _ _ _ h7 N7 4 [some (.ref (cB G + 169)), some (JV v)] []
  refine wp_aload_n dX11_hasTask_4 rfl ?_
  refine wp_aload_n dX11_hasTask_5 rfl ?_
  refine wp_iload_n dX11_hasTask_6 rfl ?_
  refine wp_v1p (m_isTask (N := N7) P7 r7 w hv) cvX11_201 dX11_hasTask_7 ⟨Nat.le_of_ble_eq_true rfl, Nat.le_of_ble_eq_true rfl⟩ (Nat.le_of_ble_eq_true rfl) (P7.s0 r7) rfl rfl ?_
  refine wp_if_eq 17 dX11_hasTask_10 (by decide) (bI_r _) (fun c_10 => ?_) (fun c_10 => ?_)
  · refine wp_iconst dX11_hasTask_17 ?_
    refine wp_put fkX11_88 dX11_hasTask_18 (P7.s0 r7) rfl rfl (Nat.le_of_ble_eq_true rfl) ?_
    obtain ⟨h_1, eh_1⟩ : ∃ hh9 : AH, hh9 = hup h7 (cB G + 169) (eO 11 [JV 1, .ref (cB G + 170), .ref (cB G + 171), .ref (cB G + 172), .ref (cB G + 177), .ref (cB G + 178), JV (S 13 0 0), .ref (cB G + 179), .ref (cB G + 180), .ref (cB G + 181), .ref (cB G + 182), .ref (cB G + 183), .ref (cB G + 208), .ref (cB G + 209), JV (S 14 0 0), .ref (cB G + 212), JV (S 15 0 0), JV (M7 17 0 0), .ref (cB G + 253), .ref (cB G + 254), .ref (cB G + 257), .ref (cB G + 260), .ref (cB G + 261), .ref (cB G + 264), JV (M7 24 0 0), JV (M7 25 0 0), JV (M7 26 0 0), .ref (cB G + 265), JV (M7 28 0 0), .ref (cB G + 270), .ref (cB G + 273), .ref (cB G + 274), .ref (cB G + 275), .ref (cB G + 276), .long z]) := ⟨_, rfl⟩
    refine WP.heq eh_1 ?_
    obtain ⟨M_1, eM_1⟩ : ∃ ss9 : ST, ss9 = su M7 0 0 0 1 := ⟨_, rfl⟩
    have P_1 : MP G (N7) M_1 L z h_1 := by rw [eM_1]; exact P7.sc (f := 0) (v := 1) (by decide) (eh_1.trans (by simp [cMod, su, r7.2.2.1.1, r7.2.2.1.2.1, r7.2.2.1.2.2]))
    have r_1 : RS S M_1 := by rw [eM_1]; exact r7.der (by decide)
    refine wp_aload_n dX11_hasTask_21 rfl ?_
    refine wp_get fkX11_88 dX11_hasTask_22 (P_1.s0 r_1) rfl ?_
    rw [show M_1 0 0 0 = 1 by rw [eM_1]; exact su_s]
    refine wp_if_ne 32 dX11_hasTask_25 (by decide) ⟨by omega, by omega⟩ (fun c_25 => ?_) (fun c_25 => ?_)
    · refine wp_iconst dX11_hasTask_32 ?_
      refine wp_zret dX11_hasTask_33 rfl (by omega) ?_
      refine ⟨by omega, by omega, ?_, M_1, P_1, r_1, ?_, ?_, la7.of fun f hf => by rw [eM_1, su_f (fun q => by subst q; exact absurd hf (by decide))], fun f hf h0 => by rw [eM_1, su_f h0]; exact m7 f hf, (f7.tr (FA.rf.up eh_1 (by omega)) hN7)⟩
      · rw [bI_np (fun q => by rw [decide_eq_true (show 0 ≤ v ∧ v ≤ S 13 0 0 - 1 by omega)] at c_10; exact absurd c_10 (by decide))]
      · rw [eM_1, su_s, if_neg (fun q => by rw [decide_eq_true (show 0 ≤ v ∧ v ≤ S 13 0 0 - 1 by omega)] at c_10; exact absurd c_10 (by decide))]
      · rw [eM_1, su_f (by decide)]; exact e717
    · exact absurd c_25 (by decide)
  · refine wp_iconst dX11_hasTask_13 ?_
    refine wp_goto 18 dX11_hasTask_14 (by decide) ?_
    refine wp_put fkX11_88 dX11_hasTask_18 (P7.s0 r7) rfl rfl (Nat.le_of_ble_eq_true rfl) ?_
    obtain ⟨h_1, eh_1⟩ : ∃ hh9 : AH, hh9 = hup h7 (cB G + 169) (eO 11 [JV 0, .ref (cB G + 170), .ref (cB G + 171), .ref (cB G + 172), .ref (cB G + 177), .ref (cB G + 178), JV (S 13 0 0), .ref (cB G + 179), .ref (cB G + 180), .ref (cB G + 181), .ref (cB G + 182), .ref (cB G + 183), .ref (cB G + 208), .ref (cB G + 209), JV (S 14 0 0), .ref (cB G + 212), JV (S 15 0 0), JV (M7 17 0 0), .ref (cB G + 253), .ref (cB G + 254), .ref (cB G + 257), .ref (cB G + 260), .ref (cB G + 261), .ref (cB G + 264), JV (M7 24 0 0), JV (M7 25 0 0), JV (M7 26 0 0), .ref (cB G + 265), JV (M7 28 0 0), .ref (cB G + 270), .ref (cB G + 273), .ref (cB G + 274), .ref (cB G + 275), .ref (cB G + 276), .long z]) := ⟨_, rfl⟩
    refine WP.heq eh_1 ?_
    obtain ⟨M_1, eM_1⟩ : ∃ ss9 : ST, ss9 = su M7 0 0 0 0 := ⟨_, rfl⟩
    have P_1 : MP G (N7) M_1 L z h_1 := by rw [eM_1]; exact P7.sc (f := 0) (v := 0) (by decide) (eh_1.trans (by simp [cMod, su, r7.2.2.1.1, r7.2.2.1.2.1, r7.2.2.1.2.2]))
    have r_1 : RS S M_1 := by rw [eM_1]; exact r7.der (by decide)
    refine wp_aload_n dX11_hasTask_21 rfl ?_
    refine wp_get fkX11_88 dX11_hasTask_22 (P_1.s0 r_1) rfl ?_
    rw [show M_1 0 0 0 = 0 by rw [eM_1]; exact su_s]
    refine wp_if_ne 32 dX11_hasTask_25 (by decide) ⟨by omega, by omega⟩ (fun c_25 => ?_) (fun c_25 => ?_)
    · exact absurd rfl c_25
    · refine wp_iconst dX11_hasTask_28 ?_
      refine wp_goto 33 dX11_hasTask_29 (by decide) ?_
      refine wp_zret dX11_hasTask_33 rfl (by omega) ?_
      refine ⟨by omega, by omega, ?_, M_1, P_1, r_1, ?_, ?_, la7.of fun f hf => by rw [eM_1, su_f (fun q => by subst q; exact absurd hf (by decide))], fun f hf h0 => by rw [eM_1, su_f h0]; exact m7 f hf, (f7.tr (FA.rf.up eh_1 (by omega)) hN7)⟩
      · rw [bI_pp (by have := bI_p c_10; omega)]
      · rw [eM_1, su_s, if_pos (by have := bI_p c_10; omega)]
      · rw [eM_1, su_f (by decide)]; exact e717

end Mx

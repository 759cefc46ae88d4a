/-! ===== the reference: the best rule, what could grow, a link less ===== -/
section Mb
variable {G : Ctx} {h h1 : AH} {N : Nat} {S S' M M' : ST} {L L' : Nat → Nat} {z : Int64} {K : KTup}
theorem su2 {f i j : Nat} {v v' : Int} : su (su S f i j v) f i j v' = su S f i j v' := by
  funext a b c
  unfold su
  by_cases hq : a = f ∧ b = i ∧ c = j
  · rw [if_pos hq, if_pos hq]
  · rw [if_neg hq, if_neg hq, if_neg hq]
theorem su_id {f i j : Nat} : su S f i j (S f i j) = S := by
  funext a b c
  unfold su
  by_cases hq : a = f ∧ b = i ∧ c = j
  · rw [if_pos hq, hq.1, hq.2.1, hq.2.2]
  · rw [if_neg hq]
theorem WF.rul {x : Int} (w : WF S) (hx : 0 ≤ x ∧ x ≤ 3) : WF (su S 15 0 0 x) := by
  obtain ⟨w1, w2, w3, w4, w5, w6, w7, w8, w9, w10, w11, w12, w13⟩ := w
  refine ⟨w1, w2, w3, w4, w5, w6, w7, w8, ?_, w10, w11, w12, w13⟩
  rw [su_s]
  exact hx
/-- the answers of relaid -/
def RV0 (S : ST) (v : Int) : Prop := ∃ eb ee, EP S eb ee ∧ LDY S ee v
def RV1 (S : ST) (v : Int) : Prop := ∃ eb ee lb le rm ld, EP S eb ee ∧ LDY S ee ld ∧ LATE S eb lb le rm ld ∧ v = LL S lb rm (S 15 0 0)
theorem RV1.b (w : WF S) {v : Int} (r : RV1 S v) : 0 ≤ v ∧ v ≤ 4984 := by
  obtain ⟨eb, ee, lb, le, rm, ld, a, b, c, d⟩ := r
  rw [d]
  exact LL_b w
theorem RV0.b {v : Int} (r : RV0 S v) : 0 ≤ v ∧ v ≤ 5500 := by
  obtain ⟨eb, ee, a, b⟩ := r
  exact b.2.2
theorem brF_cg {f g : Int → Int} : ∀ (m i : Nat) (y z : Int), (∀ j : Nat, i ≤ j → j < i + m → f j = g j) → brF f m i y z = brF g m i y z
  | 0, _, _, _, _ => rfl
  | m + 1, i, y, z, e => by
    rw [brF, brF, e i (Nat.le_refl _) (by omega), brF_cg m (i + 1) _ _ (fun j h1 h2 => e j (by omega) (by omega)), brF_cg m (i + 1) _ _ (fun j h1 h2 => e j (by omega) (by omega))]
theorem brF_0 {f : Int → Int} {z : Int} (h : f 0 < z) : brF f 4 0 0 z = brF f 3 1 0 (f 0) := by
  show (if f 0 < z then brF f 3 1 0 (f 0) else brF f 3 1 0 z) = _
  rw [if_pos h]
abbrev mKQ : List Nat := 0 :: mKP
theorem mKQ_DV : ∀ f ∈ mKQ, ∀ g ∈ mDV, g ≠ f := by decide
theorem lm_bestRule {Q : PQ} {X : PX} {h0 : AH} {N0 : Nat} {M0 : ST} (w : WF S) (tp : TOP S) : ∀ (m : Nat) (k9 n9 : Nat) (i : Nat) (y zz : Int) (u : Option Value) (M : ST) (h : AH) (N : Nat), (4 - i = m) → (i ≤ 4) → (0 ≤ zz ∧ zz ≤ 2147483647) → (MP G N M L z h) → (RS (su S 15 0 0 (i : Int)) M) → (i = 0 ∨ M 17 0 0 = 0) → (∀ f ∈ mKQ, M f = M0 f) → (FA G N0 h0 h) → (N0 ≤ N ∧ N ≤ N0 + 2 * i) → (2 * m ≤ k9) → (48 * m ≤ n9) → (∀ (f : Int → Int) (M' : ST) (h' : AH) (N' : Nat) (Z' : Int) (u' : Option Value), (∀ j : Nat, i ≤ j → j < 4 → RV1 (su S 15 0 0 (j : Int)) (f j)) → MP G N' M' L z h' → RS (su S 15 0 0 4) M' → M' 17 0 0 = 0 → (∀ f ∈ mKQ, M' f = M0 f) → FA G N0 h0 h' → (N0 ≤ N' ∧ N' ≤ N0 + 8) → WP G mX11_bestRule Q X 0 0 h' N' 66 [some (.ref (cB G + 169)), some (JV (S 15 0 0)), some (JV (brF f m i y zz)), some (JV Z'), u'] []) → WP G mX11_bestRule Q X k9 n9 h N 21 [some (.ref (cB G + 169)), some (JV (S 15 0 0)), some (JV y), some (JV zz), u] [] := by
  intro m
  induction m with
  | zero =>
    intro k9 n9 i y zz u M h N hm hi hz P r h17 kp fa hN hk hn kk
    refine wp_aload_n dX11_bestRule_21 rfl ?_
    refine wp_get fkX11_143 dX11_bestRule_22 P.c0 rfl ?_
    rw [show M 16 0 0 = (i : Int) by rw [r.2.2.1.2.2]; exact su_s]
    refine wp_iconst dX11_bestRule_25 ?_
    refine wp_icmp_ge 66 dX11_bestRule_26 (by decide) ⟨by omega, by omega⟩ ⟨by omega, by omega⟩ (fun c_26 => ?_) (fun c_26 => ?_)
    · have i4 : i = 4 := by omega
      subst i4
      exact WP.le (Nat.zero_le _) (Nat.zero_le _) (kk (fun _ => 0) M h N zz u (fun j h1 h2 => absurd h1 (by omega)) P r (by omega) kp fa (by omega))
    · exact absurd c_26 (by omega)
  | succ m ih =>
    intro k9 n9 i y zz u M h N hm hi hz P r h17 kp fa hN hk hn kk
    refine wp_aload_n dX11_bestRule_21 rfl ?_
    refine wp_get fkX11_143 dX11_bestRule_22 P.c0 rfl ?_
    rw [show M 16 0 0 = (i : Int) by rw [r.2.2.1.2.2]; exact su_s]
    refine wp_iconst dX11_bestRule_25 ?_
    refine wp_icmp_ge 66 dX11_bestRule_26 (by decide) ⟨by omega, by omega⟩ ⟨by omega, by omega⟩ (fun c_26 => ?_) (fun c_26 => ?_)
    · exact absurd c_26 (by omega)
    · refine wp_aload_n dX11_bestRule_29 rfl ?_
      refine wp_iconst dX11_bestRule_30 ?_
      refine wp_v1 (k9 - 2) (n9 - 48) (m_relaid1 (N := N) P (r) (w.rul (by omega)) (tp.same (su_f (by decide)) (su_f (by decide)) (su_f (by decide)) (su_f (by decide)) (su_f (by decide)) (su_f (by decide)))) cvX11_272 dX11_bestRule_31 ⟨Nat.le_of_ble_eq_true rfl, Nat.le_of_ble_eq_true rfl⟩ (Nat.le_of_ble_eq_true rfl) P.c0 rfl rfl (by omega) (by omega) (fun r9 h5 N5 hq => ?_)
      obtain ⟨hNa5, hNb5, v5, rfl, M5, P5, r5, z5, k5, w5, f5⟩ := hq
      change WP G mX11_bestRule _ _ _ _ h5 N5 34 [some (.ref (cB G + 169)), some (JV (S 15 0 0)), some (JV y), some (JV zz), u] [JV v5]
      have R5 : RV1 (su S 15 0 0 (i : Int)) v5 := w5
      have b5 := R5.b (w.rul (by omega))
      clear w5
      refine wp_istore dX11_bestRule_34 (Nat.le_of_ble_eq_true rfl) rfl ?_
      change WP G mX11_bestRule _ _ _ _ h5 N5 36 [some (.ref (cB G + 169)), some (JV (S 15 0 0)), some (JV y), some (JV zz), some (JV v5)] []
      refine wp_iload dX11_bestRule_36 rfl ?_
      refine wp_iload_n dX11_bestRule_38 rfl ?_
      refine wp_icmp_lt 45 dX11_bestRule_39 (by decide) ⟨by omega, by omega⟩ ⟨by omega, by omega⟩ (fun c_39 => ?_) (fun c_39 => ?_)
      · refine wp_iload dX11_bestRule_45 rfl ?_
        refine wp_istore_n dX11_bestRule_47 (Nat.le_of_ble_eq_true rfl) rfl ?_
        change WP G mX11_bestRule _ _ _ _ h5 N5 48 [some (.ref (cB G + 169)), some (JV (S 15 0 0)), some (JV y), some (JV v5), some (JV v5)] []
        refine wp_aload_n dX11_bestRule_48 rfl ?_
        refine wp_get fkX11_143 dX11_bestRule_49 P5.c0 rfl ?_
        rw [show M5 16 0 0 = (i : Int) by rw [r5.2.2.1.2.2]; exact su_s]
        refine wp_istore_n dX11_bestRule_52 (Nat.le_of_ble_eq_true rfl) rfl ?_
        change WP G mX11_bestRule _ _ _ _ h5 N5 53 [some (.ref (cB G + 169)), some (JV (S 15 0 0)), some (JV (i : Int)), some (JV v5), some (JV v5)] []
        refine wp_aload_n dX11_bestRule_53 rfl ?_
        refine wp_dup dX11_bestRule_54 rfl ?_
        refine wp_get fkX11_143 dX11_bestRule_55 P5.c0 rfl ?_
        rw [show M5 16 0 0 = (i : Int) by rw [r5.2.2.1.2.2]; exact su_s]
        refine wp_iconst dX11_bestRule_58 ?_
        refine wp_iadd dX11_bestRule_59 ?_
        refine wp_put fkX11_143 dX11_bestRule_60 P5.c0 rfl rfl (Nat.le_of_ble_eq_true rfl) ?_
        obtain ⟨h_1, eh_1⟩ : ∃ hh9 : AH, hh9 = hup h5 (cB G + 169) (eO 11 [JV (M5 0 0 0), .ref (cB G + 170), .ref (cB G + 171), .ref (cB G + 172), .ref (cB G + 177), .ref (cB G + 178), JV (M5 6 0 0), .ref (cB G + 179), .ref (cB G + 180), .ref (cB G + 181), .ref (cB G + 182), .ref (cB G + 183), .ref (cB G + 208), .ref (cB G + 209), JV (M5 14 0 0), .ref (cB G + 212), JV ((i : Int) + 1), JV (M5 17 0 0), .ref (cB G + 253), .ref (cB G + 254), .ref (cB G + 257), .ref (cB G + 260), .ref (cB G + 261), .ref (cB G + 264), JV (M5 24 0 0), JV (M5 25 0 0), JV (M5 26 0 0), .ref (cB G + 265), JV (M5 28 0 0), .ref (cB G + 270), .ref (cB G + 273), .ref (cB G + 274), .ref (cB G + 275), .ref (cB G + 276), .long z]) := ⟨_, rfl⟩
        refine WP.heq eh_1 ?_
        obtain ⟨M_1, eM_1⟩ : ∃ ss9 : ST, ss9 = su M5 16 0 0 ((i : Int) + 1) := ⟨_, rfl⟩
        have P_1 : MP G (N5) M_1 L z h_1 := by rw [eM_1]; exact P5.sc (f := 16) (v := (i : Int) + 1) (by decide) (eh_1.trans (by simp [cMod, su]))
        refine wp_goto 21 dX11_bestRule_63 (by decide) ?_
        have rn : RS (su S 15 0 0 ((i + 1 : Nat) : Int)) M_1 := by have q := RS_s16 (v := (i : Int) + 1) r5; rw [su2] at q; rw [eM_1]; exact q
        refine ih (k9 - 2) (n9 - 48) (i + 1) (i : Int) v5 (some (JV v5)) M_1 h_1 N5 (by omega) (by omega) (by omega) P_1 rn (Or.inr (by rw [eM_1, su_f (by decide)]; exact z5)) (fun f hf => by rw [eM_1, su_f ((show ∀ x ∈ mKQ, x ≠ 16 by decide) f hf), k5 f (mKQ_DV f hf)]; exact kp f hf) ((fa.tr f5 (by omega)).up eh_1 (by omega)) (by omega) (by omega) (by omega) (fun f M' h' N' Z' u' hf P' r' z' k' f' n' => ?_)
        have q := kk (fun x => if x = (i : Int) then v5 else f x) M' h' N' Z' u' (fun j h1 h2 => by
          by_cases hj : j = i
          · rw [hj, if_pos rfl]; exact R5
          · rw [if_neg (by omega)]; exact hf j (by omega) h2) P' r' z' k' f' n'
        rw [brF, if_pos rfl, if_pos c_39, brF_cg (g := f) m (i + 1) _ _ (fun j h1 h2 => if_neg (by omega))] at q
        exact q
      · refine wp_goto 53 dX11_bestRule_42 (by decide) ?_
        refine wp_aload_n dX11_bestRule_53 rfl ?_
        refine wp_dup dX11_bestRule_54 rfl ?_
        refine wp_get fkX11_143 dX11_bestRule_55 P5.c0 rfl ?_
        rw [show M5 16 0 0 = (i : Int) by rw [r5.2.2.1.2.2]; exact su_s]
        refine wp_iconst dX11_bestRule_58 ?_
        refine wp_iadd dX11_bestRule_59 ?_
        refine wp_put fkX11_143 dX11_bestRule_60 P5.c0 rfl rfl (Nat.le_of_ble_eq_true rfl) ?_
        obtain ⟨h_1, eh_1⟩ : ∃ hh9 : AH, hh9 = hup h5 (cB G + 169) (eO 11 [JV (M5 0 0 0), .ref (cB G + 170), .ref (cB G + 171), .ref (cB G + 172), .ref (cB G + 177), .ref (cB G + 178), JV (M5 6 0 0), .ref (cB G + 179), .ref (cB G + 180), .ref (cB G + 181), .ref (cB G + 182), .ref (cB G + 183), .ref (cB G + 208), .ref (cB G + 209), JV (M5 14 0 0), .ref (cB G + 212), JV ((i : Int) + 1), JV (M5 17 0 0), .ref (cB G + 253), .ref (cB G + 254), .ref (cB G + 257), .ref (cB G + 260), .ref (cB G + 261), .ref (cB G + 264), JV (M5 24 0 0), JV (M5 25 0 0), JV (M5 26 0 0), .ref (cB G + 265), JV (M5 28 0 0), .ref (cB G + 270), .ref (cB G + 273), .ref (cB G + 274), .ref (cB G + 275), .ref (cB G + 276), .long z]) := ⟨_, rfl⟩
        refine WP.heq eh_1 ?_
        obtain ⟨M_1, eM_1⟩ : ∃ ss9 : ST, ss9 = su M5 16 0 0 ((i : Int) + 1) := ⟨_, rfl⟩
        have P_1 : MP G (N5) M_1 L z h_1 := by rw [eM_1]; exact P5.sc (f := 16) (v := (i : Int) + 1) (by decide) (eh_1.trans (by simp [cMod, su]))
        refine wp_goto 21 dX11_bestRule_63 (by decide) ?_
        have rn : RS (su S 15 0 0 ((i + 1 : Nat) : Int)) M_1 := by have q := RS_s16 (v := (i : Int) + 1) r5; rw [su2] at q; rw [eM_1]; exact q
        refine ih (k9 - 2) (n9 - 48) (i + 1) y zz (some (JV v5)) M_1 h_1 N5 (by omega) (by omega) (by omega) P_1 rn (Or.inr (by rw [eM_1, su_f (by decide)]; exact z5)) (fun f hf => by rw [eM_1, su_f ((show ∀ x ∈ mKQ, x ≠ 16 by decide) f hf), k5 f (mKQ_DV f hf)]; exact kp f hf) ((fa.tr f5 (by omega)).up eh_1 (by omega)) (by omega) (by omega) (by omega) (fun f M' h' N' Z' u' hf P' r' z' k' f' n' => ?_)
        have q := kk (fun x => if x = (i : Int) then v5 else f x) M' h' N' Z' u' (fun j h1 h2 => by
          by_cases hj : j = i
          · rw [hj, if_pos rfl]; exact R5
          · rw [if_neg (by omega)]; exact hf j (by omega) h2) P' r' z' k' f' n'
        rw [brF, if_pos rfl, if_neg (by omega), brF_cg (g := f) m (i + 1) _ _ (fun j h1 h2 => if_neg (by omega))] at q
        exact q

theorem m_bestRule (P : MP G N M L z h) (r : RS S M) (w : WF S) (tp : TOP S) : CT G mX11_bestRule [.ref (cB G + 169)] h N 8 192 (fun r h' N' => ∃ M', MRX G S M L z h N M' h' N' ∧ ∃ f : Int → Int, (∀ j : Nat, j < 4 → RV1 (su S 15 0 0 (j : Int)) (f j)) ∧ r = some (JV (brF f 4 0 0 5000))) := by
  have wT := w.nT
  have wL := w.nL
  have wR := w.rule
  have hN0 := P.nN
  refine CT_of (by decide +kernel) rfl (by simp [Value.category]) (Nat.le_of_ble_eq_true rfl) ?_
  change WP G mX11_bestRule _ noX _ _ h N 0 [some (.ref (cB G + 169)), none, none, none, none] []
  refine wp_aload_n dX11_bestRule_0 rfl ?_
  refine wp_iconst dX11_bestRule_1 ?_
  refine wp_put fkX11_88 dX11_bestRule_2 (P.s0 r) rfl rfl (Nat.le_of_ble_eq_true rfl) ?_
  obtain ⟨h_1, eh_1⟩ : ∃ hh9 : AH, hh9 = hup h (cB G + 169) (eO 11 [JV 0, .ref (cB G + 170), .ref (cB G + 171), .ref (cB G + 172), .ref (cB G + 177), .ref (cB G + 178), JV (S 13 0 0), .ref (cB G + 179), .ref (cB G + 180), .ref (cB G + 181), .ref (cB G + 182), .ref (cB G + 183), .ref (cB G + 208), .ref (cB G + 209), JV (S 14 0 0), .ref (cB G + 212), JV (S 15 0 0), JV (M 17 0 0), .ref (cB G + 253), .ref (cB G + 254), .ref (cB G + 257), .ref (cB G + 260), .ref (cB G + 261), .ref (cB G + 264), JV (M 24 0 0), JV (M 25 0 0), JV (M 26 0 0), .ref (cB G + 265), JV (M 28 0 0), .ref (cB G + 270), .ref (cB G + 273), .ref (cB G + 274), .ref (cB G + 275), .ref (cB G + 276), .long z]) := ⟨_, rfl⟩
  refine WP.heq eh_1 ?_
  obtain ⟨M_1, eM_1⟩ : ∃ ss9 : ST, ss9 = su M 0 0 0 0 := ⟨_, rfl⟩
  have P_1 : MP G (N) M_1 L z h_1 := by rw [eM_1]; exact P.sc (f := 0) (v := 0) (by decide) (eh_1.trans (by simp [cMod, su, r.2.2.1.1, r.2.2.1.2.1, r.2.2.1.2.2]))
  have r_1 : RS S M_1 := by rw [eM_1]; exact r.der (by decide)
  refine wp_aload_n dX11_bestRule_5 rfl ?_
  refine wp_get fkX11_143 dX11_bestRule_6 (P_1.s0 r_1) rfl ?_
  refine wp_istore_n dX11_bestRule_9 (Nat.le_of_ble_eq_true rfl) rfl ?_
  change WP G mX11_bestRule _ _ _ _ h_1 N 10 [some (.ref (cB G + 169)), some (JV (S 15 0 0)), none, none, none] []
  refine wp_iconst dX11_bestRule_10 ?_
  refine wp_istore_n dX11_bestRule_11 (Nat.le_of_ble_eq_true rfl) rfl ?_
  change WP G mX11_bestRule _ _ _ _ h_1 N 12 [some (.ref (cB G + 169)), some (JV (S 15 0 0)), some (JV 0), none, none] []
  refine wp_ldcw dX11_bestRule_12 ctX11_278 ?_
  change WP G mX11_bestRule _ _ _ _ h_1 N 15 [some (.ref (cB G + 169)), some (JV (S 15 0 0)), some (JV 0), none, none] [JV 2147483647]
  refine wp_istore_n dX11_bestRule_15 (Nat.le_of_ble_eq_true rfl) rfl ?_
  change WP G mX11_bestRule _ _ _ _ h_1 N 16 [some (.ref (cB G + 169)), some (JV (S 15 0 0)), some (JV 0), some (JV 2147483647), none] []
  refine wp_aload_n dX11_bestRule_16 rfl ?_
  refine wp_iconst dX11_bestRule_17 ?_
  refine wp_put fkX11_143 dX11_bestRule_18 P_1.c0 rfl rfl (Nat.le_of_ble_eq_true rfl) ?_
  obtain ⟨h_2, eh_2⟩ : ∃ hh9 : AH, hh9 = hup h_1 (cB G + 169) (eO 11 [JV (M_1 0 0 0), .ref (cB G + 170), .ref (cB G + 171), .ref (cB G + 172), .ref (cB G + 177), .ref (cB G + 178), JV (M_1 6 0 0), .ref (cB G + 179), .ref (cB G + 180), .ref (cB G + 181), .ref (cB G + 182), .ref (cB G + 183), .ref (cB G + 208), .ref (cB G + 209), JV (M_1 14 0 0), .ref (cB G + 212), JV 0, JV (M_1 17 0 0), .ref (cB G + 253), .ref (cB G + 254), .ref (cB G + 257), .ref (cB G + 260), .ref (cB G + 261), .ref (cB G + 264), JV (M_1 24 0 0), JV (M_1 25 0 0), JV (M_1 26 0 0), .ref (cB G + 265), JV (M_1 28 0 0), .ref (cB G + 270), .ref (cB G + 273), .ref (cB G + 274), .ref (cB G + 275), .ref (cB G + 276), .long z]) := ⟨_, rfl⟩
  refine WP.heq eh_2 ?_
  obtain ⟨M_2, eM_2⟩ : ∃ ss9 : ST, ss9 = su M_1 16 0 0 0 := ⟨_, rfl⟩
  have P_2 : MP G (N) M_2 L z h_2 := by rw [eM_2]; exact P_1.sc (f := 16) (v := 0) (by decide) (eh_2.trans (by simp [cMod, su]))
  refine lm_bestRule (h0 := h) (N0 := N) (M0 := M_1) w tp _ _ _ 0 0 2147483647 none M_2 h_2 N rfl (by omega) (by omega) P_2 (by rw [eM_2]; exact RS_s16 r_1) (Or.inl rfl) (fun f hf => by rw [eM_2, su_f ((show ∀ x ∈ mKQ, x ≠ 16 by decide) f hf)]) ((FA.rf.up eh_1 (by omega)).up eh_2 (by omega)) (by omega) (by omega) (by omega) (fun f M5 h5 N5 Z5 u5 hf P5 r5 z5 k5 f5 n5 => ?_)
  change WP G mX11_bestRule _ _ _ _ h5 N5 66 [some (.ref (cB G + 169)), some (JV (S 15 0 0)), some (JV (brF f 4 0 0 2147483647)), some (JV Z5), u5] []
  refine wp_aload_n dX11_bestRule_66 rfl ?_
  refine wp_iload_n dX11_bestRule_67 rfl ?_
  refine wp_put fkX11_143 dX11_bestRule_68 P5.c0 rfl rfl (Nat.le_of_ble_eq_true rfl) ?_
  obtain ⟨h_3, eh_3⟩ : ∃ hh9 : AH, hh9 = hup h5 (cB G + 169) (eO 11 [JV (M5 0 0 0), .ref (cB G + 170), .ref (cB G + 171), .ref (cB G + 172), .ref (cB G + 177), .ref (cB G + 178), JV (M5 6 0 0), .ref (cB G + 179), .ref (cB G + 180), .ref (cB G + 181), .ref (cB G + 182), .ref (cB G + 183), .ref (cB G + 208), .ref (cB G + 209), JV (M5 14 0 0), .ref (cB G + 212), JV (S 15 0 0), JV (M5 17 0 0), .ref (cB G + 253), .ref (cB G + 254), .ref (cB G + 257), .ref (cB G + 260), .ref (cB G + 261), .ref (cB G + 264), JV (M5 24 0 0), JV (M5 25 0 0), JV (M5 26 0 0), .ref (cB G + 265), JV (M5 28 0 0), .ref (cB G + 270), .ref (cB G + 273), .ref (cB G + 274), .ref (cB G + 275), .ref (cB G + 276), .long z]) := ⟨_, rfl⟩
  refine WP.heq eh_3 ?_
  obtain ⟨M_3, eM_3⟩ : ∃ ss9 : ST, ss9 = su M5 16 0 0 (S 15 0 0) := ⟨_, rfl⟩
  have P_3 : MP G (N5) M_3 L z h_3 := by rw [eM_3]; exact P5.sc (f := 16) (v := (S 15 0 0)) (by decide) (eh_3.trans (by simp [cMod, su]))
  refine wp_iload_n dX11_bestRule_71 rfl ?_
  refine wp_iret dX11_bestRule_72 rfl ?_
  refine ⟨M_3, ⟨by omega, by omega, P_3, by have q := RS_s16 (v := S 15 0 0) r5; rw [su_su] at q; rw [eM_3]; exact q, by rw [eM_3, su_f (by decide), k5 0 (by decide), eM_1]; exact su_s, by rw [eM_3, su_f (by decide)]; exact z5, fun f hf => by rw [eM_3, su_f ((show ∀ x ∈ mKP, x ≠ 16 by decide) f hf), k5 f (List.mem_cons_of_mem _ hf), eM_1, su_f ((show ∀ x ∈ mKP, x ≠ 0 by decide) f hf)], f5.up eh_3 (by omega)⟩, f, fun j hj => hf j (Nat.zero_le _) hj, ?_⟩
  have b0 := (hf 0 (Nat.le_refl _) (by decide)).b (w.rul (by decide))
  have b1 : f 0 ≤ 4984 := b0.2
  refine congrArg (fun x => some (JV x)) ?_
  rw [brF_0 (z := 2147483647) (by omega), brF_0 (z := 5000) (by omega)]

theorem lm_couldGrow {Q : PQ} {X : PX} {h0 : AH} {N0 : Nat} {M0 : ST} (w : WF S) (tp : TOP S) {t : Nat} {b0 : Int} (ht : t < 24) (hb0 : 0 ≤ b0 ∧ b0 ≤ 5500) : ∀ (m : Nat) (k9 n9 : Nat) (i : Nat) (M : ST) (h : AH) (N : Nat), (20 - ((S 5 t 0).toNat + i) = m) → (S 5 t 0 + (i : Int) ≤ 20) → (∀ j : Nat, 1 ≤ j → j ≤ i → RV0 (su S 5 t 0 (S 5 t 0 + (j : Int))) b0) → (MP G N M L z h) → (RS (su S 5 t 0 (S 5 t 0 + (i : Int))) M) → (M 17 0 0 = 0) → (∀ f ∈ mKQ, M f = M0 f) → (FA G N0 h0 h) → (N0 ≤ N ∧ N ≤ N0 + 2 * (i + 1)) → (2 * m ≤ k9) → (48 * m ≤ n9) → (∀ (k : Nat) (x : Int) (M' : ST) (h' : AH) (N' : Nat), S 5 t 0 + (k : Int) ≤ 20 → (∀ j : Nat, 1 ≤ j → j ≤ k → RV0 (su S 5 t 0 (S 5 t 0 + (j : Int))) b0) → (S 5 t 0 + (k : Int) = 20 ∨ ∃ v, RV0 (su S 5 t 0 (S 5 t 0 + (k : Int) + 1)) v ∧ v ≠ b0) → MP G N' M' L z h' → RS (su S 5 t 0 x) M' → M' 17 0 0 = 0 → (∀ f ∈ mKQ, M' f = M0 f) → FA G N0 h0 h' → (N0 ≤ N' ∧ N' ≤ N0 + 44) → WP G mX11_couldGrow Q X 0 0 h' N' 74 [some (.ref (cB G + 169)), some (JV (t : Int)), some (JV (S 5 t 0)), some (JV b0), some (JV (k : Int))] []) → WP G mX11_couldGrow Q X k9 n9 h N 35 [some (.ref (cB G + 169)), some (JV (t : Int)), some (JV (S 5 t 0)), some (JV b0), some (JV (i : Int))] [] := by
  intro m
  induction m with
  | zero =>
    intro k9 n9 i M h N hm hi pre P r h17 kp fa hN hk hn kk
    have w5 := (w.task ht).1
    refine wp_iload_n dX11_couldGrow_35 rfl ?_
    refine wp_iload dX11_couldGrow_36 rfl ?_
    refine wp_iadd dX11_couldGrow_38 ?_
    refine wp_bipush dX11_couldGrow_39 rfl ?_
    refine wp_icmp_ge 74 dX11_couldGrow_41 (by decide) ⟨by omega, by omega⟩ ⟨by omega, by omega⟩ (fun c_41 => ?_) (fun c_41 => ?_)
    · exact WP.le (Nat.zero_le _) (Nat.zero_le _) (kk i _ M h N hi pre (Or.inl (by omega)) P r h17 kp fa (by omega))
    · exact absurd c_41 (by omega)
  | succ m ih =>
    intro k9 n9 i M h N hm hi pre P r h17 kp fa hN hk hn kk
    have w5 := (w.task ht).1
    refine wp_iload_n dX11_couldGrow_35 rfl ?_
    refine wp_iload dX11_couldGrow_36 rfl ?_
    refine wp_iadd dX11_couldGrow_38 ?_
    refine wp_bipush dX11_couldGrow_39 rfl ?_
    refine wp_icmp_ge 74 dX11_couldGrow_41 (by decide) ⟨by omega, by omega⟩ ⟨by omega, by omega⟩ (fun c_41 => ?_) (fun c_41 => ?_)
    · exact WP.le (Nat.zero_le _) (Nat.zero_le _) (kk i _ M h N hi pre (Or.inl (by omega)) P r h17 kp fa (by omega))
    · refine wp_aload_n dX11_couldGrow_44 rfl ?_
      refine wp_get fkX11_27 dX11_couldGrow_45 P.c0 rfl ?_
      refine wp_iload_n dX11_couldGrow_48 rfl ?_
      refine wp_iload_n dX11_couldGrow_49 rfl ?_
      refine wp_iload dX11_couldGrow_50 rfl ?_
      refine wp_iadd dX11_couldGrow_52 ?_
      refine wp_iconst dX11_couldGrow_53 ?_
      refine wp_iadd dX11_couldGrow_54 ?_
      refine wp_iastore dX11_couldGrow_55 P.c7 (by omega) (by omega) (by omega) ?_
      obtain ⟨h_1, eh_1⟩ : ∃ hh9 : AH, hh9 = hup h (cB G + 179) (eI G 24 (fup (fun i => M 7 i 0) t (((S 5 t 0) + (i : Int)) + 1))) := ⟨_, rfl⟩
      refine WP.heq eh_1 ?_
      obtain ⟨M_1, eM_1⟩ : ∃ ss9 : ST, ss9 = su M 7 t 0 (((S 5 t 0) + (i : Int)) + 1) := ⟨_, rfl⟩
      have P_1 : MP G (N) M_1 L z h_1 := by rw [eM_1]; exact P.u1 (q := (7, 179, 24, false)) (i := t) (v := ((S 5 t 0) + (i : Int)) + 1) (by decide) eh_1
      refine wp_aload_n dX11_couldGrow_56 rfl ?_
      refine wp_iconst dX11_couldGrow_57 ?_
      refine wp_v1 (k9 - 2) (n9 - 48) (m_relaid0 (N := N) P_1 (show RS (su S 5 t 0 (S 5 t 0 + (i : Int) + 1)) M_1 by rw [eM_1]; have q := RS_s7 (t := t) (v := S 5 t 0 + (i : Int) + 1) r; rw [su2] at q; exact q) (w.len (by omega)) (tp.same (su_f (by decide)) (su_f (by decide)) (su_f (by decide)) (su_f (by decide)) (su_f (by decide)) (su_f (by decide)))) cvX11_272 dX11_couldGrow_58 ⟨Nat.le_of_ble_eq_true rfl, Nat.le_of_ble_eq_true rfl⟩ (Nat.le_of_ble_eq_true rfl) P_1.c0 rfl rfl (by omega) (by omega) (fun r9 h5 N5 hq => ?_)
      obtain ⟨hNa5, hNb5, v5, rfl, M5, P5, r5, z5, k5, w5, f5⟩ := hq
      change WP G mX11_couldGrow _ _ _ _ h5 N5 61 [some (.ref (cB G + 169)), some (JV (t : Int)), some (JV (S 5 t 0)), some (JV b0), some (JV (i : Int))] [JV v5]
      have R5 : RV0 (su S 5 t 0 (S 5 t 0 + (i : Int) + 1)) v5 := w5
      have b5 := R5.b
      clear w5
      have kf : ∀ f ∈ mKQ, M5 f = M0 f := fun f hf => by rw [k5 f (mKQ_DV f hf), eM_1, su_f ((show ∀ x ∈ mKQ, x ≠ 7 by decide) f hf)]; exact kp f hf
      have ff : FA G N0 h0 h5 := (fa.up eh_1 (by omega)).tr f5 (by omega)
      refine wp_iload_n dX11_couldGrow_61 rfl ?_
      refine wp_icmp_eq 68 dX11_couldGrow_62 (by decide) ⟨by omega, by omega⟩ ⟨by omega, by omega⟩ (fun c_62 => ?_) (fun c_62 => ?_)
      · refine wp_iinc dX11_couldGrow_68 rfl (Nat.le_of_ble_eq_true rfl) rfl ?_
        change WP G mX11_couldGrow _ _ _ _ h5 N5 71 [some (.ref (cB G + 169)), some (JV (t : Int)), some (JV (S 5 t 0)), some (JV b0), some (JV ((i : Int) + 1))] []
        refine wp_goto 35 dX11_couldGrow_71 (by decide) ?_
        have er : S 5 t 0 + (i : Int) + 1 = S 5 t 0 + ((i + 1 : Nat) : Int) := by omega
        refine ih (k9 - 2) (n9 - 48) (i + 1) M5 h5 N5 (by omega) (by omega) (fun j h1 h2 => ?_) P5 (by rw [← er]; exact r5) z5 kf ff (by omega) (by omega) (by omega) kk
        by_cases hj : j = i + 1
        · rw [hj, ← er, ← c_62]; exact R5
        · exact pre j h1 (by omega)
      · refine wp_goto 74 dX11_couldGrow_65 (by decide) ?_
        exact WP.le (Nat.zero_le _) (Nat.zero_le _) (kk i _ M5 h5 N5 hi pre (Or.inr ⟨v5, R5, c_62⟩) P5 r5 z5 kf ff (by omega))

theorem m_couldGrow (P : MP G N M L z h) (r : RS S M) (w : WF S) (tp : TOP S) {t : Int} (ht : InR t) : CT G mX11_couldGrow [.ref (cB G + 169), JV t] h N 42 1008 (fun r h' N' => ∃ M', ((0 ≤ t ∧ t < S 13 0 0) ∧ MRX G S M L z h N M' h' N' ∧ ∃ (k : Nat) (b0 : Int), r = some (JV (k : Int)) ∧ RV0 S b0 ∧ S 5 t.toNat 0 + (k : Int) ≤ 20 ∧ (∀ j : Nat, 1 ≤ j → j ≤ k → RV0 (su S 5 t.toNat 0 (S 5 t.toNat 0 + (j : Int))) b0) ∧ (S 5 t.toNat 0 + (k : Int) = 20 ∨ ∃ v, RV0 (su S 5 t.toNat 0 (S 5 t.toNat 0 + (k : Int) + 1)) v ∧ v ≠ b0)) ∨ (¬ (0 ≤ t ∧ t < S 13 0 0) ∧ MRB G S M L z h N 1 M' h' N' ∧ r = some (JV 0))) := by
  have wT := w.nT
  have wL := w.nL
  have wR := w.rule
  have hN0 := P.nN
  refine CT_of (by decide +kernel) rfl (by simp [Value.category]) (Nat.le_of_ble_eq_true rfl) ?_
  change WP G mX11_couldGrow _ noX _ _ h N 0 [some (.ref (cB G + 169)), some (JV t), none, none, none] []
  refine wp_aload_n dX11_couldGrow_0 rfl ?_
  refine wp_iconst dX11_couldGrow_1 ?_
  refine wp_put fkX11_88 dX11_couldGrow_2 (P.s0 r) rfl rfl (Nat.le_of_ble_eq_true rfl) ?_
  obtain ⟨h_1, eh_1⟩ : ∃ hh9 : AH, hh9 = hup h (cB G + 169) (eO 11 [JV 0, .ref (cB G + 170), .ref (cB G + 171), .ref (cB G + 172), .ref (cB G + 177), .ref (cB G + 178), JV (S 13 0 0), .ref (cB G + 179), .ref (cB G + 180), .ref (cB G + 181), .ref (cB G + 182), .ref (cB G + 183), .ref (cB G + 208), .ref (cB G + 209), JV (S 14 0 0), .ref (cB G + 212), JV (S 15 0 0), JV (M 17 0 0), .ref (cB G + 253), .ref (cB G + 254), .ref (cB G + 257), .ref (cB G + 260), .ref (cB G + 261), .ref (cB G + 264), JV (M 24 0 0), JV (M 25 0 0), JV (M 26 0 0), .ref (cB G + 265), JV (M 28 0 0), .ref (cB G + 270), .ref (cB G + 273), .ref (cB G + 274), .ref (cB G + 275), .ref (cB G + 276), .long z]) := ⟨_, rfl⟩
  refine WP.heq eh_1 ?_
  obtain ⟨M_1, eM_1⟩ : ∃ ss9 : ST, ss9 = su M 0 0 0 0 := ⟨_, rfl⟩
  have P_1 : MP G (N) M_1 L z h_1 := by rw [eM_1]; exact P.sc (f := 0) (v := 0) (by decide) (eh_1.trans (by simp [cMod, su, r.2.2.1.1, r.2.2.1.2.1, r.2.2.1.2.2]))
  have r_1 : RS S M_1 := by rw [eM_1]; exact r.der (by decide)
  refine wp_aload_n dX11_couldGrow_5 rfl ?_
  refine wp_iload_n dX11_couldGrow_6 rfl ?_
  refine wp_v1p (m_isTask (N := N) P_1 r_1 w ht) cvX11_201 dX11_couldGrow_7 ⟨Nat.le_of_ble_eq_true rfl, Nat.le_of_ble_eq_true rfl⟩ (Nat.le_of_ble_eq_true rfl) (P_1.s0 r_1) rfl rfl ?_
  refine wp_if_ne 19 dX11_couldGrow_10 (by decide) (bI_r _) (fun c_10 => ?_) (fun c_10 => ?_)
  · have q_10 := bI_p c_10
    obtain ⟨t9, rfl⟩ : ∃ t9 : Nat, t = (t9 : Int) := ⟨t.toNat, by omega⟩
    have w5 := (w.task (t := t9) (by omega)).1
    refine wp_aload_n dX11_couldGrow_19 rfl ?_
    refine wp_get fkX11_27 dX11_couldGrow_20 (P_1.s0 r_1) rfl ?_
    refine wp_iload_n dX11_couldGrow_23 rfl ?_
    refine wp_iaload dX11_couldGrow_24 (P_1.s7 r_1) (by omega) (by omega) (by omega) ?_
    change WP G mX11_couldGrow _ _ _ _ h_1 N 25 [some (.ref (cB G + 169)), some (JV (t9 : Int)), none, none, none] [JV (S 5 t9 0)]
    refine wp_istore_n dX11_couldGrow_25 (Nat.le_of_ble_eq_true rfl) rfl ?_
    change WP G mX11_couldGrow _ _ _ _ h_1 N 26 [some (.ref (cB G + 169)), some (JV (t9 : Int)), some (JV (S 5 t9 0)), none, none] []
    refine wp_aload_n dX11_couldGrow_26 rfl ?_
    refine wp_iconst dX11_couldGrow_27 ?_
    refine wp_v1 40 960 (m_relaid0 (N := N) P_1 (r_1) (w) (tp)) cvX11_272 dX11_couldGrow_28 ⟨Nat.le_of_ble_eq_true rfl, Nat.le_of_ble_eq_true rfl⟩ (Nat.le_of_ble_eq_true rfl) P_1.c0 rfl rfl (by omega) (by omega) (fun r9 h5 N5 hq => ?_)
    obtain ⟨hNa5, hNb5, v5, rfl, M5, P5, r5, z5, k5, w5, f5⟩ := hq
    change WP G mX11_couldGrow _ _ _ _ h5 N5 31 [some (.ref (cB G + 169)), some (JV (t9 : Int)), some (JV (S 5 t9 0)), none, none] [JV v5]
    have R5 : RV0 S v5 := w5
    have b5 := R5.b
    refine wp_istore_n dX11_couldGrow_31 (Nat.le_of_ble_eq_true rfl) rfl ?_
    change WP G mX11_couldGrow _ _ _ _ h5 N5 32 [some (.ref (cB G + 169)), some (JV (t9 : Int)), some (JV (S 5 t9 0)), some (JV v5), none] []
    refine wp_iconst dX11_couldGrow_32 ?_
    refine wp_istore dX11_couldGrow_33 (Nat.le_of_ble_eq_true rfl) rfl ?_
    change WP G mX11_couldGrow _ _ _ _ h5 N5 35 [some (.ref (cB G + 169)), some (JV (t9 : Int)), some (JV (S 5 t9 0)), some (JV v5), some (JV 0)] []
    refine lm_couldGrow (h0 := h) (N0 := N) (M0 := M_1) w tp (t := t9) (b0 := v5) (by omega) b5 _ _ _ 0 M5 h5 N5 rfl (by omega) (fun j h1 h2 => absurd h1 (by omega)) P5 (by rw [show S 5 t9 0 + ((0 : Nat) : Int) = S 5 t9 0 by omega, su_id]; exact r5) z5 (fun f hf => k5 f (mKQ_DV f hf)) ((FA.rf.up eh_1 (by omega)).tr f5 (by omega)) (by omega) (by omega) (by omega) (fun k x M6 h6 N6 g1 g2 g3 P6 r6 z6 k6 f6 n6 => ?_)
    change WP G mX11_couldGrow _ _ _ _ h6 N6 74 [some (.ref (cB G + 169)), some (JV (t9 : Int)), some (JV (S 5 t9 0)), some (JV v5), some (JV (k : Int))] []
    refine wp_aload_n dX11_couldGrow_74 rfl ?_
    refine wp_get fkX11_27 dX11_couldGrow_75 P6.c0 rfl ?_
    refine wp_iload_n dX11_couldGrow_78 rfl ?_
    refine wp_iload_n dX11_couldGrow_79 rfl ?_
    refine wp_iastore dX11_couldGrow_80 P6.c7 (by omega) (by omega) (by omega) ?_
    obtain ⟨h_2, eh_2⟩ : ∃ hh9 : AH, hh9 = hup h6 (cB G + 179) (eI G 24 (fup (fun i => M6 7 i 0) t9 (S 5 t9 0))) := ⟨_, rfl⟩
    refine WP.heq eh_2 ?_
    obtain ⟨M_2, eM_2⟩ : ∃ ss9 : ST, ss9 = su M6 7 t9 0 (S 5 t9 0) := ⟨_, rfl⟩
    have P_2 : MP G (N6) M_2 L z h_2 := by rw [eM_2]; exact P6.u1 (q := (7, 179, 24, false)) (i := t9) (v := (S 5 t9 0)) (by decide) eh_2
    refine wp_iload dX11_couldGrow_81 rfl ?_
    refine wp_iret dX11_couldGrow_83 rfl ?_
    exact ⟨M_2, Or.inl ⟨by omega, ⟨by omega, by omega, P_2, by have q := RS_s7 (t := t9) (v := S 5 t9 0) r6; rw [su_su] at q; rw [eM_2]; exact q, by rw [eM_2, su_f (by decide), k6 0 (by decide), eM_1]; exact su_s, by rw [eM_2, su_f (by decide)]; exact z6, fun f hf => by rw [eM_2, su_f ((show ∀ x ∈ mKP, x ≠ 7 by decide) f hf), k6 f (List.mem_cons_of_mem _ hf), eM_1, su_f ((show ∀ x ∈ mKP, x ≠ 0 by decide) f hf)], f6.up eh_2 (by omega)⟩, k, v5, rfl, R5, g1, g2, g3⟩⟩
  · refine wp_aload_n dX11_couldGrow_13 rfl ?_
    refine wp_iconst dX11_couldGrow_14 ?_
    refine wp_v1 0 0 (m_refuse (N := N) (x := 1) P_1) cvX11_194 dX11_couldGrow_15 ⟨Nat.le_of_ble_eq_true rfl, Nat.le_of_ble_eq_true rfl⟩ (Nat.le_of_ble_eq_true rfl) (P_1.s0 r_1) rfl rfl (by omega) (by omega) (fun r9 h8 N8 hq => ?_)
    obtain ⟨hN8, rfl, M8, P8, e8, f8⟩ := hq
    rw [hN8]
    have r8 : RS S M8 := by rw [e8]; exact r_1.der (by decide)
    change WP G mX11_couldGrow _ _ _ _ h8 N 18 [some (.ref (cB G + 169)), some (JV t), none, none, none] [JV 0]
    refine wp_iret dX11_couldGrow_18 rfl ?_
    exact ⟨M8, Or.inr ⟨(fun q => by rw [decide_eq_true (show 0 ≤ t ∧ t ≤ S 13 0 0 - 1 by omega)] at c_10; exact absurd c_10 (by decide)), ⟨Nat.le_refl _, by omega, P8, r8, by rw [e8]; exact su_s, fun f h0 => by rw [e8, su_f h0, eM_1, su_f h0], (FA.rf.up eh_1 (by omega)).tr f8.fa (Nat.le_refl _)⟩, rfl⟩⟩

end Mb

/-! ===== the reference: a link less ===== -/
section Mwo
variable {G : Ctx} {h h1 : AH} {N : Nat} {S S' M M' : ST} {L L' : Nat → Nat} {z : Int64} {K : KTup}
def pbL (L : Nat → Nat) (k n : Nat) : Nat → Nat := fun i => if k + 1 ≤ i ∧ i < n then L (i - 1) else L i
def pbV (g : Nat → Nat → Int) (k n : Nat) : Nat → Nat → Int := fun i => if k + 1 ≤ i ∧ i < n then g (i - 1) else g i
theorem pb_cpy {k n : Nat} (hk : k < n) (hn : n ≤ 40) : va_cpy (fun i => if i < 40 then some (L i) else none) (fun i => if i < 40 then some (L i) else none) (k : Int).toNat ((k : Int) + 1).toNat ((n : Int) - 1 - (k : Int)).toNat = fun i => if i < 40 then some (pbL L k n i) else none := by
  funext i
  unfold va_cpy pbL
  by_cases hc : k + 1 ≤ i ∧ i < n
  · rw [if_pos (by omega), show (k : Int).toNat + (i - ((k : Int) + 1).toNat) = i - 1 by omega, if_pos (show i < 40 by omega), if_pos hc]
    exact if_pos (by omega)
  · rw [if_neg (by omega), if_neg hc]
theorem pb_tk {k n : Nat} (hk : k < n) (hn : n ≤ 40) : fup (fun i => if i < 40 then some (pbL (tkL L k n) k n i) else none) (k : Int).toNat (some (L k)) = fun i => if i < 40 then some (L i) else none := by
  funext i
  unfold fup pbL tkL
  by_cases h1 : i = k
  · rw [if_pos (by omega), if_pos (by omega), h1]
  · rw [if_neg (by omega)]
    dsimp only
    by_cases h2 : i < 40
    · rw [if_pos h2, if_pos h2]
      by_cases h3 : k + 1 ≤ i ∧ i < n
      · rw [if_pos h3, if_pos (by omega), show i - 1 + 1 = i by omega]
      · rw [if_neg h3, if_neg (by omega)]
    · rw [if_neg h2, if_neg h2]
theorem m_levelledWithout (P : MP G N M L z h) (r : RS S M) (w : WF S) {l : Int} (hl : InR l) (hS : 0 ≤ l ∧ l < S 14 0 0 → DRP S S' l.toNat (S 14 0 0).toNat ∧ WF S' ∧ TOP S') : CT G mX11_levelledWithout [.ref (cB G + 169), JV l] h N 2 48 (fun r h' N' => ∃ M', ((0 ≤ l ∧ l < S 14 0 0) ∧ MRX G S M L z h N M' h' N' ∧ ∃ v : Int, r = some (JV v) ∧ RV1 S' v) ∨ (¬ (0 ≤ l ∧ l < S 14 0 0) ∧ MRB G S M L z h N 1 M' h' N' ∧ r = some (JV 0))) := by
  have wT := w.nT
  have wL := w.nL
  have wR := w.rule
  have hN0 := P.nN
  refine CT_of (by decide +kernel) rfl (by simp [Value.category]) (Nat.le_of_ble_eq_true rfl) ?_
  change WP G mX11_levelledWithout _ noX _ _ h N 0 [some (.ref (cB G + 169)), some (JV l), none, none] []
  refine wp_aload_n dX11_levelledWithout_0 rfl ?_
  refine wp_iconst dX11_levelledWithout_1 ?_
  refine wp_put fkX11_88 dX11_levelledWithout_2 (P.s0 r) rfl rfl (Nat.le_of_ble_eq_true rfl) ?_
  obtain ⟨h_1, eh_1⟩ : ∃ hh9 : AH, hh9 = hup h (cB G + 169) (eO 11 [JV 0, .ref (cB G + 170), .ref (cB G + 171), .ref (cB G + 172), .ref (cB G + 177), .ref (cB G + 178), JV (S 13 0 0), .ref (cB G + 179), .ref (cB G + 180), .ref (cB G + 181), .ref (cB G + 182), .ref (cB G + 183), .ref (cB G + 208), .ref (cB G + 209), JV (S 14 0 0), .ref (cB G + 212), JV (S 15 0 0), JV (M 17 0 0), .ref (cB G + 253), .ref (cB G + 254), .ref (cB G + 257), .ref (cB G + 260), .ref (cB G + 261), .ref (cB G + 264), JV (M 24 0 0), JV (M 25 0 0), JV (M 26 0 0), .ref (cB G + 265), JV (M 28 0 0), .ref (cB G + 270), .ref (cB G + 273), .ref (cB G + 274), .ref (cB G + 275), .ref (cB G + 276), .long z]) := ⟨_, rfl⟩
  refine WP.heq eh_1 ?_
  obtain ⟨M_1, eM_1⟩ : ∃ ss9 : ST, ss9 = su M 0 0 0 0 := ⟨_, rfl⟩
  have P_1 : MP G (N) M_1 L z h_1 := by rw [eM_1]; exact P.sc (f := 0) (v := 0) (by decide) (eh_1.trans (by simp [cMod, su, r.2.2.1.1, r.2.2.1.2.1, r.2.2.1.2.2]))
  have r_1 : RS S M_1 := by rw [eM_1]; exact r.der (by decide)
  refine wp_aload_n dX11_levelledWithout_5 rfl ?_
  refine wp_iload_n dX11_levelledWithout_6 rfl ?_
  refine wp_v1p (m_isLink (N := N) P_1 r_1 w hl) cvX11_213 dX11_levelledWithout_7 ⟨Nat.le_of_ble_eq_true rfl, Nat.le_of_ble_eq_true rfl⟩ (Nat.le_of_ble_eq_true rfl) (P_1.s0 r_1) rfl rfl ?_
  refine wp_if_ne 19 dX11_levelledWithout_10 (by decide) (bI_r _) (fun c_10 => ?_) (fun c_10 => ?_)
  · have q_10 := bI_p c_10
    obtain ⟨l9, rfl⟩ : ∃ l9 : Nat, l = (l9 : Int) := ⟨l.toNat, by omega⟩
    obtain ⟨n9, hn9⟩ : ∃ n9 : Nat, S 14 0 0 = (n9 : Int) := ⟨(S 14 0 0).toNat, by omega⟩
    obtain ⟨dr0, w', tp'⟩ := hS (by omega)
    have dr : DRP S S' l9 n9 := by have q := dr0; rw [hn9] at q; exact q
    refine wp_aload_n dX11_levelledWithout_19 rfl ?_
    refine wp_get fkX11_49 dX11_levelledWithout_20 (P_1.s0 r_1) rfl ?_
    refine wp_iload_n dX11_levelledWithout_23 rfl ?_
    refine wp_aaload dX11_levelledWithout_24 P_1.qL rfl rfl (by omega) (by omega) (by omega) (if_pos (by omega)) ?_
    change WP G mX11_levelledWithout _ _ _ _ h_1 N 25 [some (.ref (cB G + 169)), some (JV (l9 : Int)), none, none] [.ref (L l9)]
    refine wp_astore_n dX11_levelledWithout_25 (Nat.le_of_ble_eq_true rfl) rfl ?_
    change WP G mX11_levelledWithout _ _ _ _ h_1 N 26 [some (.ref (cB G + 169)), some (JV (l9 : Int)), some (.ref (L l9)), none] []
    refine wp_aload_n dX11_levelledWithout_26 rfl ?_
    refine wp_iload_n dX11_levelledWithout_27 rfl ?_
    refine wp_v1 2 48 (m_take (N := N) P_1 (k := l9) (n := n9) (by rw [eM_1, su_f (by decide)]; exact r.2.2.1.2.1.trans hn9) (by omega) (by omega)) cvX11_216 dX11_levelledWithout_28 ⟨Nat.le_of_ble_eq_true rfl, Nat.le_of_ble_eq_true rfl⟩ (Nat.le_of_ble_eq_true rfl) P_1.c0 rfl rfl (by omega) (by omega) (fun r9 h8 N8 hq => ?_)
    obtain ⟨rfl, hN8, P8, f8⟩ := hq
    rw [hN8]
    have r8 : RS S' (tkM M_1 l9 n9) := RS_tk r_1 hn9 (by omega) dr
    change WP G mX11_levelledWithout _ _ _ _ h8 N 31 [some (.ref (cB G + 169)), some (JV (l9 : Int)), some (.ref (L l9)), none] []
    refine wp_aload_n dX11_levelledWithout_31 rfl ?_
    refine wp_iconst dX11_levelledWithout_32 ?_
    refine wp_v1 0 0 (m_relaid1 (N := N) P8 (r8) (w') (tp')) cvX11_272 dX11_levelledWithout_33 ⟨Nat.le_of_ble_eq_true rfl, Nat.le_of_ble_eq_true rfl⟩ (Nat.le_of_ble_eq_true rfl) P8.c0 rfl rfl (by omega) (by omega) (fun r9 h5 N5 hq => ?_)
    obtain ⟨hNa5, hNb5, v5, rfl, M5, P5, r5, z5, k5, w5, f5⟩ := hq
    change WP G mX11_levelledWithout _ _ _ _ h5 N5 36 [some (.ref (cB G + 169)), some (JV (l9 : Int)), some (.ref (L l9)), none] [JV v5]
    refine wp_istore_n dX11_levelledWithout_36 (Nat.le_of_ble_eq_true rfl) rfl ?_
    change WP G mX11_levelledWithout _ _ _ _ h5 N5 37 [some (.ref (cB G + 169)), some (JV (l9 : Int)), some (.ref (L l9)), some (JV v5)] []
    refine wp_aload_n dX11_levelledWithout_37 rfl ?_
    refine wp_get fkX11_49 dX11_levelledWithout_38 P5.c0 rfl ?_
    refine wp_iload_n dX11_levelledWithout_41 rfl ?_
    refine wp_aload_n dX11_levelledWithout_42 rfl ?_
    refine wp_get fkX11_49 dX11_levelledWithout_43 P5.c0 rfl ?_
    refine wp_iload_n dX11_levelledWithout_46 rfl ?_
    refine wp_iconst dX11_levelledWithout_47 ?_
    refine wp_iadd dX11_levelledWithout_48 ?_
    refine wp_aload_n dX11_levelledWithout_49 rfl ?_
    refine wp_get fkX11_99 dX11_levelledWithout_50 P5.c0 rfl ?_
    rw [show M5 14 0 0 = (n9 : Int) - 1 by rw [r5.2.2.1.2.1]; exact dr.2.1]
    refine wp_iload_n dX11_levelledWithout_53 rfl ?_
    refine wp_isub dX11_levelledWithout_54 ?_
    refine wp_copyII (G := G) dX11_levelledWithout_55 acX11_207 w_arr (Nat.le_of_ble_eq_true rfl) (Nat.le_of_ble_eq_true rfl) P5.qL P5.qL (by omega) (by omega) (by omega) (by omega) (by omega) (by decide) (by decide) (fun i _ b hb => P5.qe hb) ?_
    rw [pb_cpy (L := tkL L l9 n9) (show l9 < n9 by omega) (by omega)]
    obtain ⟨h_c, eh_c⟩ : ∃ hh9 : AH, hh9 = hup h5 (cB G + 212) (eQ G 4 40 (fun i => if i < 40 then some (pbL (tkL L l9 n9) l9 n9 i) else none)) := ⟨_, rfl⟩
    refine WP.heq eh_c ?_
    have P_c : MP G N5 (sL M5 (pbV (M5 15) l9 n9)) (pbL (tkL L l9 n9) l9 n9) z h_c := P5.lk eh_c (fun i hi => by
      unfold pbL pbV
      by_cases hc : l9 + 1 ≤ i ∧ i < n9
      · rw [if_pos hc, if_pos hc]
        exact P5.2.2.2.2.1 (i - 1) (by omega)
      · rw [if_neg hc, if_neg hc]
        exact P5.2.2.2.2.1 i hi)
    have old : ∀ i, i < 40 → h_c (L i) = some (eI G 4 (fun j => M 15 i j)) := fun i hi => by
      have q := P.2.2.2.2.1 i hi
      rw [hup_at eh_c (by omega), f5 (L i) (by omega) q.2.2, f8 (L i) (by omega) q.2.2, hup_at eh_1 (by omega)]
      exact q.1
    obtain ⟨M_c, eM_c⟩ : ∃ ss9 : ST, ss9 = sL M5 (pbV (M5 15) l9 n9) := ⟨_, rfl⟩
    rw [← eM_c] at P_c
    change WP G mX11_levelledWithout _ _ _ _ h_c N5 58 [some (.ref (cB G + 169)), some (JV (l9 : Int)), some (.ref (L l9)), some (JV v5)] []
    refine wp_aload_n dX11_levelledWithout_58 rfl ?_
    refine wp_get fkX11_49 dX11_levelledWithout_59 P_c.c0 rfl ?_
    refine wp_iload_n dX11_levelledWithout_62 rfl ?_
    refine wp_aload_n dX11_levelledWithout_63 rfl ?_
    refine wp_aastoreI dX11_levelledWithout_64 P_c.qL (old l9 (by omega)) (by omega) (by omega) (by decide) ?_
    rw [pb_tk (L := L) (show l9 < n9 by omega) (by omega)]
    obtain ⟨h_d, eh_d⟩ : ∃ hh9 : AH, hh9 = hup h_c (cB G + 212) (eQ G 4 40 (fun i => if i < 40 then some (L i) else none)) := ⟨_, rfl⟩
    refine WP.heq eh_d ?_
    have P_d : MP G N5 (sL M_c (M 15)) L z h_d := P_c.lk eh_d (fun i hi => ⟨old i hi, (P.2.2.2.2.1 i hi).2.1, by have := (P.2.2.2.2.1 i hi).2.2; omega⟩)
    obtain ⟨M_d, eM_d⟩ : ∃ ss9 : ST, ss9 = sL M_c (M 15) := ⟨_, rfl⟩
    rw [← eM_d] at P_d
    change WP G mX11_levelledWithout _ _ _ _ h_d N5 65 [some (.ref (cB G + 169)), some (JV (l9 : Int)), some (.ref (L l9)), some (JV v5)] []
    refine wp_aload_n dX11_levelledWithout_65 rfl ?_
    refine wp_dup dX11_levelledWithout_66 rfl ?_
    refine wp_get fkX11_99 dX11_levelledWithout_67 P_d.c0 rfl ?_
    rw [show M_d 14 0 0 = (n9 : Int) - 1 by rw [eM_d, sL_n (by decide), eM_c, sL_n (by decide), r5.2.2.1.2.1]; exact dr.2.1]
    refine wp_iconst dX11_levelledWithout_70 ?_
    refine wp_iadd dX11_levelledWithout_71 ?_
    refine wp_put fkX11_99 dX11_levelledWithout_72 P_d.c0 rfl rfl (Nat.le_of_ble_eq_true rfl) ?_
    obtain ⟨h_2, eh_2⟩ : ∃ hh9 : AH, hh9 = hup h_d (cB G + 169) (eO 11 [JV (M_d 0 0 0), .ref (cB G + 170), .ref (cB G + 171), .ref (cB G + 172), .ref (cB G + 177), .ref (cB G + 178), JV (M_d 6 0 0), .ref (cB G + 179), .ref (cB G + 180), .ref (cB G + 181), .ref (cB G + 182), .ref (cB G + 183), .ref (cB G + 208), .ref (cB G + 209), JV (((n9 : Int) - 1) + 1), .ref (cB G + 212), JV (M_d 16 0 0), JV (M_d 17 0 0), .ref (cB G + 253), .ref (cB G + 254), .ref (cB G + 257), .ref (cB G + 260), .ref (cB G + 261), .ref (cB G + 264), JV (M_d 24 0 0), JV (M_d 25 0 0), JV (M_d 26 0 0), .ref (cB G + 265), JV (M_d 28 0 0), .ref (cB G + 270), .ref (cB G + 273), .ref (cB G + 274), .ref (cB G + 275), .ref (cB G + 276), .long z]) := ⟨_, rfl⟩
    refine WP.heq eh_2 ?_
    obtain ⟨M_2, eM_2⟩ : ∃ ss9 : ST, ss9 = su M_d 14 0 0 (((n9 : Int) - 1) + 1) := ⟨_, rfl⟩
    have P_2 : MP G (N5) M_2 L z h_2 := by rw [eM_2]; exact P_d.sc (f := 14) (v := ((n9 : Int) - 1) + 1) (by decide) (eh_2.trans (by simp [cMod, su]))
    refine wp_iload_n dX11_levelledWithout_75 rfl ?_
    refine wp_iret dX11_levelledWithout_76 rfl ?_
    have ef : ∀ f, f ≠ 14 → f ≠ 15 → (∀ g ∈ mDV, g ≠ f) → M_2 f = M_1 f := fun f h1 h2 h3 => by rw [eM_2, su_f h1, eM_d, sL_n h2, eM_c, sL_n h2, k5 f h3, tkM_f h1 h2 (fun q => h3 17 (by decide) q.symm)]
    have e15 : M_2 15 = M 15 := by rw [eM_2, su_f (by decide), eM_d]; rfl
    have e14 : M_2 14 = M 14 := by
      funext a b
      rw [eM_2]
      by_cases hq : a = 0 ∧ b = 0
      · rw [hq.1, hq.2, su_s, r.2.2.1.2.1, hn9]; omega
      · unfold su; rw [if_neg (fun q => hq q.2), eM_d, sL_n (by decide), eM_c, sL_n (by decide), k5 14 (by decide)]; unfold tkM; rw [su_f (by decide), sL_n (by decide)]; unfold su; rw [if_neg (fun q => hq q.2)]; exact congrFun (congrFun (by rw [eM_1]; exact su_f (by decide)) _) _
    have rf : RS S M_2 := r.of (fun f hf => by
      by_cases h1 : f = 14
      · rw [h1, e14]
      · by_cases h2 : f = 15
        · rw [h2, e15]
        · rw [ef f h1 h2 ((show ∀ x ∈ mBS, ∀ g ∈ mDV, g ≠ x by decide) f hf), eM_1, su_f ((show ∀ x ∈ mBS, x ≠ 0 by decide) f hf)])
    refine ⟨M_2, Or.inl ⟨by omega, ⟨by omega, by omega, P_2, rf, by rw [ef 0 (by decide) (by decide) (by decide), eM_1]; exact su_s, by rw [eM_2, su_f (by decide), eM_d, sL_n (by decide), eM_c, sL_n (by decide)]; exact z5, fun f hf => by rw [ef f ((show ∀ x ∈ mKP, x ≠ 14 by decide) f hf) ((show ∀ x ∈ mKP, x ≠ 15 by decide) f hf) (mKP_DV f hf), eM_1, su_f ((show ∀ x ∈ mKP, x ≠ 0 by decide) f hf)], (((((FA.rf.up eh_1 (by omega)).tr f8 (Nat.le_refl _)).tr f5 (by omega)).up eh_c (by omega)).up eh_d (by omega)).up eh_2 (by omega)⟩, v5, rfl, w5⟩⟩
  · refine wp_aload_n dX11_levelledWithout_13 rfl ?_
    refine wp_iconst dX11_levelledWithout_14 ?_
    refine wp_v1 0 0 (m_refuse (N := N) (x := 1) P_1) cvX11_194 dX11_levelledWithout_15 ⟨Nat.le_of_ble_eq_true rfl, Nat.le_of_ble_eq_true rfl⟩ (Nat.le_of_ble_eq_true rfl) (P_1.s0 r_1) rfl rfl (by omega) (by omega) (fun r9 h8 N8 hq => ?_)
    obtain ⟨hN8, rfl, M8, P8, e8, f8⟩ := hq
    rw [hN8]
    have r8 : RS S M8 := by rw [e8]; exact r_1.der (by decide)
    change WP G mX11_levelledWithout _ _ _ _ h8 N 18 [some (.ref (cB G + 169)), some (JV l), none, none] [JV 0]
    refine wp_iret dX11_levelledWithout_18 rfl ?_
    exact ⟨M8, Or.inr ⟨(fun q => by rw [decide_eq_true (show 0 ≤ l ∧ l ≤ S 14 0 0 - 1 by omega)] at c_10; exact absurd c_10 (by decide)), ⟨Nat.le_refl _, by omega, P8, r8, by rw [e8]; exact su_s, fun f h0 => by rw [e8, su_f h0, eM_1, su_f h0], (FA.rf.up eh_1 (by omega)).tr f8.fa (Nat.le_refl _)⟩, rfl⟩⟩

end Mwo

/-! ===== the reference: the digest ===== -/
section Mdg
variable {G : Ctx} {h h1 : AH} {N : Nat} {S S' M M' : ST} {L L' : Nat → Nat} {z : Int64} {K : KTup}
def dgf (g : Nat → Int) : Nat → Nat → Int64 → Int64
  | 0, _, d => d
  | m + 1, i, d => dgf g m (i + 1) (dgs d (g i))
def dgV (S : ST) (K : KTup) (M : ST) (s : LState) (t : Nat) : List Int := [M 19 0 t, M 19 1 t, M 20 0 t, M 20 1 t, M 21 t 0, M 22 0 t, M 22 1 t, holdF S (M 22 0) (M 22 1) s.2.2.1 t, lthF S (M 22 0) (M 22 1) s.2.2.1 t, dlyF K.2.2.1 K.2.2.2.1 (M 22 1) s.2.2.1 t]
def dgW (S M : ST) (c : Nat) : List Int := [dab (ldg S (M 19 0) (M 19 1) (inT S) c) (S 3 c 0) (M 25 0 0).toNat 0, grt (M 27 c) (M 26 0 0).toNat 0 0, lov (M 27) c (S 3 c 0) (M 26 0 0).toNat 0]
theorem m_add (P : MP G N M L z h) {v : Int} : CT G mX11_add [.ref (cB G + 169), JV v] h N 0 0 (fun r h' N' => r = none ∧ N' = N ∧ MP G N M L (dgs z v) h' ∧ FRM G h h') := by
  refine CT_of (by decide +kernel) rfl (by simp [Value.category]) (Nat.le_of_ble_eq_true rfl) ?_
  change WP G mX11_add _ noX _ _ h N 0 [some (.ref (cB G + 169)), some (JV v)] []
  refine wp_aload_n dX11_add_0 rfl ?_
  refine wp_aload_n dX11_add_1 rfl ?_
  refine wp_get fkX11_279 dX11_add_2 P.c0 rfl ?_
  refine wp_ldc2 dX11_add_5 ctX11_283 ?_
  refine wp_lmul dX11_add_8 ?_
  refine wp_iload_n dX11_add_9 rfl ?_
  refine wp_i2l dX11_add_10 ?_
  refine wp_ladd dX11_add_11 ?_
  refine wp_put fkX11_279 dX11_add_12 P.c0 rfl rfl (Nat.le_of_ble_eq_true rfl) ?_
  obtain ⟨h_1, eh_1⟩ : ∃ hh9 : AH, hh9 = hup h (cB G + 169) (eO 11 [JV (M 0 0 0), .ref (cB G + 170), .ref (cB G + 171), .ref (cB G + 172), .ref (cB G + 177), .ref (cB G + 178), JV (M 6 0 0), .ref (cB G + 179), .ref (cB G + 180), .ref (cB G + 181), .ref (cB G + 182), .ref (cB G + 183), .ref (cB G + 208), .ref (cB G + 209), JV (M 14 0 0), .ref (cB G + 212), JV (M 16 0 0), JV (M 17 0 0), .ref (cB G + 253), .ref (cB G + 254), .ref (cB G + 257), .ref (cB G + 260), .ref (cB G + 261), .ref (cB G + 264), JV (M 24 0 0), JV (M 25 0 0), JV (M 26 0 0), .ref (cB G + 265), JV (M 28 0 0), .ref (cB G + 270), .ref (cB G + 273), .ref (cB G + 274), .ref (cB G + 275), .ref (cB G + 276), .long ((z * 31) + ((Int32.ofInt v).toInt64))]) := ⟨_, rfl⟩
  refine WP.heq eh_1 ?_
  obtain ⟨z_1, ez_1⟩ : ∃ zz9 : Int64, zz9 = (z * 31) + ((Int32.ofInt v).toInt64) := ⟨_, rfl⟩
  have P_1 : MP G (N) M L z_1 h_1 := by rw [ez_1]; exact P.sum eh_1
  refine wp_vret dX11_add_15 rfl ?_
  exact ⟨rfl, rfl, by rw [ez_1] at P_1; exact P_1, FRM.rf.up eh_1 ⟨by omega, by omega⟩⟩

theorem lm_dg6 {Q : PQ} {X : PX} {k9 n9 : Nat} {h0 : AH} {b : Nat} {g : Nat → Int} (hb0 : cB G + 283 ≤ b) {x1 x6 x7 : Option Value} : ∀ (m : Nat) (i : Nat) (z : Int64) (h : AH) (u : Option Value), (6 - i = m) → (i ≤ 6) → (MP G N M L z h) → (h b = some (eI G 6 g)) → (FRM G h0 h) → (∀ (h' : AH) (u' : Option Value), MP G N M L (dgf g m i z) h' → FRM G h0 h' → WP G mX11_digest Q X k9 n9 h' N 100 [some (.ref (cB G + 169)), x1, some (.ref b), some (JV 6), some (JV 6), u', x6, x7] []) → WP G mX11_digest Q X k9 n9 h N 76 [some (.ref (cB G + 169)), x1, some (.ref b), some (JV 6), some (JV (i : Int)), u, x6, x7] [] := by
  intro m
  induction m with
  | zero =>
    intro i z h u hm hi P hb fr kk
    have ei : i = 6 := by omega
    subst ei
    refine wp_iload dX11_digest_76 rfl ?_
    refine wp_iload_n dX11_digest_78 rfl ?_
    refine wp_icmp_ge 100 dX11_digest_79 (by decide) ⟨by omega, by omega⟩ ⟨by omega, by omega⟩ (fun c_79 => ?_) (fun c_79 => ?_)
    · exact kk h u P fr
    · exact absurd c_79 (by omega)
  | succ m ih =>
    intro i z h u hm hi P hb fr kk
    refine wp_iload dX11_digest_76 rfl ?_
    refine wp_iload_n dX11_digest_78 rfl ?_
    refine wp_icmp_ge 100 dX11_digest_79 (by decide) ⟨by omega, by omega⟩ ⟨by omega, by omega⟩ (fun c_79 => ?_) (fun c_79 => ?_)
    · exact absurd c_79 (by omega)
    · refine wp_aload_n dX11_digest_82 rfl ?_
      refine wp_iload dX11_digest_83 rfl ?_
      refine wp_iaload dX11_digest_85 hb (by omega) (by omega) (by omega) ?_
      change WP G mX11_digest _ _ _ _ h N 86 [some (.ref (cB G + 169)), x1, some (.ref b), some (JV 6), some (JV (i : Int)), u, x6, x7] [JV (g i)]
      refine wp_istore dX11_digest_86 (Nat.le_of_ble_eq_true rfl) rfl ?_
      change WP G mX11_digest _ _ _ _ h N 88 [some (.ref (cB G + 169)), x1, some (.ref b), some (JV 6), some (JV (i : Int)), some (JV (g i)), x6, x7] []
      refine wp_aload_n dX11_digest_88 rfl ?_
      refine wp_iload dX11_digest_89 rfl ?_
      refine wp_v1 k9 n9 (m_add (N := N) (v := g i) P) cvX11_287 dX11_digest_91 ⟨Nat.le_of_ble_eq_true rfl, Nat.le_of_ble_eq_true rfl⟩ (Nat.le_of_ble_eq_true rfl) P.c0 rfl rfl (by omega) (by omega) (fun r9 ha_1 Na_1 hq => ?_)
      obtain ⟨rfl, hNa_1, Pa_1, fa_1⟩ := hq
      rw [hNa_1]
      have hb_1 := (fa_1 b (by omega)).trans hb
      change WP G mX11_digest _ _ _ _ ha_1 N 94 [some (.ref (cB G + 169)), x1, some (.ref b), some (JV 6), some (JV (i : Int)), some (JV (g i)), x6, x7] []
      refine wp_iinc dX11_digest_94 rfl (Nat.le_of_ble_eq_true rfl) rfl ?_
      change WP G mX11_digest _ _ _ _ ha_1 N 97 [some (.ref (cB G + 169)), x1, some (.ref b), some (JV 6), some (JV ((i : Int) + 1)), some (JV (g i)), x6, x7] []
      refine wp_goto 76 dX11_digest_97 (by decide) ?_
      exact ih (i + 1) (dgs z (g i)) ha_1 (some (JV (g i))) (by omega) (by omega) Pa_1 hb_1 (fr.tr fa_1) kk

theorem lm_dg10 {Q : PQ} {X : PX} {k9 n9 : Nat} {h0 : AH} {b : Nat} {g : Nat → Int} (hb0 : cB G + 283 ≤ b) {x1 x2 x3 : Option Value} : ∀ (m : Nat) (i : Nat) (z : Int64) (h : AH) (u : Option Value), (10 - i = m) → (i ≤ 10) → (MP G N M L z h) → (h b = some (eI G 10 g)) → (FRM G h0 h) → (∀ (h' : AH) (u' : Option Value), MP G N M L (dgf g m i z) h' → FRM G h0 h' → WP G mX11_digest Q X k9 n9 h' N 255 [some (.ref (cB G + 169)), x1, x2, x3, some (.ref b), some (JV 10), some (JV 10), u'] []) → WP G mX11_digest Q X k9 n9 h N 229 [some (.ref (cB G + 169)), x1, x2, x3, some (.ref b), some (JV 10), some (JV (i : Int)), u] [] := by
  intro m
  induction m with
  | zero =>
    intro i z h u hm hi P hb fr kk
    have ei : i = 10 := by omega
    subst ei
    refine wp_iload dX11_digest_229 rfl ?_
    refine wp_iload dX11_digest_231 rfl ?_
    refine wp_icmp_ge 255 dX11_digest_233 (by decide) ⟨by omega, by omega⟩ ⟨by omega, by omega⟩ (fun c_233 => ?_) (fun c_233 => ?_)
    · exact kk h u P fr
    · exact absurd c_233 (by omega)
  | succ m ih =>
    intro i z h u hm hi P hb fr kk
    refine wp_iload dX11_digest_229 rfl ?_
    refine wp_iload dX11_digest_231 rfl ?_
    refine wp_icmp_ge 255 dX11_digest_233 (by decide) ⟨by omega, by omega⟩ ⟨by omega, by omega⟩ (fun c_233 => ?_) (fun c_233 => ?_)
    · exact absurd c_233 (by omega)
    · refine wp_aload dX11_digest_236 rfl ?_
      refine wp_iload dX11_digest_238 rfl ?_
      refine wp_iaload dX11_digest_240 hb (by omega) (by omega) (by omega) ?_
      change WP G mX11_digest _ _ _ _ h N 241 [some (.ref (cB G + 169)), x1, x2, x3, some (.ref b), some (JV 10), some (JV (i : Int)), u] [JV (g i)]
      refine wp_istore dX11_digest_241 (Nat.le_of_ble_eq_true rfl) rfl ?_
      change WP G mX11_digest _ _ _ _ h N 243 [some (.ref (cB G + 169)), x1, x2, x3, some (.ref b), some (JV 10), some (JV (i : Int)), some (JV (g i))] []
      refine wp_aload_n dX11_digest_243 rfl ?_
      refine wp_iload dX11_digest_244 rfl ?_
      refine wp_v1 k9 n9 (m_add (N := N) (v := g i) P) cvX11_287 dX11_digest_246 ⟨Nat.le_of_ble_eq_true rfl, Nat.le_of_ble_eq_true rfl⟩ (Nat.le_of_ble_eq_true rfl) P.c0 rfl rfl (by omega) (by omega) (fun r9 ha_1 Na_1 hq => ?_)
      obtain ⟨rfl, hNa_1, Pa_1, fa_1⟩ := hq
      rw [hNa_1]
      have hb_1 := (fa_1 b (by omega)).trans hb
      change WP G mX11_digest _ _ _ _ ha_1 N 249 [some (.ref (cB G + 169)), x1, x2, x3, some (.ref b), some (JV 10), some (JV (i : Int)), some (JV (g i))] []
      refine wp_iinc dX11_digest_249 rfl (Nat.le_of_ble_eq_true rfl) rfl ?_
      change WP G mX11_digest _ _ _ _ ha_1 N 252 [some (.ref (cB G + 169)), x1, x2, x3, some (.ref b), some (JV 10), some (JV ((i : Int) + 1)), some (JV (g i))] []
      refine wp_goto 229 dX11_digest_252 (by decide) ?_
      exact ih (i + 1) (dgs z (g i)) ha_1 (some (JV (g i))) (by omega) (by omega) Pa_1 hb_1 (fr.tr fa_1) kk

theorem lm_dgT {Q : PQ} {X : PX} {h0 : AH} {N0 N1 : Nat} {s : LState} (w : WF S) (tp : TOP S) (la : LAID S M) (r : RS S M) (km : KM S K M) (kc : KC K) (ml : MLS S M s) (lv : LV9 S s) (lf : LFD S s) (hN00 : cB G + 283 ≤ N0) {b1 : Nat} : ∀ (m : Nat) (k9 n9 : Nat) (t : Nat) (z : Int64) (h : AH) (N : Nat) (u3 u4 u5 u6 u7 : Option Value), ((S 13 0 0).toNat - t = m) → ((t : Int) ≤ S 13 0 0) → (MP G N M L z h) → (FA G N0 h0 h) → (N0 ≤ N ∧ N ≤ N1 + t) → (m ≤ k9) → (10 * m ≤ n9) → (∀ (h' : AH) (N' : Nat) (y3 y4 y5 y6 y7 : Option Value), MP G N' M L (dgr (dgV S K M s) m t z) h' → FA G N0 h0 h' → (N0 ≤ N' ∧ N' ≤ N1 + 24) → WP G mX11_digest Q X 0 0 h' N' 261 [some (.ref (cB G + 169)), some (.ref b1), some (JV (S 13 0 0)), y3, y4, y5, y6, y7] []) → WP G mX11_digest Q X k9 n9 h N 102 [some (.ref (cB G + 169)), some (.ref b1), some (JV (t : Int)), u3, u4, u5, u6, u7] [] := by
  intro m
  induction m with
  | zero =>
    intro k9 n9 t z h N u3 u4 u5 u6 u7 hm ht P fa hN hk hn kk
    have wT := w.nT
    have et : S 13 0 0 = (t : Int) := by omega
    refine wp_iload_n dX11_digest_102 rfl ?_
    refine wp_aload_n dX11_digest_103 rfl ?_
    refine wp_get fkX11_96 dX11_digest_104 (P.s0 r) rfl ?_
    refine wp_icmp_ge 261 dX11_digest_107 (by decide) ⟨by omega, by omega⟩ ⟨by omega, by omega⟩ (fun c_107 => ?_) (fun c_107 => ?_)
    · rw [← et]
      exact WP.le (Nat.zero_le _) (Nat.zero_le _) (kk h N u3 u4 u5 u6 u7 P fa (by omega))
    · exact absurd c_107 (by omega)
  | succ m ih =>
    intro k9 n9 t z h N u3 u4 u5 u6 u7 hm ht P fa hN hk hn kk
    have wT := w.nT
    have hbN : ∀ i, i < 40 → L i ≠ N := fun i hi => by have := P.rlt hi; omega
    refine wp_iload_n dX11_digest_102 rfl ?_
    refine wp_aload_n dX11_digest_103 rfl ?_
    refine wp_get fkX11_96 dX11_digest_104 (P.s0 r) rfl ?_
    refine wp_icmp_ge 261 dX11_digest_107 (by decide) ⟨by omega, by omega⟩ ⟨by omega, by omega⟩ (fun c_107 => ?_) (fun c_107 => ?_)
    · exact absurd c_107 (by omega)
    · refine wp_bipush dX11_digest_110 rfl ?_
      refine wp_newI (m := 10) (k2 := (k9 - 1)) (n2 := (n9 - 10)) dX11_digest_112 ar_int rfl (by decide) (by omega) (by omega) ?_
      obtain ⟨h_1, eh_1⟩ : ∃ hh9 : AH, hh9 = hup h (N) (eI G 10 (fun _ => 0)) := ⟨_, rfl⟩
      refine WP.heq eh_1 ?_
      have c1_0 : h_1 N = some (eI G 10 (fun _ => 0)) := by rw [eh_1]; exact hup_self _ _ _
      have PX_1 : MP G (N) M L z h_1 := P.loc (by omega) hbN eh_1
      change WP G mX11_digest _ _ (k9 - 1) (n9 - 10) h_1 (N + 1) 114 [some (.ref (cB G + 169)), some (.ref b1), some (JV (t : Int)), u3, u4, u5, u6, u7] [.ref N]
      have PU : MP G (N + 1) M L z h_1 := PX_1.up (by omega)
      refine wp_dup dX11_digest_114 rfl ?_
      refine wp_iconst dX11_digest_115 ?_
      refine wp_aload_n dX11_digest_116 rfl ?_
      refine wp_get fkX11_55 dX11_digest_117 (PU.s0 r) rfl ?_
      refine wp_iconst dX11_digest_120 ?_
      refine wp_aaload dX11_digest_121 PU.q19 rfl rfl (by omega) (by omega) (by omega) (if_pos (by omega)) ?_
      change WP G mX11_digest _ _ _ _ h_1 (N + 1) 122 [some (.ref (cB G + 169)), some (.ref b1), some (JV (t : Int)), u3, u4, u5, u6, u7] [.ref (cB G + 255 + 0), JV 0, .ref N, .ref N]
      refine wp_iload_n dX11_digest_122 rfl ?_
      refine wp_iaload dX11_digest_123 (PU.r19 (i := 0) (by omega)) (by omega) (by omega) (by omega) ?_
      change WP G mX11_digest _ _ _ _ h_1 (N + 1) 124 [some (.ref (cB G + 169)), some (.ref b1), some (JV (t : Int)), u3, u4, u5, u6, u7] [JV (M 19 0 t), JV 0, .ref N, .ref N]
      refine wp_iastore dX11_digest_124 c1_0 (by omega) (by omega) (by omega) ?_
      obtain ⟨h_2, eh_2⟩ : ∃ hh9 : AH, hh9 = hup h_1 N (eI G 10 (fup (fun _ => 0) 0 (M 19 0 t))) := ⟨_, rfl⟩
      refine WP.heq eh_2 ?_
      have c2_0 : h_2 N = some (eI G 10 (fup (fun _ => 0) 0 (M 19 0 t))) := by rw [eh_2]; exact hup_self _ _ _
      have PX_2 : MP G (N + 1) M L z h_2 := PU.loc (by omega) hbN eh_2
      refine wp_dup dX11_digest_125 rfl ?_
      refine wp_iconst dX11_digest_126 ?_
      refine wp_aload_n dX11_digest_127 rfl ?_
      refine wp_get fkX11_55 dX11_digest_128 (PX_2.s0 r) rfl ?_
      refine wp_iconst dX11_digest_131 ?_
      refine wp_aaload dX11_digest_132 PX_2.q19 rfl rfl (by omega) (by omega) (by omega) (if_pos (by omega)) ?_
      change WP G mX11_digest _ _ _ _ h_2 (N + 1) 133 [some (.ref (cB G + 169)), some (.ref b1), some (JV (t : Int)), u3, u4, u5, u6, u7] [.ref (cB G + 255 + 1), JV 1, .ref N, .ref N]
      refine wp_iload_n dX11_digest_133 rfl ?_
      refine wp_iaload dX11_digest_134 (PX_2.r19 (i := 1) (by omega)) (by omega) (by omega) (by omega) ?_
      change WP G mX11_digest _ _ _ _ h_2 (N + 1) 135 [some (.ref (cB G + 169)), some (.ref b1), some (JV (t : Int)), u3, u4, u5, u6, u7] [JV (M 19 1 t), JV 1, .ref N, .ref N]
      refine wp_iastore dX11_digest_135 c2_0 (by omega) (by omega) (by omega) ?_
      obtain ⟨h_3, eh_3⟩ : ∃ hh9 : AH, hh9 = hup h_2 N (eI G 10 (fup (fup (fun _ => 0) 0 (M 19 0 t)) 1 (M 19 1 t))) := ⟨_, rfl⟩
      refine WP.heq eh_3 ?_
      have c3_0 : h_3 N = some (eI G 10 (fup (fup (fun _ => 0) 0 (M 19 0 t)) 1 (M 19 1 t))) := by rw [eh_3]; exact hup_self _ _ _
      have PX_3 : MP G (N + 1) M L z h_3 := PX_2.loc (by omega) hbN eh_3
      refine wp_dup dX11_digest_136 rfl ?_
      refine wp_iconst dX11_digest_137 ?_
      refine wp_aload_n dX11_digest_138 rfl ?_
      refine wp_get fkX11_58 dX11_digest_139 (PX_3.s0 r) rfl ?_
      refine wp_iconst dX11_digest_142 ?_
      refine wp_aaload dX11_digest_143 PX_3.q20 rfl rfl (by omega) (by omega) (by omega) (if_pos (by omega)) ?_
      change WP G mX11_digest _ _ _ _ h_3 (N + 1) 144 [some (.ref (cB G + 169)), some (.ref b1), some (JV (t : Int)), u3, u4, u5, u6, u7] [.ref (cB G + 258 + 0), JV 2, .ref N, .ref N]
      refine wp_iload_n dX11_digest_144 rfl ?_
      refine wp_iaload dX11_digest_145 (PX_3.r20 (i := 0) (by omega)) (by omega) (by omega) (by omega) ?_
      change WP G mX11_digest _ _ _ _ h_3 (N + 1) 146 [some (.ref (cB G + 169)), some (.ref b1), some (JV (t : Int)), u3, u4, u5, u6, u7] [JV (M 20 0 t), JV 2, .ref N, .ref N]
      refine wp_iastore dX11_digest_146 c3_0 (by omega) (by omega) (by omega) ?_
      obtain ⟨h_4, eh_4⟩ : ∃ hh9 : AH, hh9 = hup h_3 N (eI G 10 (fup (fup (fup (fun _ => 0) 0 (M 19 0 t)) 1 (M 19 1 t)) 2 (M 20 0 t))) := ⟨_, rfl⟩
      refine WP.heq eh_4 ?_
      have c4_0 : h_4 N = some (eI G 10 (fup (fup (fup (fun _ => 0) 0 (M 19 0 t)) 1 (M 19 1 t)) 2 (M 20 0 t))) := by rw [eh_4]; exact hup_self _ _ _
      have PX_4 : MP G (N + 1) M L z h_4 := PX_3.loc (by omega) hbN eh_4
      refine wp_dup dX11_digest_147 rfl ?_
      refine wp_iconst dX11_digest_148 ?_
      refine wp_aload_n dX11_digest_149 rfl ?_
      refine wp_get fkX11_58 dX11_digest_150 (PX_4.s0 r) rfl ?_
      refine wp_iconst dX11_digest_153 ?_
      refine wp_aaload dX11_digest_154 PX_4.q20 rfl rfl (by omega) (by omega) (by omega) (if_pos (by omega)) ?_
      change WP G mX11_digest _ _ _ _ h_4 (N + 1) 155 [some (.ref (cB G + 169)), some (.ref b1), some (JV (t : Int)), u3, u4, u5, u6, u7] [.ref (cB G + 258 + 1), JV 3, .ref N, .ref N]
      refine wp_iload_n dX11_digest_155 rfl ?_
      refine wp_iaload dX11_digest_156 (PX_4.r20 (i := 1) (by omega)) (by omega) (by omega) (by omega) ?_
      change WP G mX11_digest _ _ _ _ h_4 (N + 1) 157 [some (.ref (cB G + 169)), some (.ref b1), some (JV (t : Int)), u3, u4, u5, u6, u7] [JV (M 20 1 t), JV 3, .ref N, .ref N]
      refine wp_iastore dX11_digest_157 c4_0 (by omega) (by omega) (by omega) ?_
      obtain ⟨h_5, eh_5⟩ : ∃ hh9 : AH, hh9 = hup h_4 N (eI G 10 (fup (fup (fup (fup (fun _ => 0) 0 (M 19 0 t)) 1 (M 19 1 t)) 2 (M 20 0 t)) 3 (M 20 1 t))) := ⟨_, rfl⟩
      refine WP.heq eh_5 ?_
      have c5_0 : h_5 N = some (eI G 10 (fup (fup (fup (fup (fun _ => 0) 0 (M 19 0 t)) 1 (M 19 1 t)) 2 (M 20 0 t)) 3 (M 20 1 t))) := by rw [eh_5]; exact hup_self _ _ _
      have PX_5 : MP G (N + 1) M L z h_5 := PX_4.loc (by omega) hbN eh_5
      refine wp_dup dX11_digest_158 rfl ?_
      refine wp_iconst dX11_digest_159 ?_
      refine wp_aload_n dX11_digest_160 rfl ?_
      refine wp_get fkX11_61 dX11_digest_161 (PX_5.s0 r) rfl ?_
      refine wp_iload_n dX11_digest_164 rfl ?_
      refine wp_iaload dX11_digest_165 PX_5.c21 (by omega) (by omega) (by omega) ?_
      change WP G mX11_digest _ _ _ _ h_5 (N + 1) 166 [some (.ref (cB G + 169)), some (.ref b1), some (JV (t : Int)), u3, u4, u5, u6, u7] [JV (M 21 t 0), JV 4, .ref N, .ref N]
      refine wp_iastore dX11_digest_166 c5_0 (by omega) (by omega) (by omega) ?_
      obtain ⟨h_6, eh_6⟩ : ∃ hh9 : AH, hh9 = hup h_5 N (eI G 10 (fup (fup (fup (fup (fup (fun _ => 0) 0 (M 19 0 t)) 1 (M 19 1 t)) 2 (M 20 0 t)) 3 (M 20 1 t)) 4 (M 21 t 0))) := ⟨_, rfl⟩
      refine WP.heq eh_6 ?_
      have c6_0 : h_6 N = some (eI G 10 (fup (fup (fup (fup (fup (fun _ => 0) 0 (M 19 0 t)) 1 (M 19 1 t)) 2 (M 20 0 t)) 3 (M 20 1 t)) 4 (M 21 t 0))) := by rw [eh_6]; exact hup_self _ _ _
      have PX_6 : MP G (N + 1) M L z h_6 := PX_5.loc (by omega) hbN eh_6
      refine wp_dup dX11_digest_167 rfl ?_
      refine wp_iconst dX11_digest_168 ?_
      refine wp_aload_n dX11_digest_169 rfl ?_
      refine wp_get fkX11_64 dX11_digest_170 (PX_6.s0 r) rfl ?_
      refine wp_iconst dX11_digest_173 ?_
      refine wp_aaload dX11_digest_174 PX_6.q22 rfl rfl (by omega) (by omega) (by omega) (if_pos (by omega)) ?_
      change WP G mX11_digest _ _ _ _ h_6 (N + 1) 175 [some (.ref (cB G + 169)), some (.ref b1), some (JV (t : Int)), u3, u4, u5, u6, u7] [.ref (cB G + 262 + 0), JV 5, .ref N, .ref N]
      refine wp_iload_n dX11_digest_175 rfl ?_
      refine wp_iaload dX11_digest_176 (PX_6.r22 (i := 0) (by omega)) (by omega) (by omega) (by omega) ?_
      change WP G mX11_digest _ _ _ _ h_6 (N + 1) 177 [some (.ref (cB G + 169)), some (.ref b1), some (JV (t : Int)), u3, u4, u5, u6, u7] [JV (M 22 0 t), JV 5, .ref N, .ref N]
      refine wp_iastore dX11_digest_177 c6_0 (by omega) (by omega) (by omega) ?_
      obtain ⟨h_7, eh_7⟩ : ∃ hh9 : AH, hh9 = hup h_6 N (eI G 10 (fup (fup (fup (fup (fup (fup (fun _ => 0) 0 (M 19 0 t)) 1 (M 19 1 t)) 2 (M 20 0 t)) 3 (M 20 1 t)) 4 (M 21 t 0)) 5 (M 22 0 t))) := ⟨_, rfl⟩
      refine WP.heq eh_7 ?_
      have c7_0 : h_7 N = some (eI G 10 (fup (fup (fup (fup (fup (fup (fun _ => 0) 0 (M 19 0 t)) 1 (M 19 1 t)) 2 (M 20 0 t)) 3 (M 20 1 t)) 4 (M 21 t 0)) 5 (M 22 0 t))) := by rw [eh_7]; exact hup_self _ _ _
      have PX_7 : MP G (N + 1) M L z h_7 := PX_6.loc (by omega) hbN eh_7
      refine wp_dup dX11_digest_178 rfl ?_
      refine wp_bipush dX11_digest_179 rfl ?_
      refine wp_aload_n dX11_digest_181 rfl ?_
      refine wp_get fkX11_64 dX11_digest_182 (PX_7.s0 r) rfl ?_
      refine wp_iconst dX11_digest_185 ?_
      refine wp_aaload dX11_digest_186 PX_7.q22 rfl rfl (by omega) (by omega) (by omega) (if_pos (by omega)) ?_
      change WP G mX11_digest _ _ _ _ h_7 (N + 1) 187 [some (.ref (cB G + 169)), some (.ref b1), some (JV (t : Int)), u3, u4, u5, u6, u7] [.ref (cB G + 262 + 1), JV 6, .ref N, .ref N]
      refine wp_iload_n dX11_digest_187 rfl ?_
      refine wp_iaload dX11_digest_188 (PX_7.r22 (i := 1) (by omega)) (by omega) (by omega) (by omega) ?_
      change WP G mX11_digest _ _ _ _ h_7 (N + 1) 189 [some (.ref (cB G + 169)), some (.ref b1), some (JV (t : Int)), u3, u4, u5, u6, u7] [JV (M 22 1 t), JV 6, .ref N, .ref N]
      refine wp_iastore dX11_digest_189 c7_0 (by omega) (by omega) (by omega) ?_
      obtain ⟨h_8, eh_8⟩ : ∃ hh9 : AH, hh9 = hup h_7 N (eI G 10 (fup (fup (fup (fup (fup (fup (fup (fun _ => 0) 0 (M 19 0 t)) 1 (M 19 1 t)) 2 (M 20 0 t)) 3 (M 20 1 t)) 4 (M 21 t 0)) 5 (M 22 0 t)) 6 (M 22 1 t))) := ⟨_, rfl⟩
      refine WP.heq eh_8 ?_
      have c8_0 : h_8 N = some (eI G 10 (fup (fup (fup (fup (fup (fup (fup (fun _ => 0) 0 (M 19 0 t)) 1 (M 19 1 t)) 2 (M 20 0 t)) 3 (M 20 1 t)) 4 (M 21 t 0)) 5 (M 22 0 t)) 6 (M 22 1 t))) := by rw [eh_8]; exact hup_self _ _ _
      have PX_8 : MP G (N + 1) M L z h_8 := PX_7.loc (by omega) hbN eh_8
      refine wp_dup dX11_digest_190 rfl ?_
      refine wp_bipush dX11_digest_191 rfl ?_
      refine wp_aload_n dX11_digest_193 rfl ?_
      refine wp_iload_n dX11_digest_194 rfl ?_
      refine wp_v1p (m_holdsNow (N := N + 1) PX_8 r w ml lv lf (t := t) (by omega)) cvX11_239 dX11_digest_195 ⟨Nat.le_of_ble_eq_true rfl, Nat.le_of_ble_eq_true rfl⟩ (Nat.le_of_ble_eq_true rfl) (PX_8.s0 r) rfl rfl ?_
      refine wp_iastore dX11_digest_198 c8_0 (by omega) (by omega) (by omega) ?_
      obtain ⟨h_9, eh_9⟩ : ∃ hh9 : AH, hh9 = hup h_8 N (eI G 10 (fup (fup (fup (fup (fup (fup (fup (fup (fun _ => 0) 0 (M 19 0 t)) 1 (M 19 1 t)) 2 (M 20 0 t)) 3 (M 20 1 t)) 4 (M 21 t 0)) 5 (M 22 0 t)) 6 (M 22 1 t)) 7 (holdF S (M 22 0) (M 22 1) s.2.2.1 t))) := ⟨_, rfl⟩
      refine WP.heq eh_9 ?_
      have c9_0 : h_9 N = some (eI G 10 (fup (fup (fup (fup (fup (fup (fup (fup (fun _ => 0) 0 (M 19 0 t)) 1 (M 19 1 t)) 2 (M 20 0 t)) 3 (M 20 1 t)) 4 (M 21 t 0)) 5 (M 22 0 t)) 6 (M 22 1 t)) 7 (holdF S (M 22 0) (M 22 1) s.2.2.1 t))) := by rw [eh_9]; exact hup_self _ _ _
      have PX_9 : MP G (N + 1) M L z h_9 := PX_8.loc (by omega) hbN eh_9
      refine wp_dup dX11_digest_199 rfl ?_
      refine wp_bipush dX11_digest_200 rfl ?_
      refine wp_aload_n dX11_digest_202 rfl ?_
      refine wp_iload_n dX11_digest_203 rfl ?_
      refine wp_v1p (m_holder (N := N + 1) PX_9 r w ml lv lf (t := t) (by omega)) cvX11_242 dX11_digest_204 ⟨Nat.le_of_ble_eq_true rfl, Nat.le_of_ble_eq_true rfl⟩ (Nat.le_of_ble_eq_true rfl) (PX_9.s0 r) rfl rfl ?_
      refine wp_iastore dX11_digest_207 c9_0 (by omega) (by omega) (by omega) ?_
      obtain ⟨h_10, eh_10⟩ : ∃ hh9 : AH, hh9 = hup h_9 N (eI G 10 (fup (fup (fup (fup (fup (fup (fup (fup (fup (fun _ => 0) 0 (M 19 0 t)) 1 (M 19 1 t)) 2 (M 20 0 t)) 3 (M 20 1 t)) 4 (M 21 t 0)) 5 (M 22 0 t)) 6 (M 22 1 t)) 7 (holdF S (M 22 0) (M 22 1) s.2.2.1 t)) 8 (lthF S (M 22 0) (M 22 1) s.2.2.1 t))) := ⟨_, rfl⟩
      refine WP.heq eh_10 ?_
      have c10_0 : h_10 N = some (eI G 10 (fup (fup (fup (fup (fup (fup (fup (fup (fup (fun _ => 0) 0 (M 19 0 t)) 1 (M 19 1 t)) 2 (M 20 0 t)) 3 (M 20 1 t)) 4 (M 21 t 0)) 5 (M 22 0 t)) 6 (M 22 1 t)) 7 (holdF S (M 22 0) (M 22 1) s.2.2.1 t)) 8 (lthF S (M 22 0) (M 22 1) s.2.2.1 t))) := by rw [eh_10]; exact hup_self _ _ _
      have PX_10 : MP G (N + 1) M L z h_10 := PX_9.loc (by omega) hbN eh_10
      refine wp_dup dX11_digest_208 rfl ?_
      refine wp_bipush dX11_digest_209 rfl ?_
      refine wp_aload_n dX11_digest_211 rfl ?_
      refine wp_iload_n dX11_digest_212 rfl ?_
      refine wp_v1p (m_behindNow (N := N + 1) PX_10 r w km kc ml lv (t := t) (by omega)) cvX11_257 dX11_digest_213 ⟨Nat.le_of_ble_eq_true rfl, Nat.le_of_ble_eq_true rfl⟩ (Nat.le_of_ble_eq_true rfl) (PX_10.s0 r) rfl rfl ?_
      refine wp_iastore dX11_digest_216 c10_0 (by omega) (by omega) (by omega) ?_
      obtain ⟨h_11, eh_11⟩ : ∃ hh9 : AH, hh9 = hup h_10 N (eI G 10 (fup (fup (fup (fup (fup (fup (fup (fup (fup (fup (fun _ => 0) 0 (M 19 0 t)) 1 (M 19 1 t)) 2 (M 20 0 t)) 3 (M 20 1 t)) 4 (M 21 t 0)) 5 (M 22 0 t)) 6 (M 22 1 t)) 7 (holdF S (M 22 0) (M 22 1) s.2.2.1 t)) 8 (lthF S (M 22 0) (M 22 1) s.2.2.1 t)) 9 (dlyF K.2.2.1 K.2.2.2.1 (M 22 1) s.2.2.1 t))) := ⟨_, rfl⟩
      refine WP.heq eh_11 ?_
      have c11_0 : h_11 N = some (eI G 10 (fup (fup (fup (fup (fup (fup (fup (fup (fup (fup (fun _ => 0) 0 (M 19 0 t)) 1 (M 19 1 t)) 2 (M 20 0 t)) 3 (M 20 1 t)) 4 (M 21 t 0)) 5 (M 22 0 t)) 6 (M 22 1 t)) 7 (holdF S (M 22 0) (M 22 1) s.2.2.1 t)) 8 (lthF S (M 22 0) (M 22 1) s.2.2.1 t)) 9 (dlyF K.2.2.1 K.2.2.2.1 (M 22 1) s.2.2.1 t))) := by rw [eh_11]; exact hup_self _ _ _
      have PX_11 : MP G (N + 1) M L z h_11 := PX_10.loc (by omega) hbN eh_11
      refine wp_astore_n dX11_digest_217 (Nat.le_of_ble_eq_true rfl) rfl ?_
      change WP G mX11_digest _ _ _ _ h_11 (N + 1) 218 [some (.ref (cB G + 169)), some (.ref b1), some (JV (t : Int)), some (.ref N), u4, u5, u6, u7] []
      refine wp_aload_n dX11_digest_218 rfl ?_
      refine wp_astore dX11_digest_219 (Nat.le_of_ble_eq_true rfl) rfl ?_
      change WP G mX11_digest _ _ _ _ h_11 (N + 1) 221 [some (.ref (cB G + 169)), some (.ref b1), some (JV (t : Int)), some (.ref N), some (.ref N), u5, u6, u7] []
      refine wp_aload dX11_digest_221 rfl ?_
      refine wp_alenI dX11_digest_223 c11_0 ?_
      refine wp_istore dX11_digest_224 (Nat.le_of_ble_eq_true rfl) rfl ?_
      change WP G mX11_digest _ _ _ _ h_11 (N + 1) 226 [some (.ref (cB G + 169)), some (.ref b1), some (JV (t : Int)), some (.ref N), some (.ref N), some (JV 10), u6, u7] []
      refine wp_iconst dX11_digest_226 ?_
      refine wp_istore dX11_digest_227 (Nat.le_of_ble_eq_true rfl) rfl ?_
      change WP G mX11_digest _ _ _ _ h_11 (N + 1) 229 [some (.ref (cB G + 169)), some (.ref b1), some (JV (t : Int)), some (.ref N), some (.ref N), some (JV 10), some (JV 0), u7] []
      obtain ⟨gv, egv⟩ : ∃ gg9 : Nat → Int, gg9 = (fup (fup (fup (fup (fup (fup (fup (fup (fup (fup (fun _ => 0) 0 (M 19 0 t)) 1 (M 19 1 t)) 2 (M 20 0 t)) 3 (M 20 1 t)) 4 (M 21 t 0)) 5 (M 22 0 t)) 6 (M 22 1 t)) 7 (holdF S (M 22 0) (M 22 1) s.2.2.1 t)) 8 (lthF S (M 22 0) (M 22 1) s.2.2.1 t)) 9 (dlyF K.2.2.1 K.2.2.2.1 (M 22 1) s.2.2.1 t)) := ⟨_, rfl⟩
      have hcN : h_11 N = some (eI G 10 gv) := by rw [egv]; exact c11_0
      refine lm_dg10 (h0 := h_11) (g := gv) (b := N) (by omega) _ 0 z h_11 u7 rfl (by omega) PX_11 hcN FRM.rf (fun h8 u8 P8 f8 => ?_)
      rw [show dgf gv 10 0 z = (dgV S K M s t).foldl dgs z by rw [egv]; rfl] at P8
      have fa8 : FA G N0 h0 h8 := ((((((((((((fa.up eh_1 (by omega)).up eh_2 (by omega)).up eh_3 (by omega)).up eh_4 (by omega)).up eh_5 (by omega)).up eh_6 (by omega)).up eh_7 (by omega)).up eh_8 (by omega)).up eh_9 (by omega)).up eh_10 (by omega)).up eh_11 (by omega))).tr f8.fa hN.1
      change WP G mX11_digest _ _ _ _ h8 (N + 1) 255 [some (.ref (cB G + 169)), some (.ref b1), some (JV (t : Int)), some (.ref N), some (.ref N), some (JV 10), some (JV 10), u8] []
      refine wp_iinc dX11_digest_255 rfl (Nat.le_of_ble_eq_true rfl) rfl ?_
      change WP G mX11_digest _ _ _ _ h8 (N + 1) 258 [some (.ref (cB G + 169)), some (.ref b1), some (JV ((t : Int) + 1)), some (.ref N), some (.ref N), some (JV 10), some (JV 10), u8] []
      refine wp_goto 102 dX11_digest_258 (by decide) ?_
      exact ih (k9 - 1) (n9 - 10) (t + 1) ((dgV S K M s t).foldl dgs z) h8 (N + 1) (some (.ref N)) (some (.ref N)) (some (JV 10)) (some (JV 10)) u8 (by omega) (by omega) P8 fa8 (by omega) (by omega) (by omega) kk

theorem lm_dgC {Q : PQ} {X : PX} {k9 n9 : Nat} {h0 : AH} {N0 : Nat} (w : WF S) (tp : TOP S) (la : LAID S M) (r : RS S M) (hus : ∀ c, c < 4 → ∀ d, d < 5000 → 0 ≤ M 27 c d ∧ M 27 c d ≤ 100000) (hld : 0 ≤ M 26 0 0 ∧ M 26 0 0 ≤ 5000) (hN00 : N0 ≤ N) {b1 : Nat} {u3 u4 u5 u6 u7 : Option Value} : ∀ (m : Nat) (c : Nat) (z : Int64) (h : AH), (4 - c = m) → (c ≤ 4) → (MP G N M L z h) → (FA G N0 h0 h) → (∀ (h' : AH), MP G N M L (dgr (dgW S M) m c z) h' → FA G N0 h0 h' → WP G mX11_digest Q X k9 n9 h' N 301 [some (.ref (cB G + 169)), some (.ref b1), some (JV 4), u3, u4, u5, u6, u7] []) → WP G mX11_digest Q X k9 n9 h N 263 [some (.ref (cB G + 169)), some (.ref b1), some (JV (c : Int)), u3, u4, u5, u6, u7] [] := by
  intro m
  induction m with
  | zero =>
    intro c z h hm hc P fa kk
    have ec : c = 4 := by omega
    subst ec
    refine wp_iload_n dX11_digest_263 rfl ?_
    refine wp_iconst dX11_digest_264 ?_
    refine wp_icmp_ge 301 dX11_digest_265 (by decide) ⟨by omega, by omega⟩ ⟨by omega, by omega⟩ (fun c_265 => ?_) (fun c_265 => ?_)
    · exact kk h P fa
    · exact absurd c_265 (by omega)
  | succ m ih =>
    intro c z h hm hc P fa kk
    refine wp_iload_n dX11_digest_263 rfl ?_
    refine wp_iconst dX11_digest_264 ?_
    refine wp_icmp_ge 301 dX11_digest_265 (by decide) ⟨by omega, by omega⟩ ⟨by omega, by omega⟩ (fun c_265 => ?_) (fun c_265 => ?_)
    · exact absurd c_265 (by omega)
    · refine wp_aload_n dX11_digest_268 rfl ?_
      refine wp_aload_n dX11_digest_269 rfl ?_
      refine wp_iload_n dX11_digest_270 rfl ?_
      refine wp_v1p (m_overloadedNow (N := N) P r w tp la (c := c) (by omega)) cvX11_233 dX11_digest_271 ⟨Nat.le_of_ble_eq_true rfl, Nat.le_of_ble_eq_true rfl⟩ (Nat.le_of_ble_eq_true rfl) (P.s0 r) rfl rfl ?_
      refine wp_v1 k9 n9 (m_add (N := N) (v := dab (ldg S (M 19 0) (M 19 1) (inT S) c) (S 3 c 0) (M 25 0 0).toNat 0) P) cvX11_287 dX11_digest_274 ⟨Nat.le_of_ble_eq_true rfl, Nat.le_of_ble_eq_true rfl⟩ (Nat.le_of_ble_eq_true rfl) P.c0 rfl rfl (by omega) (by omega) (fun r9 ha_1 Na_1 hq => ?_)
      obtain ⟨rfl, hNa_1, Pa_1, fa_1⟩ := hq
      rw [hNa_1]
      change WP G mX11_digest _ _ _ _ ha_1 N 277 [some (.ref (cB G + 169)), some (.ref b1), some (JV (c : Int)), u3, u4, u5, u6, u7] []
      refine wp_aload_n dX11_digest_277 rfl ?_
      refine wp_aload_n dX11_digest_278 rfl ?_
      refine wp_iload_n dX11_digest_279 rfl ?_
      refine wp_v1p (m_peakNow (N := N) Pa_1 r w (c := c) (by omega) (hus c (by omega)) hld) cvX11_236 dX11_digest_280 ⟨Nat.le_of_ble_eq_true rfl, Nat.le_of_ble_eq_true rfl⟩ (Nat.le_of_ble_eq_true rfl) (Pa_1.s0 r) rfl rfl ?_
      refine wp_v1 k9 n9 (m_add (N := N) (v := grt (M 27 c) (M 26 0 0).toNat 0 0) Pa_1) cvX11_287 dX11_digest_283 ⟨Nat.le_of_ble_eq_true rfl, Nat.le_of_ble_eq_true rfl⟩ (Nat.le_of_ble_eq_true rfl) Pa_1.c0 rfl rfl (by omega) (by omega) (fun r9 ha_2 Na_2 hq => ?_)
      obtain ⟨rfl, hNa_2, Pa_2, fa_2⟩ := hq
      rw [hNa_2]
      change WP G mX11_digest _ _ _ _ ha_2 N 286 [some (.ref (cB G + 169)), some (.ref b1), some (JV (c : Int)), u3, u4, u5, u6, u7] []
      refine wp_aload_n dX11_digest_286 rfl ?_
      refine wp_aload_n dX11_digest_287 rfl ?_
      refine wp_iload_n dX11_digest_288 rfl ?_
      refine wp_v1p (m_idleNow (N := N) Pa_2 r w (c := c) (by omega) (hus c (by omega)) hld) cvX11_245 dX11_digest_289 ⟨Nat.le_of_ble_eq_true rfl, Nat.le_of_ble_eq_true rfl⟩ (Nat.le_of_ble_eq_true rfl) (Pa_2.s0 r) rfl rfl ?_
      refine wp_v1 k9 n9 (m_add (N := N) (v := lov (M 27) c (S 3 c 0) (M 26 0 0).toNat 0) Pa_2) cvX11_287 dX11_digest_292 ⟨Nat.le_of_ble_eq_true rfl, Nat.le_of_ble_eq_true rfl⟩ (Nat.le_of_ble_eq_true rfl) Pa_2.c0 rfl rfl (by omega) (by omega) (fun r9 ha_3 Na_3 hq => ?_)
      obtain ⟨rfl, hNa_3, Pa_3, fa_3⟩ := hq
      rw [hNa_3]
      change WP G mX11_digest _ _ _ _ ha_3 N 295 [some (.ref (cB G + 169)), some (.ref b1), some (JV (c : Int)), u3, u4, u5, u6, u7] []
      refine wp_iinc dX11_digest_295 rfl (Nat.le_of_ble_eq_true rfl) rfl ?_
      change WP G mX11_digest _ _ _ _ ha_3 N 298 [some (.ref (cB G + 169)), some (.ref b1), some (JV ((c : Int) + 1)), u3, u4, u5, u6, u7] []
      refine wp_goto 263 dX11_digest_298 (by decide) ?_
      exact ih (c + 1) _ ha_3 (by omega) (by omega) Pa_3 (((fa.tr fa_1.fa hN00).tr fa_2.fa hN00).tr fa_3.fa hN00) kk

theorem lm_dgO {Q : PQ} {X : PX} {k9 n9 : Nat} {h0 : AH} {N0 np : Nat} (w : WF S) (r : RS S M) (hp : M 24 0 0 = (np : Int)) (hnp : np ≤ 24) (hN00 : N0 ≤ N) {b1 : Nat} {u3 u4 u5 u6 u7 : Option Value} : ∀ (m : Nat) (i : Nat) (z : Int64) (h : AH), (np - i = m) → (i ≤ np) → (MP G N M L z h) → (FA G N0 h0 h) → (∀ (h' : AH), MP G N M L (dgr (fun t => [M 23 t 0]) m i z) h' → FA G N0 h0 h' → WP G mX11_digest Q X k9 n9 h' N 327 [some (.ref (cB G + 169)), some (.ref b1), some (JV (np : Int)), u3, u4, u5, u6, u7] []) → WP G mX11_digest Q X k9 n9 h N 303 [some (.ref (cB G + 169)), some (.ref b1), some (JV (i : Int)), u3, u4, u5, u6, u7] [] := by
  intro m
  induction m with
  | zero =>
    intro i z h hm hi P fa kk
    have ei : i = np := by omega
    subst ei
    refine wp_iload_n dX11_digest_303 rfl ?_
    refine wp_aload_n dX11_digest_304 rfl ?_
    refine wp_get fkX11_150 dX11_digest_305 (P.s0 r) rfl ?_
    rw [hp]
    refine wp_icmp_ge 327 dX11_digest_308 (by decide) ⟨by omega, by omega⟩ ⟨by omega, by omega⟩ (fun c_308 => ?_) (fun c_308 => ?_)
    · exact kk h P fa
    · exact absurd c_308 (by omega)
  | succ m ih =>
    intro i z h hm hi P fa kk
    refine wp_iload_n dX11_digest_303 rfl ?_
    refine wp_aload_n dX11_digest_304 rfl ?_
    refine wp_get fkX11_150 dX11_digest_305 (P.s0 r) rfl ?_
    rw [hp]
    refine wp_icmp_ge 327 dX11_digest_308 (by decide) ⟨by omega, by omega⟩ ⟨by omega, by omega⟩ (fun c_308 => ?_) (fun c_308 => ?_)
    · exact absurd c_308 (by omega)
    · refine wp_aload_n dX11_digest_311 rfl ?_
      refine wp_aload_n dX11_digest_312 rfl ?_
      refine wp_get fkX11_67 dX11_digest_313 (P.s0 r) rfl ?_
      refine wp_iload_n dX11_digest_316 rfl ?_
      refine wp_iaload dX11_digest_317 P.c23 (by omega) (by omega) (by omega) ?_
      change WP G mX11_digest _ _ _ _ h N 318 [some (.ref (cB G + 169)), some (.ref b1), some (JV (i : Int)), u3, u4, u5, u6, u7] [JV (M 23 i 0), .ref (cB G + 169)]
      refine wp_v1 k9 n9 (m_add (N := N) (v := M 23 i 0) P) cvX11_287 dX11_digest_318 ⟨Nat.le_of_ble_eq_true rfl, Nat.le_of_ble_eq_true rfl⟩ (Nat.le_of_ble_eq_true rfl) P.c0 rfl rfl (by omega) (by omega) (fun r9 ha_1 Na_1 hq => ?_)
      obtain ⟨rfl, hNa_1, Pa_1, fa_1⟩ := hq
      rw [hNa_1]
      change WP G mX11_digest _ _ _ _ ha_1 N 321 [some (.ref (cB G + 169)), some (.ref b1), some (JV (i : Int)), u3, u4, u5, u6, u7] []
      refine wp_iinc dX11_digest_321 rfl (Nat.le_of_ble_eq_true rfl) rfl ?_
      change WP G mX11_digest _ _ _ _ ha_1 N 324 [some (.ref (cB G + 169)), some (.ref b1), some (JV ((i : Int) + 1)), u3, u4, u5, u6, u7] []
      refine wp_goto 303 dX11_digest_324 (by decide) ?_
      exact ih (i + 1) _ ha_1 (by omega) (by omega) Pa_1 (fa.tr fa_1.fa hN00) kk

noncomputable def dgM (S : ST) (K : KTup) (M : ST) (s : LState) : Int64 := [earnF S K.2.2.2.1 K.2.2.2.2.1 (S 13 0 0).toNat 0, worF S (S 13 0 0).toNat 0, planF S K.2.1 K.2.2.1 K.2.2.2.1 K.2.2.2.2.1 K.2.2.2.2.2.1 K.2.2.2.2.2.2.2 (M 26 0 0) (S 13 0 0).toNat 0].foldl dgs (dgr (fun t => [M 23 t 0]) (M 24 0 0).toNat 0 (dgr (dgW S M) 4 0 (dgr (dgV S K M s) (S 13 0 0).toNat 0 ([S 13 0 0, S 14 0 0, M 25 0 0, tgt S (fun t => M 21 t 0) (S 13 0 0).toNat 0, M 26 0 0, S 13 0 0 - M 24 0 0].foldl dgs 2633))))
theorem m_digest (P : MP G N M L z h) (r : RS S M) (w : WF S) (tp : TOP S) (hl : M 17 0 0 = 0 ∨ (M 17 0 0 = 1 ∧ LAID S M)) (km : KM S K M) (kc : KC K) : CT G mX11_digest [.ref (cB G + 169)] h N 27 294 (fun r h' N' => ∃ M' z', (N ≤ N' ∧ N' ≤ N + 30 ∧ MP G N' M' L z' h' ∧ RS S M' ∧ M' 0 0 0 = 0 ∧ M' 17 0 0 = 1 ∧ LAID S M' ∧ (∀ f, (∀ g ∈ mDV, g ≠ f) → f ≠ 0 → M' f = M f) ∧ FA G N h h') ∧ ∃ od, MLS S M' (lvAll S (M' 20 0) (fun x => M' 21 x 0) (S 15 0 0) od) ∧ r = some (.long (dgM S K M' (lvAll S (M' 20 0) (fun x => M' 21 x 0) (S 15 0 0) od)))) := by
  have wT := w.nT
  have wL := w.nL
  have wR := w.rule
  have hN0 := P.nN
  refine CT_of (by decide +kernel) rfl (by simp [Value.category]) (Nat.le_of_ble_eq_true rfl) ?_
  change WP G mX11_digest _ noX _ _ h N 0 [some (.ref (cB G + 169)), none, none, none, none, none, none, none] []
  refine wp_aload_n dX11_digest_0 rfl ?_
  refine wp_iconst dX11_digest_1 ?_
  refine wp_put fkX11_88 dX11_digest_2 (P.s0 r) rfl rfl (Nat.le_of_ble_eq_true rfl) ?_
  obtain ⟨h_1, eh_1⟩ : ∃ hh9 : AH, hh9 = hup h (cB G + 169) (eO 11 [JV 0, .ref (cB G + 170), .ref (cB G + 171), .ref (cB G + 172), .ref (cB G + 177), .ref (cB G + 178), JV (S 13 0 0), .ref (cB G + 179), .ref (cB G + 180), .ref (cB G + 181), .ref (cB G + 182), .ref (cB G + 183), .ref (cB G + 208), .ref (cB G + 209), JV (S 14 0 0), .ref (cB G + 212), JV (S 15 0 0), JV (M 17 0 0), .ref (cB G + 253), .ref (cB G + 254), .ref (cB G + 257), .ref (cB G + 260), .ref (cB G + 261), .ref (cB G + 264), JV (M 24 0 0), JV (M 25 0 0), JV (M 26 0 0), .ref (cB G + 265), JV (M 28 0 0), .ref (cB G + 270), .ref (cB G + 273), .ref (cB G + 274), .ref (cB G + 275), .ref (cB G + 276), .long z]) := ⟨_, rfl⟩
  refine WP.heq eh_1 ?_
  obtain ⟨M_1, eM_1⟩ : ∃ ss9 : ST, ss9 = su M 0 0 0 0 := ⟨_, rfl⟩
  have P_1 : MP G (N) M_1 L z h_1 := by rw [eM_1]; exact P.sc (f := 0) (v := 0) (by decide) (eh_1.trans (by simp [cMod, su, r.2.2.1.1, r.2.2.1.2.1, r.2.2.1.2.2]))
  have r_1 : RS S M_1 := by rw [eM_1]; exact r.der (by decide)
  refine wp_aload_n dX11_digest_5 rfl ?_
  have hl1 : M_1 17 0 0 = 0 ∨ (M_1 17 0 0 = 1 ∧ LAID S M_1) := by rw [eM_1]; exact hl_thr hl
  refine wp_v0 25 246 (m_lay (N := N) P_1 r_1 w tp hl1) cvX11_220 dX11_digest_6 ⟨Nat.le_of_ble_eq_true rfl, Nat.le_of_ble_eq_true rfl⟩ (Nat.le_of_ble_eq_true rfl) (P_1.s0 r_1) rfl rfl (by omega) (by omega) (fun r9 h7 N7 hq => ?_)
  obtain ⟨rfl, hN7, hN7b, M7, P7, r7, e717, la7, m7, f7⟩ := hq
  change WP G mX11_digest _ _ _ _ h7 N7 9 [some (.ref (cB G + 169)), none, none, none, none, none, none, none] []
  have hN0 := P.nN
  have e70 : M7 0 0 0 = 0 := by rw [m7 0 mDV_0, eM_1]; exact su_s
  have fa7 : FA G N h h7 := (FA.rf.up eh_1 (by omega)).tr f7 (Nat.le_refl _)
  have m7' : ∀ f, (∀ g ∈ mDV, g ≠ f) → f ≠ 0 → M7 f = M f := fun f hf h0 => by rw [m7 f hf, eM_1, su_f h0]
  obtain ⟨od, ml⟩ := la7.2.2.2
  have lv := LV9_all w (lb := M7 20 0) (rm := fun x => M7 21 x 0) (rl := S 15 0 0) od
  have lf := LFD_all w (lb := M7 20 0) (rm := fun x => M7 21 x 0) (rl := S 15 0 0) od
  have hct := lv.ct w
  have wT := w.nT
  have hct0 := lv.2.2.2.1
  have hld := lv.2.2.2.2.2.2.1
  have e24 := ml.2.2.1
  have e26 := ml.2.2.2.1
  have km7 := km.of (M' := M7) (fun f hf => m7' f (mDV_17 f hf) ((show ∀ x ∈ mKP, x ≠ 0 by decide) f hf))
  refine wp_aload_n dX11_digest_9 rfl ?_
  refine wp_ldc2 dX11_digest_10 ctX11_285 ?_
  refine wp_put fkX11_279 dX11_digest_13 P7.c0 rfl rfl (Nat.le_of_ble_eq_true rfl) ?_
  obtain ⟨h_2, eh_2⟩ : ∃ hh9 : AH, hh9 = hup h7 (cB G + 169) (eO 11 [JV (M7 0 0 0), .ref (cB G + 170), .ref (cB G + 171), .ref (cB G + 172), .ref (cB G + 177), .ref (cB G + 178), JV (M7 6 0 0), .ref (cB G + 179), .ref (cB G + 180), .ref (cB G + 181), .ref (cB G + 182), .ref (cB G + 183), .ref (cB G + 208), .ref (cB G + 209), JV (M7 14 0 0), .ref (cB G + 212), JV (M7 16 0 0), JV (M7 17 0 0), .ref (cB G + 253), .ref (cB G + 254), .ref (cB G + 257), .ref (cB G + 260), .ref (cB G + 261), .ref (cB G + 264), JV (M7 24 0 0), JV (M7 25 0 0), JV (M7 26 0 0), .ref (cB G + 265), JV (M7 28 0 0), .ref (cB G + 270), .ref (cB G + 273), .ref (cB G + 274), .ref (cB G + 275), .ref (cB G + 276), .long 2633]) := ⟨_, rfl⟩
  refine WP.heq eh_2 ?_
  obtain ⟨z_2, ez_2⟩ : ∃ zz9 : Int64, zz9 = 2633 := ⟨_, rfl⟩
  have P_2 : MP G (N7) M7 L z_2 h_2 := by rw [ez_2]; exact P7.sum eh_2
  have hbN : ∀ i, i < 40 → L i ≠ N7 := fun i hi => by have := P7.rlt hi; omega
  refine wp_bipush dX11_digest_16 rfl ?_
  refine wp_newI (m := 6) (k2 := 24) (n2 := 240) dX11_digest_18 ar_int rfl (by decide) (by omega) (by omega) ?_
  obtain ⟨h_3, eh_3⟩ : ∃ hh9 : AH, hh9 = hup h_2 (N7) (eI G 6 (fun _ => 0)) := ⟨_, rfl⟩
  refine WP.heq eh_3 ?_
  have c3_0 : h_3 N7 = some (eI G 6 (fun _ => 0)) := by rw [eh_3]; exact hup_self _ _ _
  have PX_3 : MP G (N7) M7 L z_2 h_3 := P_2.loc (by omega) hbN eh_3
  change WP G mX11_digest _ _ 24 240 h_3 (N7 + 1) 20 [some (.ref (cB G + 169)), none, none, none, none, none, none, none] [.ref N7]
  have PU : MP G (N7 + 1) M7 L z_2 h_3 := PX_3.up (by omega)
  refine wp_dup dX11_digest_20 rfl ?_
  refine wp_iconst dX11_digest_21 ?_
  refine wp_aload_n dX11_digest_22 rfl ?_
  refine wp_get fkX11_96 dX11_digest_23 (PU.s0 r7) rfl ?_
  refine wp_iastore dX11_digest_26 c3_0 (by omega) (by omega) (by omega) ?_
  obtain ⟨h_4, eh_4⟩ : ∃ hh9 : AH, hh9 = hup h_3 N7 (eI G 6 (fup (fun _ => 0) 0 (S 13 0 0))) := ⟨_, rfl⟩
  refine WP.heq eh_4 ?_
  have c4_0 : h_4 N7 = some (eI G 6 (fup (fun _ => 0) 0 (S 13 0 0))) := by rw [eh_4]; exact hup_self _ _ _
  have PX_4 : MP G (N7 + 1) M7 L z_2 h_4 := PU.loc (by omega) hbN eh_4
  refine wp_dup dX11_digest_27 rfl ?_
  refine wp_iconst dX11_digest_28 ?_
  refine wp_aload_n dX11_digest_29 rfl ?_
  refine wp_get fkX11_99 dX11_digest_30 (PX_4.s0 r7) rfl ?_
  refine wp_iastore dX11_digest_33 c4_0 (by omega) (by omega) (by omega) ?_
  obtain ⟨h_5, eh_5⟩ : ∃ hh9 : AH, hh9 = hup h_4 N7 (eI G 6 (fup (fup (fun _ => 0) 0 (S 13 0 0)) 1 (S 14 0 0))) := ⟨_, rfl⟩
  refine WP.heq eh_5 ?_
  have c5_0 : h_5 N7 = some (eI G 6 (fup (fup (fun _ => 0) 0 (S 13 0 0)) 1 (S 14 0 0))) := by rw [eh_5]; exact hup_self _ _ _
  have PX_5 : MP G (N7 + 1) M7 L z_2 h_5 := PX_4.loc (by omega) hbN eh_5
  refine wp_dup dX11_digest_34 rfl ?_
  refine wp_iconst dX11_digest_35 ?_
  refine wp_aload_n dX11_digest_36 rfl ?_
  refine wp_get fkX11_133 dX11_digest_37 (PX_5.s0 r7) rfl ?_
  refine wp_iastore dX11_digest_40 c5_0 (by omega) (by omega) (by omega) ?_
  obtain ⟨h_6, eh_6⟩ : ∃ hh9 : AH, hh9 = hup h_5 N7 (eI G 6 (fup (fup (fup (fun _ => 0) 0 (S 13 0 0)) 1 (S 14 0 0)) 2 (M7 25 0 0))) := ⟨_, rfl⟩
  refine WP.heq eh_6 ?_
  have c6_0 : h_6 N7 = some (eI G 6 (fup (fup (fup (fun _ => 0) 0 (S 13 0 0)) 1 (S 14 0 0)) 2 (M7 25 0 0))) := by rw [eh_6]; exact hup_self _ _ _
  have PX_6 : MP G (N7 + 1) M7 L z_2 h_6 := PX_5.loc (by omega) hbN eh_6
  refine wp_dup dX11_digest_41 rfl ?_
  refine wp_iconst dX11_digest_42 ?_
  refine wp_aload_n dX11_digest_43 rfl ?_
  refine wp_v0p (m_tightNow (N := N7 + 1) PX_6 r7 w tp la7) cvX11_226 dX11_digest_44 ⟨Nat.le_of_ble_eq_true rfl, Nat.le_of_ble_eq_true rfl⟩ (Nat.le_of_ble_eq_true rfl) (PX_6.s0 r7) rfl rfl ?_
  refine wp_iastore dX11_digest_47 c6_0 (by omega) (by omega) (by omega) ?_
  obtain ⟨h_7, eh_7⟩ : ∃ hh9 : AH, hh9 = hup h_6 N7 (eI G 6 (fup (fup (fup (fup (fun _ => 0) 0 (S 13 0 0)) 1 (S 14 0 0)) 2 (M7 25 0 0)) 3 (tgt S (fun t => M7 21 t 0) (S 13 0 0).toNat 0))) := ⟨_, rfl⟩
  refine WP.heq eh_7 ?_
  have c7_0 : h_7 N7 = some (eI G 6 (fup (fup (fup (fup (fun _ => 0) 0 (S 13 0 0)) 1 (S 14 0 0)) 2 (M7 25 0 0)) 3 (tgt S (fun t => M7 21 t 0) (S 13 0 0).toNat 0))) := by rw [eh_7]; exact hup_self _ _ _
  have PX_7 : MP G (N7 + 1) M7 L z_2 h_7 := PX_6.loc (by omega) hbN eh_7
  refine wp_dup dX11_digest_48 rfl ?_
  refine wp_iconst dX11_digest_49 ?_
  refine wp_aload_n dX11_digest_50 rfl ?_
  refine wp_get fkX11_153 dX11_digest_51 (PX_7.s0 r7) rfl ?_
  refine wp_iastore dX11_digest_54 c7_0 (by omega) (by omega) (by omega) ?_
  obtain ⟨h_8, eh_8⟩ : ∃ hh9 : AH, hh9 = hup h_7 N7 (eI G 6 (fup (fup (fup (fup (fup (fun _ => 0) 0 (S 13 0 0)) 1 (S 14 0 0)) 2 (M7 25 0 0)) 3 (tgt S (fun t => M7 21 t 0) (S 13 0 0).toNat 0)) 4 (M7 26 0 0))) := ⟨_, rfl⟩
  refine WP.heq eh_8 ?_
  have c8_0 : h_8 N7 = some (eI G 6 (fup (fup (fup (fup (fup (fun _ => 0) 0 (S 13 0 0)) 1 (S 14 0 0)) 2 (M7 25 0 0)) 3 (tgt S (fun t => M7 21 t 0) (S 13 0 0).toNat 0)) 4 (M7 26 0 0))) := by rw [eh_8]; exact hup_self _ _ _
  have PX_8 : MP G (N7 + 1) M7 L z_2 h_8 := PX_7.loc (by omega) hbN eh_8
  refine wp_dup dX11_digest_55 rfl ?_
  refine wp_iconst dX11_digest_56 ?_
  refine wp_aload_n dX11_digest_57 rfl ?_
  refine wp_get fkX11_96 dX11_digest_58 (PX_8.s0 r7) rfl ?_
  refine wp_aload_n dX11_digest_61 rfl ?_
  refine wp_get fkX11_150 dX11_digest_62 (PX_8.s0 r7) rfl ?_
  refine wp_isub dX11_digest_65 ?_
  refine wp_iastore dX11_digest_66 c8_0 (by omega) (by omega) (by omega) ?_
  obtain ⟨h_9, eh_9⟩ : ∃ hh9 : AH, hh9 = hup h_8 N7 (eI G 6 (fup (fup (fup (fup (fup (fup (fun _ => 0) 0 (S 13 0 0)) 1 (S 14 0 0)) 2 (M7 25 0 0)) 3 (tgt S (fun t => M7 21 t 0) (S 13 0 0).toNat 0)) 4 (M7 26 0 0)) 5 ((S 13 0 0) - (M7 24 0 0)))) := ⟨_, rfl⟩
  refine WP.heq eh_9 ?_
  have c9_0 : h_9 N7 = some (eI G 6 (fup (fup (fup (fup (fup (fup (fun _ => 0) 0 (S 13 0 0)) 1 (S 14 0 0)) 2 (M7 25 0 0)) 3 (tgt S (fun t => M7 21 t 0) (S 13 0 0).toNat 0)) 4 (M7 26 0 0)) 5 ((S 13 0 0) - (M7 24 0 0)))) := by rw [eh_9]; exact hup_self _ _ _
  have PX_9 : MP G (N7 + 1) M7 L z_2 h_9 := PX_8.loc (by omega) hbN eh_9
  refine wp_astore_n dX11_digest_67 (Nat.le_of_ble_eq_true rfl) rfl ?_
  change WP G mX11_digest _ _ _ _ h_9 (N7 + 1) 68 [some (.ref (cB G + 169)), some (.ref N7), none, none, none, none, none, none] []
  refine wp_aload_n dX11_digest_68 rfl ?_
  refine wp_astore_n dX11_digest_69 (Nat.le_of_ble_eq_true rfl) rfl ?_
  change WP G mX11_digest _ _ _ _ h_9 (N7 + 1) 70 [some (.ref (cB G + 169)), some (.ref N7), some (.ref N7), none, none, none, none, none] []
  refine wp_aload_n dX11_digest_70 rfl ?_
  refine wp_alenI dX11_digest_71 c9_0 ?_
  refine wp_istore_n dX11_digest_72 (Nat.le_of_ble_eq_true rfl) rfl ?_
  change WP G mX11_digest _ _ _ _ h_9 (N7 + 1) 73 [some (.ref (cB G + 169)), some (.ref N7), some (.ref N7), some (JV 6), none, none, none, none] []
  refine wp_iconst dX11_digest_73 ?_
  refine wp_istore dX11_digest_74 (Nat.le_of_ble_eq_true rfl) rfl ?_
  change WP G mX11_digest _ _ _ _ h_9 (N7 + 1) 76 [some (.ref (cB G + 169)), some (.ref N7), some (.ref N7), some (JV 6), some (JV 0), none, none, none] []
  obtain ⟨gv, egv⟩ : ∃ gg9 : Nat → Int, gg9 = (fup (fup (fup (fup (fup (fup (fun _ => 0) 0 (S 13 0 0)) 1 (S 14 0 0)) 2 (M7 25 0 0)) 3 (tgt S (fun t => M7 21 t 0) (S 13 0 0).toNat 0)) 4 (M7 26 0 0)) 5 ((S 13 0 0) - (M7 24 0 0))) := ⟨_, rfl⟩
  have hcN : h_9 N7 = some (eI G 6 gv) := by rw [egv]; exact c9_0
  refine lm_dg6 (h0 := h_9) (g := gv) (b := N7) (by omega) _ 0 z_2 h_9 none rfl (by omega) PX_9 hcN FRM.rf (fun h8 u8 P8 f8 => ?_)
  rw [show dgf gv 6 0 z_2 = ([S 13 0 0, S 14 0 0, M7 25 0 0, tgt S (fun t => M7 21 t 0) (S 13 0 0).toNat 0, M7 26 0 0, S 13 0 0 - M7 24 0 0].foldl dgs 2633) by rw [egv, ez_2]; rfl] at P8
  have fa8 : FA G N h h8 := (((((((((fa7.up eh_2 (by omega)).up eh_3 (by omega)).up eh_4 (by omega)).up eh_5 (by omega)).up eh_6 (by omega)).up eh_7 (by omega)).up eh_8 (by omega)).up eh_9 (by omega))).tr f8.fa (Nat.le_refl _)
  change WP G mX11_digest _ _ _ _ h8 (N7 + 1) 100 [some (.ref (cB G + 169)), some (.ref N7), some (.ref N7), some (JV 6), some (JV 6), u8, none, none] []
  refine wp_iconst dX11_digest_100 ?_
  refine wp_istore_n dX11_digest_101 (Nat.le_of_ble_eq_true rfl) rfl ?_
  change WP G mX11_digest _ _ _ _ h8 (N7 + 1) 102 [some (.ref (cB G + 169)), some (.ref N7), some (JV 0), some (JV 6), some (JV 6), u8, none, none] []
  refine lm_dgT (h0 := h) (N0 := N) (N1 := N7 + 1) (s := (lvAll S (M7 20 0) (fun x => M7 21 x 0) (S 15 0 0) od)) w tp la7 r7 km7 kc ml lv lf hN0 _ _ _ 0 ([S 13 0 0, S 14 0 0, M7 25 0 0, tgt S (fun t => M7 21 t 0) (S 13 0 0).toNat 0, M7 26 0 0, S 13 0 0 - M7 24 0 0].foldl dgs 2633) h8 (N7 + 1) _ _ _ _ _ rfl (by omega) P8 fa8 (by omega) (by omega) (by omega) (fun h9 N9 y3 y4 y5 y6 y7 P9 fa9 n9 => ?_)
  change WP G mX11_digest _ _ _ _ h9 N9 261 [some (.ref (cB G + 169)), some (.ref N7), some (JV (S 13 0 0)), y3, y4, y5, y6, y7] []
  refine wp_iconst dX11_digest_261 ?_
  refine wp_istore_n dX11_digest_262 (Nat.le_of_ble_eq_true rfl) rfl ?_
  change WP G mX11_digest _ _ _ _ h9 N9 263 [some (.ref (cB G + 169)), some (.ref N7), some (JV 0), y3, y4, y5, y6, y7] []
  refine lm_dgC (h0 := h) (N0 := N) w tp la7 r7 (fun c hc d hd => by rw [ml.2.2.2.2 c hc d (by omega)]; have := ldg_r w (b := (lvAll S (M7 20 0) (fun x => M7 21 x 0) (S 15 0 0) od).1) (e := (lvAll S (M7 20 0) (fun x => M7 21 x 0) (S 15 0 0) od).2.1) (inn := (lvAll S (M7 20 0) (fun x => M7 21 x 0) (S 15 0 0) od).2.2.1) c d; omega) (by omega) (by omega) _ 0 _ h9 rfl (by omega) P9 fa9 (fun h10 P10 fa10 => ?_)
  change WP G mX11_digest _ _ _ _ h10 N9 301 [some (.ref (cB G + 169)), some (.ref N7), some (JV 4), y3, y4, y5, y6, y7] []
  refine wp_iconst dX11_digest_301 ?_
  refine wp_istore_n dX11_digest_302 (Nat.le_of_ble_eq_true rfl) rfl ?_
  change WP G mX11_digest _ _ _ _ h10 N9 303 [some (.ref (cB G + 169)), some (.ref N7), some (JV 0), y3, y4, y5, y6, y7] []
  obtain ⟨np, hnp⟩ : ∃ np : Nat, M7 24 0 0 = (np : Int) := ⟨(M7 24 0 0).toNat, by omega⟩
  refine lm_dgO (h0 := h) (N0 := N) (np := np) w r7 hnp (by omega) (by omega) _ 0 _ h10 rfl (by omega) P10 fa10 (fun h11 P11 fa11 => ?_)
  change WP G mX11_digest _ _ _ _ h11 N9 327 [some (.ref (cB G + 169)), some (.ref N7), some (JV (np : Int)), y3, y4, y5, y6, y7] []
  refine wp_aload_n dX11_digest_327 rfl ?_
  refine wp_aload_n dX11_digest_328 rfl ?_
  refine wp_v0p (m_earnedNow (N := N9) P11 r7 w km7 kc) cvX11_266 dX11_digest_329 ⟨Nat.le_of_ble_eq_true rfl, Nat.le_of_ble_eq_true rfl⟩ (Nat.le_of_ble_eq_true rfl) (P11.s0 r7) rfl rfl ?_
  refine wp_v1 0 0 (m_add (N := N9) (v := earnF S K.2.2.2.1 K.2.2.2.2.1 (S 13 0 0).toNat 0) P11) cvX11_287 dX11_digest_332 ⟨Nat.le_of_ble_eq_true rfl, Nat.le_of_ble_eq_true rfl⟩ (Nat.le_of_ble_eq_true rfl) P11.c0 rfl rfl (by omega) (by omega) (fun r9 ha_10 Na_10 hq => ?_)
  obtain ⟨rfl, hNa_10, Pa_10, fa_10⟩ := hq
  rw [hNa_10]
  change WP G mX11_digest _ _ _ _ ha_10 N9 335 [some (.ref (cB G + 169)), some (.ref N7), some (JV (np : Int)), y3, y4, y5, y6, y7] []
  refine wp_aload_n dX11_digest_335 rfl ?_
  refine wp_aload_n dX11_digest_336 rfl ?_
  refine wp_v0p (m_worthNow (N := N9) Pa_10 r7 w) cvX11_269 dX11_digest_337 ⟨Nat.le_of_ble_eq_true rfl, Nat.le_of_ble_eq_true rfl⟩ (Nat.le_of_ble_eq_true rfl) (Pa_10.s0 r7) rfl rfl ?_
  refine wp_v1 0 0 (m_add (N := N9) (v := worF S (S 13 0 0).toNat 0) Pa_10) cvX11_287 dX11_digest_340 ⟨Nat.le_of_ble_eq_true rfl, Nat.le_of_ble_eq_true rfl⟩ (Nat.le_of_ble_eq_true rfl) Pa_10.c0 rfl rfl (by omega) (by omega) (fun r9 ha_11 Na_11 hq => ?_)
  obtain ⟨rfl, hNa_11, Pa_11, fa_11⟩ := hq
  rw [hNa_11]
  change WP G mX11_digest _ _ _ _ ha_11 N9 343 [some (.ref (cB G + 169)), some (.ref N7), some (JV (np : Int)), y3, y4, y5, y6, y7] []
  refine wp_aload_n dX11_digest_343 rfl ?_
  refine wp_aload_n dX11_digest_344 rfl ?_
  refine wp_aload_n dX11_digest_345 rfl ?_
  refine wp_get fkX11_153 dX11_digest_346 (Pa_11.s0 r7) rfl ?_
  refine wp_v1p (m_plannedNow (N := N9) Pa_11 r7 w km7 kc (dl := M7 26 0 0) (dd := (M7 26 0 0).toNat) (by omega) (by omega) km7.hE) cvX11_263 dX11_digest_349 ⟨Nat.le_of_ble_eq_true rfl, Nat.le_of_ble_eq_true rfl⟩ (Nat.le_of_ble_eq_true rfl) (Pa_11.s0 r7) rfl rfl ?_
  refine wp_v1 0 0 (m_add (N := N9) (v := planF S K.2.1 K.2.2.1 K.2.2.2.1 K.2.2.2.2.1 K.2.2.2.2.2.1 K.2.2.2.2.2.2.2 (M7 26 0 0) (S 13 0 0).toNat 0) Pa_11) cvX11_287 dX11_digest_352 ⟨Nat.le_of_ble_eq_true rfl, Nat.le_of_ble_eq_true rfl⟩ (Nat.le_of_ble_eq_true rfl) Pa_11.c0 rfl rfl (by omega) (by omega) (fun r9 ha_12 Na_12 hq => ?_)
  obtain ⟨rfl, hNa_12, Pa_12, fa_12⟩ := hq
  rw [hNa_12]
  change WP G mX11_digest _ _ _ _ ha_12 N9 355 [some (.ref (cB G + 169)), some (.ref N7), some (JV (np : Int)), y3, y4, y5, y6, y7] []
  refine wp_aload_n dX11_digest_355 rfl ?_
  refine wp_get fkX11_279 dX11_digest_356 (Pa_12.s0 r7) rfl ?_
  refine wp_lret dX11_digest_359 rfl ?_
  refine ⟨M7, _, ⟨by omega, by omega, Pa_12, r7, e70, e717, la7, m7', (((fa11.tr fa_10.fa (show N ≤ N9 by omega)).tr fa_11.fa (show N ≤ N9 by omega)).tr fa_12.fa (show N ≤ N9 by omega))⟩, od, ml, ?_⟩
  unfold dgM
  rw [show (M7 24 0 0).toNat = np by omega]
  rfl

end Mdg

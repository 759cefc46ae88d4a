/-! ===== the law: are the plans right? ===== -/
section Apr
variable {G : Ctx} {h : AH} {N : Nat} {S : ST} {K : KTup} {eb ee lb le rm : Nat → Int} {ld : Int} {s : LState} {Q : PQ} {X : PX} {k9 n9 : Nat}
theorem ap_16 (pl : PL S eb ee lb le rm ld s) (db : DBE S) (sp : SPI G h S 0 K) {t : Nat} (ht : (t : Int) < S 13 0 0) {a b : Int} (ha : 0 ≤ a ∧ a ≤ 24) (hb : 0 ≤ b ∧ b ≤ 24) {x5 : Option Value} (kk41 : ∀ (h1 : AH) (b1 : Int), SPI G h1 S 0 K → b1 = b + s.2.2.1 t → WP G mL_arePlansRight Q X k9 n9 h1 N 41 [some (.ref (cB G)), some (.ref (cB G + 211)), some (JV a), some (JV b1), some (JV (t : Int)), some (JV (S 9 t 0))] []) : WP G mL_arePlansRight Q X k9 n9 h N 16 [some (.ref (cB G)), some (.ref (cB G + 211)), some (JV a), some (JV b), some (JV (t : Int)), x5] [] := by
  have w := sp.2.2.1
  have tp := sp.2.2.2.1
  have wT := w.nT
  have wL := w.nL
  have tf := pl.tf w tp db ht
  have gf := pl.gf w tp
  have tc := tf.tc
  have t1 := tf.1
  have t2 := tf.2.1
  clear tf
  generalize ehv : holdF S s.1 s.2.1 s.2.2.1 t = hv at *
  generalize elv : lthF S s.1 s.2.1 s.2.2.1 t = lv at *
  refine wp_aload_n dL_arePlansRight_16 rfl ?_
  refine wp_iload dL_arePlansRight_17 rfl ?_
  refine wp_s2 k9 n9 (L_isDone (N := N) pl sp db ht) csL_118 dL_arePlansRight_19 ⟨Nat.le_of_ble_eq_true rfl, Nat.le_of_ble_eq_true rfl⟩ (Nat.le_of_ble_eq_true rfl) (by omega) (by omega) (fun r_19 h_19 N_19 hq_19 => ?_)
  obtain ⟨rfl, hN_19, sp_19⟩ := hq_19
  rw [hN_19]
  change WP G mL_arePlansRight _ _ _ _ h_19 N 22 [some (.ref (cB G)), some (.ref (cB G + 211)), some (JV a), some (JV b), some (JV (t : Int)), x5] [JV (S 9 t 0)]
  refine wp_istore dL_arePlansRight_22 (Nat.le_of_ble_eq_true rfl) rfl ?_
  change WP G mL_arePlansRight _ _ _ _ h_19 N 24 [some (.ref (cB G)), some (.ref (cB G + 211)), some (JV a), some (JV b), some (JV (t : Int)), some (JV (S 9 t 0))] []
  refine wp_iload_n dL_arePlansRight_24 rfl ?_
  refine wp_aload_n dL_arePlansRight_25 rfl ?_
  refine wp_iload dL_arePlansRight_26 rfl ?_
  refine wp_v1 k9 n9 (g_begin (N := N) pl sp_19 ht) cvL_115 dL_arePlansRight_28 ⟨Nat.le_of_ble_eq_true rfl, Nat.le_of_ble_eq_true rfl⟩ (Nat.le_of_ble_eq_true rfl) sp_19.1 rfl rfl (by omega) (by omega) (fun r_28 h_28 N_28 hq_28 => ?_)
  obtain ⟨rfl, hN_28, sp_28⟩ := hq_28
  rw [hN_28]
  change WP G mL_arePlansRight _ _ _ _ h_28 N 31 [some (.ref (cB G)), some (.ref (cB G + 211)), some (JV a), some (JV b), some (JV (t : Int)), some (JV (S 9 t 0))] [JV (s.1 t), JV b]
  refine wp_if_lt 38 dL_arePlansRight_31 (by decide) ⟨by omega, by omega⟩ (fun c_31 => ?_) (fun c_31 => ?_)
  · refine wp_iconst dL_arePlansRight_38 ?_
    refine wp_iadd dL_arePlansRight_39 ?_
    refine wp_istore_n dL_arePlansRight_40 (Nat.le_of_ble_eq_true rfl) rfl ?_
    change WP G mL_arePlansRight _ _ _ _ h_28 N 41 [some (.ref (cB G)), some (.ref (cB G + 211)), some (JV a), some (JV (b + 0)), some (JV (t : Int)), some (JV (S 9 t 0))] []
    exact kk41 _ (b + 0) sp_28 (by omega)
  · refine wp_iconst dL_arePlansRight_34 ?_
    refine wp_goto 39 dL_arePlansRight_35 (by decide) ?_
    refine wp_iadd dL_arePlansRight_39 ?_
    refine wp_istore_n dL_arePlansRight_40 (Nat.le_of_ble_eq_true rfl) rfl ?_
    change WP G mL_arePlansRight _ _ _ _ h_28 N 41 [some (.ref (cB G)), some (.ref (cB G + 211)), some (JV a), some (JV (b + 1)), some (JV (t : Int)), some (JV (S 9 t 0))] []
    exact kk41 _ (b + 1) sp_28 (by omega)

theorem ap_41 (pl : PL S eb ee lb le rm ld s) (db : DBE S) (sp : SPI G h S 0 K) {t : Nat} (ht : (t : Int) < S 13 0 0) {a b : Int} (ha : 0 ≤ a ∧ a ≤ 24) (hb : 0 ≤ b ∧ b ≤ 24) (kk108 : ∀ h1 : AH, SPI G h1 S 0 K → WP G mL_arePlansRight Q X k9 n9 h1 N 108 [some (.ref (cB G)), some (.ref (cB G + 211)), some (JV a), some (JV b), some (JV (t : Int)), some (JV (S 9 t 0))] []) : WP G mL_arePlansRight Q X k9 n9 h N 41 [some (.ref (cB G)), some (.ref (cB G + 211)), some (JV a), some (JV b), some (JV (t : Int)), some (JV (S 9 t 0))] [] := by
  have w := sp.2.2.1
  have tp := sp.2.2.2.1
  have wT := w.nT
  have wL := w.nL
  have tf := pl.tf w tp db ht
  have gf := pl.gf w tp
  have tc := tf.tc
  have t1 := tf.1
  have t2 := tf.2.1
  clear tf
  generalize ehv : holdF S s.1 s.2.1 s.2.2.1 t = hv at *
  generalize elv : lthF S s.1 s.2.1 s.2.2.1 t = lv at *
  refine wp_aload_n dL_arePlansRight_41 rfl ?_
  refine wp_iload dL_arePlansRight_42 rfl ?_
  refine wp_v1 k9 n9 (g_earlyEnd (N := N) pl sp ht) cvL_122 dL_arePlansRight_44 ⟨Nat.le_of_ble_eq_true rfl, Nat.le_of_ble_eq_true rfl⟩ (Nat.le_of_ble_eq_true rfl) sp.1 rfl rfl (by omega) (by omega) (fun r_44 h_44 N_44 hq_44 => ?_)
  obtain ⟨rfl, hN_44, sp_44⟩ := hq_44
  rw [hN_44]
  change WP G mL_arePlansRight _ _ _ _ h_44 N 47 [some (.ref (cB G)), some (.ref (cB G + 211)), some (JV a), some (JV b), some (JV (t : Int)), some (JV (S 9 t 0))] [JV (ee t)]
  refine wp_aload_n dL_arePlansRight_47 rfl ?_
  refine wp_iload dL_arePlansRight_48 rfl ?_
  refine wp_v1 k9 n9 (g_earlyBegin (N := N) pl sp_44 ht) cvL_125 dL_arePlansRight_50 ⟨Nat.le_of_ble_eq_true rfl, Nat.le_of_ble_eq_true rfl⟩ (Nat.le_of_ble_eq_true rfl) sp_44.1 rfl rfl (by omega) (by omega) (fun r_50 h_50 N_50 hq_50 => ?_)
  obtain ⟨rfl, hN_50, sp_50⟩ := hq_50
  rw [hN_50]
  change WP G mL_arePlansRight _ _ _ _ h_50 N 53 [some (.ref (cB G)), some (.ref (cB G + 211)), some (JV a), some (JV b), some (JV (t : Int)), some (JV (S 9 t 0))] [JV (eb t), JV (ee t)]
  refine wp_icmp_lt 106 dL_arePlansRight_53 (by decide) ⟨by omega, by omega⟩ ⟨by omega, by omega⟩ (fun c_53 => ?_) (fun c_53 => ?_)
  · exfalso
    omega
  · refine wp_aload_n dL_arePlansRight_56 rfl ?_
    refine wp_iload dL_arePlansRight_57 rfl ?_
    refine wp_v1 k9 n9 (g_earlyBegin (N := N) pl sp_50 ht) cvL_125 dL_arePlansRight_59 ⟨Nat.le_of_ble_eq_true rfl, Nat.le_of_ble_eq_true rfl⟩ (Nat.le_of_ble_eq_true rfl) sp_50.1 rfl rfl (by omega) (by omega) (fun r_59 h_59 N_59 hq_59 => ?_)
    obtain ⟨rfl, hN_59, sp_59⟩ := hq_59
    rw [hN_59]
    change WP G mL_arePlansRight _ _ _ _ h_59 N 62 [some (.ref (cB G)), some (.ref (cB G + 211)), some (JV a), some (JV b), some (JV (t : Int)), some (JV (S 9 t 0))] [JV (eb t)]
    refine wp_aload_n dL_arePlansRight_62 rfl ?_
    refine wp_iload dL_arePlansRight_63 rfl ?_
    refine wp_v1 k9 n9 (g_lateBegin (N := N) pl sp_59 ht) cvL_128 dL_arePlansRight_65 ⟨Nat.le_of_ble_eq_true rfl, Nat.le_of_ble_eq_true rfl⟩ (Nat.le_of_ble_eq_true rfl) sp_59.1 rfl rfl (by omega) (by omega) (fun r_65 h_65 N_65 hq_65 => ?_)
    obtain ⟨rfl, hN_65, sp_65⟩ := hq_65
    rw [hN_65]
    change WP G mL_arePlansRight _ _ _ _ h_65 N 68 [some (.ref (cB G)), some (.ref (cB G + 211)), some (JV a), some (JV b), some (JV (t : Int)), some (JV (S 9 t 0))] [JV (lb t), JV (eb t)]
    refine wp_icmp_gt 106 dL_arePlansRight_68 (by decide) ⟨by omega, by omega⟩ ⟨by omega, by omega⟩ (fun c_68 => ?_) (fun c_68 => ?_)
    · exfalso
      omega
    · refine wp_aload_n dL_arePlansRight_71 rfl ?_
      refine wp_iload dL_arePlansRight_72 rfl ?_
      refine wp_v1 k9 n9 (g_earlyEnd (N := N) pl sp_65 ht) cvL_122 dL_arePlansRight_74 ⟨Nat.le_of_ble_eq_true rfl, Nat.le_of_ble_eq_true rfl⟩ (Nat.le_of_ble_eq_true rfl) sp_65.1 rfl rfl (by omega) (by omega) (fun r_74 h_74 N_74 hq_74 => ?_)
      obtain ⟨rfl, hN_74, sp_74⟩ := hq_74
      rw [hN_74]
      change WP G mL_arePlansRight _ _ _ _ h_74 N 77 [some (.ref (cB G)), some (.ref (cB G + 211)), some (JV a), some (JV b), some (JV (t : Int)), some (JV (S 9 t 0))] [JV (ee t)]
      refine wp_aload_n dL_arePlansRight_77 rfl ?_
      refine wp_v0 k9 n9 (g_last (N := N) pl sp_74) cvL_131 dL_arePlansRight_78 ⟨Nat.le_of_ble_eq_true rfl, Nat.le_of_ble_eq_true rfl⟩ (Nat.le_of_ble_eq_true rfl) sp_74.1 rfl rfl (by omega) (by omega) (fun r_78 h_78 N_78 hq_78 => ?_)
      obtain ⟨rfl, hN_78, sp_78⟩ := hq_78
      rw [hN_78]
      change WP G mL_arePlansRight _ _ _ _ h_78 N 81 [some (.ref (cB G)), some (.ref (cB G + 211)), some (JV a), some (JV b), some (JV (t : Int)), some (JV (S 9 t 0))] [JV ld, JV (ee t)]
      refine wp_icmp_gt 106 dL_arePlansRight_81 (by decide) ⟨by omega, by omega⟩ ⟨by omega, by omega⟩ (fun c_81 => ?_) (fun c_81 => ?_)
      · exfalso
        omega
      · refine wp_aload_n dL_arePlansRight_84 rfl ?_
        refine wp_iload dL_arePlansRight_85 rfl ?_
        refine wp_v1 k9 n9 (g_room (N := N) pl sp_78 ht) cvL_134 dL_arePlansRight_87 ⟨Nat.le_of_ble_eq_true rfl, Nat.le_of_ble_eq_true rfl⟩ (Nat.le_of_ble_eq_true rfl) sp_78.1 rfl rfl (by omega) (by omega) (fun r_87 h_87 N_87 hq_87 => ?_)
        obtain ⟨rfl, hN_87, sp_87⟩ := hq_87
        rw [hN_87]
        change WP G mL_arePlansRight _ _ _ _ h_87 N 90 [some (.ref (cB G)), some (.ref (cB G + 211)), some (JV a), some (JV b), some (JV (t : Int)), some (JV (S 9 t 0))] [JV (rm t)]
        refine wp_if_lt 106 dL_arePlansRight_90 (by decide) ⟨by omega, by omega⟩ (fun c_90 => ?_) (fun c_90 => ?_)
        · exfalso
          omega
        · refine wp_aload_n dL_arePlansRight_93 rfl ?_
          refine wp_iload dL_arePlansRight_94 rfl ?_
          refine wp_v1 k9 n9 (g_end (N := N) pl sp_87 ht) cvL_137 dL_arePlansRight_96 ⟨Nat.le_of_ble_eq_true rfl, Nat.le_of_ble_eq_true rfl⟩ (Nat.le_of_ble_eq_true rfl) sp_87.1 rfl rfl (by omega) (by omega) (fun r_96 h_96 N_96 hq_96 => ?_)
          obtain ⟨rfl, hN_96, sp_96⟩ := hq_96
          rw [hN_96]
          change WP G mL_arePlansRight _ _ _ _ h_96 N 99 [some (.ref (cB G)), some (.ref (cB G + 211)), some (JV a), some (JV b), some (JV (t : Int)), some (JV (S 9 t 0))] [JV (s.2.1 t)]
          refine wp_aload_n dL_arePlansRight_99 rfl ?_
          refine wp_v0 k9 n9 (g_levelledLast (N := N) pl sp_96) cvL_140 dL_arePlansRight_100 ⟨Nat.le_of_ble_eq_true rfl, Nat.le_of_ble_eq_true rfl⟩ (Nat.le_of_ble_eq_true rfl) sp_96.1 rfl rfl (by omega) (by omega) (fun r_100 h_100 N_100 hq_100 => ?_)
          obtain ⟨rfl, hN_100, sp_100⟩ := hq_100
          rw [hN_100]
          change WP G mL_arePlansRight _ _ _ _ h_100 N 103 [some (.ref (cB G)), some (.ref (cB G + 211)), some (JV a), some (JV b), some (JV (t : Int)), some (JV (S 9 t 0))] [JV s.2.2.2.2.2, JV (s.2.1 t)]
          refine wp_icmp_le 108 dL_arePlansRight_103 (by decide) ⟨by omega, by omega⟩ ⟨by omega, by omega⟩ (fun c_103 => ?_) (fun c_103 => ?_)
          · exact kk108 _ sp_100
          · exfalso
            omega

theorem ap_108 (pl : PL S eb ee lb le rm ld s) (db : DBE S) (sp : SPI G h S 0 K) {t : Nat} (ht : (t : Int) < S 13 0 0) {a b : Int} (ha : 0 ≤ a ∧ a ≤ 24) (hb : 0 ≤ b ∧ b ≤ 24) {f : Nat → Int} (hf : K.1 (cB G + 211) = some (eI G 24 f)) (hft : ∀ t, t < 24 → f t = S 8 t 0) (kk128 : ∀ h1 : AH, SPI G h1 S 0 K → WP G mL_arePlansRight Q X k9 n9 h1 N 128 [some (.ref (cB G)), some (.ref (cB G + 211)), some (JV a), some (JV b), some (JV (t : Int)), some (JV (S 9 t 0))] []) : WP G mL_arePlansRight Q X k9 n9 h N 108 [some (.ref (cB G)), some (.ref (cB G + 211)), some (JV a), some (JV b), some (JV (t : Int)), some (JV (S 9 t 0))] [] := by
  have w := sp.2.2.1
  have tp := sp.2.2.2.1
  have wT := w.nT
  have wL := w.nL
  have tf := pl.tf w tp db ht
  have gf := pl.gf w tp
  have tc := tf.tc
  have t1 := tf.1
  have t2 := tf.2.1
  clear tf
  generalize ehv : holdF S s.1 s.2.1 s.2.2.1 t = hv at *
  generalize elv : lthF S s.1 s.2.1 s.2.2.1 t = lv at *
  have hft9 := hft t (by omega)
  have wt := w.task (t := t) (by omega)
  refine wp_iload dL_arePlansRight_108 rfl ?_
  refine wp_if_ne 128 dL_arePlansRight_110 (by decide) ⟨by omega, by omega⟩ (fun c_110 => ?_) (fun c_110 => ?_)
  · exact kk128 _ sp
  · refine wp_aload_n dL_arePlansRight_113 rfl ?_
    refine wp_iload dL_arePlansRight_114 rfl ?_
    refine wp_v1 k9 n9 (g_earlyBegin (N := N) pl sp ht) cvL_125 dL_arePlansRight_116 ⟨Nat.le_of_ble_eq_true rfl, Nat.le_of_ble_eq_true rfl⟩ (Nat.le_of_ble_eq_true rfl) sp.1 rfl rfl (by omega) (by omega) (fun r_116 h_116 N_116 hq_116 => ?_)
    obtain ⟨rfl, hN_116, sp_116⟩ := hq_116
    rw [hN_116]
    change WP G mL_arePlansRight _ _ _ _ h_116 N 119 [some (.ref (cB G)), some (.ref (cB G + 211)), some (JV a), some (JV b), some (JV (t : Int)), some (JV (S 9 t 0))] [JV (eb t)]
    refine wp_aload_n dL_arePlansRight_119 rfl ?_
    refine wp_iload dL_arePlansRight_120 rfl ?_
    refine wp_iaload dL_arePlansRight_122 ((sp_116.gh _ (by omega)).trans hf) (by omega) (by omega) (by omega) ?_
    change WP G mL_arePlansRight _ _ _ _ h_116 N 123 [some (.ref (cB G)), some (.ref (cB G + 211)), some (JV a), some (JV b), some (JV (t : Int)), some (JV (S 9 t 0))] [JV (f t), JV (eb t)]
    refine wp_icmp_ge 128 dL_arePlansRight_123 (by decide) ⟨by omega, by omega⟩ ⟨by omega, by omega⟩ (fun c_123 => ?_) (fun c_123 => ?_)
    · exact kk128 _ sp_116
    · exfalso
      omega

theorem ap_128 (pl : PL S eb ee lb le rm ld s) (db : DBE S) (sp : SPI G h S 0 K) {t : Nat} (ht : (t : Int) < S 13 0 0) {a b : Int} (ha : 0 ≤ a ∧ a ≤ 24) (hb : 0 ≤ b ∧ b ≤ 24) (kk201 : ∀ h1 : AH, SPI G h1 S 0 K → WP G mL_arePlansRight Q X k9 n9 h1 N 201 [some (.ref (cB G)), some (.ref (cB G + 211)), some (JV a), some (JV b), some (JV (t : Int)), some (JV (S 9 t 0))] []) : WP G mL_arePlansRight Q X k9 n9 h N 128 [some (.ref (cB G)), some (.ref (cB G + 211)), some (JV a), some (JV b), some (JV (t : Int)), some (JV (S 9 t 0))] [] := by
  have w := sp.2.2.1
  have tp := sp.2.2.2.1
  have wT := w.nT
  have wL := w.nL
  have tf := pl.tf w tp db ht
  have gf := pl.gf w tp
  have tc := tf.tc
  have t1 := tf.1
  have t2 := tf.2.1
  clear tf
  generalize ehv : holdF S s.1 s.2.1 s.2.2.1 t = hv at *
  generalize elv : lthF S s.1 s.2.1 s.2.2.1 t = lv at *
  refine wp_iload dL_arePlansRight_128 rfl ?_
  refine wp_if_eq 175 dL_arePlansRight_130 (by decide) ⟨by omega, by omega⟩ (fun c_130 => ?_) (fun c_130 => ?_)
  · refine wp_aload_n dL_arePlansRight_175 rfl ?_
    refine wp_iload dL_arePlansRight_176 rfl ?_
    refine wp_v1 k9 n9 (g_begin (N := N) pl sp ht) cvL_115 dL_arePlansRight_178 ⟨Nat.le_of_ble_eq_true rfl, Nat.le_of_ble_eq_true rfl⟩ (Nat.le_of_ble_eq_true rfl) sp.1 rfl rfl (by omega) (by omega) (fun r_178 h_178 N_178 hq_178 => ?_)
    obtain ⟨rfl, hN_178, sp_178⟩ := hq_178
    rw [hN_178]
    change WP G mL_arePlansRight _ _ _ _ h_178 N 181 [some (.ref (cB G)), some (.ref (cB G + 211)), some (JV a), some (JV b), some (JV (t : Int)), some (JV (S 9 t 0))] [JV (s.1 t)]
    refine wp_if_lt 201 dL_arePlansRight_181 (by decide) ⟨by omega, by omega⟩ (fun c_181 => ?_) (fun c_181 => ?_)
    · exact kk201 _ sp_178
    · refine wp_aload_n dL_arePlansRight_184 rfl ?_
      refine wp_iload dL_arePlansRight_185 rfl ?_
      refine wp_v1 k9 n9 (g_begin (N := N) pl sp_178 ht) cvL_115 dL_arePlansRight_187 ⟨Nat.le_of_ble_eq_true rfl, Nat.le_of_ble_eq_true rfl⟩ (Nat.le_of_ble_eq_true rfl) sp_178.1 rfl rfl (by omega) (by omega) (fun r_187 h_187 N_187 hq_187 => ?_)
      obtain ⟨rfl, hN_187, sp_187⟩ := hq_187
      rw [hN_187]
      change WP G mL_arePlansRight _ _ _ _ h_187 N 190 [some (.ref (cB G)), some (.ref (cB G + 211)), some (JV a), some (JV b), some (JV (t : Int)), some (JV (S 9 t 0))] [JV (s.1 t)]
      refine wp_aload_n dL_arePlansRight_190 rfl ?_
      refine wp_iload dL_arePlansRight_191 rfl ?_
      refine wp_v1 k9 n9 (g_earlyBegin (N := N) pl sp_187 ht) cvL_125 dL_arePlansRight_193 ⟨Nat.le_of_ble_eq_true rfl, Nat.le_of_ble_eq_true rfl⟩ (Nat.le_of_ble_eq_true rfl) sp_187.1 rfl rfl (by omega) (by omega) (fun r_193 h_193 N_193 hq_193 => ?_)
      obtain ⟨rfl, hN_193, sp_193⟩ := hq_193
      rw [hN_193]
      change WP G mL_arePlansRight _ _ _ _ h_193 N 196 [some (.ref (cB G)), some (.ref (cB G + 211)), some (JV a), some (JV b), some (JV (t : Int)), some (JV (S 9 t 0))] [JV (eb t), JV (s.1 t)]
      refine wp_icmp_ge 201 dL_arePlansRight_196 (by decide) ⟨by omega, by omega⟩ ⟨by omega, by omega⟩ (fun c_196 => ?_) (fun c_196 => ?_)
      · exact kk201 _ sp_193
      · exfalso
        omega
  · refine wp_aload_n dL_arePlansRight_133 rfl ?_
    refine wp_iload dL_arePlansRight_134 rfl ?_
    refine wp_v1 k9 n9 (g_begin (N := N) pl sp ht) cvL_115 dL_arePlansRight_136 ⟨Nat.le_of_ble_eq_true rfl, Nat.le_of_ble_eq_true rfl⟩ (Nat.le_of_ble_eq_true rfl) sp.1 rfl rfl (by omega) (by omega) (fun r_136 h_136 N_136 hq_136 => ?_)
    obtain ⟨rfl, hN_136, sp_136⟩ := hq_136
    rw [hN_136]
    change WP G mL_arePlansRight _ _ _ _ h_136 N 139 [some (.ref (cB G)), some (.ref (cB G + 211)), some (JV a), some (JV b), some (JV (t : Int)), some (JV (S 9 t 0))] [JV (s.1 t)]
    refine wp_aload_n dL_arePlansRight_139 rfl ?_
    refine wp_iload dL_arePlansRight_140 rfl ?_
    refine wp_v1 k9 n9 (g_earlyBegin (N := N) pl sp_136 ht) cvL_125 dL_arePlansRight_142 ⟨Nat.le_of_ble_eq_true rfl, Nat.le_of_ble_eq_true rfl⟩ (Nat.le_of_ble_eq_true rfl) sp_136.1 rfl rfl (by omega) (by omega) (fun r_142 h_142 N_142 hq_142 => ?_)
    obtain ⟨rfl, hN_142, sp_142⟩ := hq_142
    rw [hN_142]
    change WP G mL_arePlansRight _ _ _ _ h_142 N 145 [some (.ref (cB G)), some (.ref (cB G + 211)), some (JV a), some (JV b), some (JV (t : Int)), some (JV (S 9 t 0))] [JV (eb t), JV (s.1 t)]
    refine wp_icmp_ne 199 dL_arePlansRight_145 (by decide) ⟨by omega, by omega⟩ ⟨by omega, by omega⟩ (fun c_145 => ?_) (fun c_145 => ?_)
    · exfalso
      omega
    · refine wp_aload_n dL_arePlansRight_148 rfl ?_
      refine wp_iload dL_arePlansRight_149 rfl ?_
      refine wp_v1 k9 n9 (g_lateEnd (N := N) pl sp_142 ht) cvL_143 dL_arePlansRight_151 ⟨Nat.le_of_ble_eq_true rfl, Nat.le_of_ble_eq_true rfl⟩ (Nat.le_of_ble_eq_true rfl) sp_142.1 rfl rfl (by omega) (by omega) (fun r_151 h_151 N_151 hq_151 => ?_)
      obtain ⟨rfl, hN_151, sp_151⟩ := hq_151
      rw [hN_151]
      change WP G mL_arePlansRight _ _ _ _ h_151 N 154 [some (.ref (cB G)), some (.ref (cB G + 211)), some (JV a), some (JV b), some (JV (t : Int)), some (JV (S 9 t 0))] [JV (le t)]
      refine wp_aload_n dL_arePlansRight_154 rfl ?_
      refine wp_iload dL_arePlansRight_155 rfl ?_
      refine wp_v1 k9 n9 (g_end (N := N) pl sp_151 ht) cvL_137 dL_arePlansRight_157 ⟨Nat.le_of_ble_eq_true rfl, Nat.le_of_ble_eq_true rfl⟩ (Nat.le_of_ble_eq_true rfl) sp_151.1 rfl rfl (by omega) (by omega) (fun r_157 h_157 N_157 hq_157 => ?_)
      obtain ⟨rfl, hN_157, sp_157⟩ := hq_157
      rw [hN_157]
      change WP G mL_arePlansRight _ _ _ _ h_157 N 160 [some (.ref (cB G)), some (.ref (cB G + 211)), some (JV a), some (JV b), some (JV (t : Int)), some (JV (S 9 t 0))] [JV (s.2.1 t), JV (le t)]
      refine wp_icmp_ne 199 dL_arePlansRight_160 (by decide) ⟨by omega, by omega⟩ ⟨by omega, by omega⟩ (fun c_160 => ?_) (fun c_160 => ?_)
      · exfalso
        omega
      · refine wp_aload_n dL_arePlansRight_163 rfl ?_
        refine wp_iload dL_arePlansRight_164 rfl ?_
        refine wp_v1 k9 n9 (g_room (N := N) pl sp_157 ht) cvL_134 dL_arePlansRight_166 ⟨Nat.le_of_ble_eq_true rfl, Nat.le_of_ble_eq_true rfl⟩ (Nat.le_of_ble_eq_true rfl) sp_157.1 rfl rfl (by omega) (by omega) (fun r_166 h_166 N_166 hq_166 => ?_)
        obtain ⟨rfl, hN_166, sp_166⟩ := hq_166
        rw [hN_166]
        change WP G mL_arePlansRight _ _ _ _ h_166 N 169 [some (.ref (cB G)), some (.ref (cB G + 211)), some (JV a), some (JV b), some (JV (t : Int)), some (JV (S 9 t 0))] [JV (rm t)]
        refine wp_if_eq 201 dL_arePlansRight_169 (by decide) ⟨by omega, by omega⟩ (fun c_169 => ?_) (fun c_169 => ?_)
        · exact kk201 _ sp_166
        · exfalso
          omega

theorem ap_201 (pl : PL S eb ee lb le rm ld s) (db : DBE S) (sp : SPI G h S 0 K) {t : Nat} (ht : (t : Int) < S 13 0 0) {a b : Int} (ha : 0 ≤ a ∧ a ≤ 24) (hb : 0 ≤ b ∧ b ≤ 24) (kk232 : ∀ h1 : AH, SPI G h1 S 0 K → WP G mL_arePlansRight Q X k9 n9 h1 N 232 [some (.ref (cB G)), some (.ref (cB G + 211)), some (JV a), some (JV b), some (JV (t : Int)), some (JV (S 9 t 0))] []) : WP G mL_arePlansRight Q X k9 n9 h N 201 [some (.ref (cB G)), some (.ref (cB G + 211)), some (JV a), some (JV b), some (JV (t : Int)), some (JV (S 9 t 0))] [] := by
  have w := sp.2.2.1
  have tp := sp.2.2.2.1
  have wT := w.nT
  have wL := w.nL
  have tf := pl.tf w tp db ht
  have gf := pl.gf w tp
  have tc := tf.tc
  have t1 := tf.1
  have t2 := tf.2.1
  clear tf
  generalize ehv : holdF S s.1 s.2.1 s.2.2.1 t = hv at *
  generalize elv : lthF S s.1 s.2.1 s.2.2.1 t = lv at *
  refine wp_aload_n dL_arePlansRight_201 rfl ?_
  refine wp_iload dL_arePlansRight_202 rfl ?_
  refine wp_v1 k9 n9 (g_begin (N := N) pl sp ht) cvL_115 dL_arePlansRight_204 ⟨Nat.le_of_ble_eq_true rfl, Nat.le_of_ble_eq_true rfl⟩ (Nat.le_of_ble_eq_true rfl) sp.1 rfl rfl (by omega) (by omega) (fun r_204 h_204 N_204 hq_204 => ?_)
  obtain ⟨rfl, hN_204, sp_204⟩ := hq_204
  rw [hN_204]
  change WP G mL_arePlansRight _ _ _ _ h_204 N 207 [some (.ref (cB G)), some (.ref (cB G + 211)), some (JV a), some (JV b), some (JV (t : Int)), some (JV (S 9 t 0))] [JV (s.1 t)]
  refine wp_if_ge 214 dL_arePlansRight_207 (by decide) ⟨by omega, by omega⟩ (fun c_207 => ?_) (fun c_207 => ?_)
  · refine wp_iconst dL_arePlansRight_214 ?_
    refine wp_aload_n dL_arePlansRight_215 rfl ?_
    refine wp_iload dL_arePlansRight_216 rfl ?_
    refine wp_v1 k9 n9 (g_end (N := N) pl sp_204 ht) cvL_137 dL_arePlansRight_218 ⟨Nat.le_of_ble_eq_true rfl, Nat.le_of_ble_eq_true rfl⟩ (Nat.le_of_ble_eq_true rfl) sp_204.1 rfl rfl (by omega) (by omega) (fun r_218 h_218 N_218 hq_218 => ?_)
    obtain ⟨rfl, hN_218, sp_218⟩ := hq_218
    rw [hN_218]
    change WP G mL_arePlansRight _ _ _ _ h_218 N 221 [some (.ref (cB G)), some (.ref (cB G + 211)), some (JV a), some (JV b), some (JV (t : Int)), some (JV (S 9 t 0))] [JV (s.2.1 t), JV 0]
    refine wp_if_ge 228 dL_arePlansRight_221 (by decide) ⟨by omega, by omega⟩ (fun c_221 => ?_) (fun c_221 => ?_)
    · refine wp_iconst dL_arePlansRight_228 ?_
      refine wp_icmp_ne 277 dL_arePlansRight_229 (by decide) ⟨by omega, by omega⟩ ⟨by omega, by omega⟩ (fun c_229 => ?_) (fun c_229 => ?_)
      · exfalso
        omega
      · exact kk232 _ sp_218
    · refine wp_iconst dL_arePlansRight_224 ?_
      refine wp_goto 229 dL_arePlansRight_225 (by decide) ?_
      refine wp_icmp_ne 277 dL_arePlansRight_229 (by decide) ⟨by omega, by omega⟩ ⟨by omega, by omega⟩ (fun c_229 => ?_) (fun c_229 => ?_)
      · exfalso
        omega
      · exact kk232 _ sp_218
  · refine wp_iconst dL_arePlansRight_210 ?_
    refine wp_goto 215 dL_arePlansRight_211 (by decide) ?_
    refine wp_aload_n dL_arePlansRight_215 rfl ?_
    refine wp_iload dL_arePlansRight_216 rfl ?_
    refine wp_v1 k9 n9 (g_end (N := N) pl sp_204 ht) cvL_137 dL_arePlansRight_218 ⟨Nat.le_of_ble_eq_true rfl, Nat.le_of_ble_eq_true rfl⟩ (Nat.le_of_ble_eq_true rfl) sp_204.1 rfl rfl (by omega) (by omega) (fun r_218 h_218 N_218 hq_218 => ?_)
    obtain ⟨rfl, hN_218, sp_218⟩ := hq_218
    rw [hN_218]
    change WP G mL_arePlansRight _ _ _ _ h_218 N 221 [some (.ref (cB G)), some (.ref (cB G + 211)), some (JV a), some (JV b), some (JV (t : Int)), some (JV (S 9 t 0))] [JV (s.2.1 t), JV 1]
    refine wp_if_ge 228 dL_arePlansRight_221 (by decide) ⟨by omega, by omega⟩ (fun c_221 => ?_) (fun c_221 => ?_)
    · refine wp_iconst dL_arePlansRight_228 ?_
      refine wp_icmp_ne 277 dL_arePlansRight_229 (by decide) ⟨by omega, by omega⟩ ⟨by omega, by omega⟩ (fun c_229 => ?_) (fun c_229 => ?_)
      · exfalso
        omega
      · exact kk232 _ sp_218
    · refine wp_iconst dL_arePlansRight_224 ?_
      refine wp_goto 229 dL_arePlansRight_225 (by decide) ?_
      refine wp_icmp_ne 277 dL_arePlansRight_229 (by decide) ⟨by omega, by omega⟩ ⟨by omega, by omega⟩ (fun c_229 => ?_) (fun c_229 => ?_)
      · exfalso
        omega
      · exact kk232 _ sp_218

theorem ap_232 (pl : PL S eb ee lb le rm ld s) (db : DBE S) (sp : SPI G h S 0 K) {t : Nat} (ht : (t : Int) < S 13 0 0) {a b : Int} (ha : 0 ≤ a ∧ a ≤ 24) (hb : 0 ≤ b ∧ b ≤ 24) (kk264 : ∀ h1 : AH, SPI G h1 S 0 K → WP G mL_arePlansRight Q X k9 n9 h1 N 264 [some (.ref (cB G)), some (.ref (cB G + 211)), some (JV a), some (JV b), some (JV (t : Int)), some (JV (S 9 t 0))] []) : WP G mL_arePlansRight Q X k9 n9 h N 232 [some (.ref (cB G)), some (.ref (cB G + 211)), some (JV a), some (JV b), some (JV (t : Int)), some (JV (S 9 t 0))] [] := by
  have w := sp.2.2.1
  have tp := sp.2.2.2.1
  have wT := w.nT
  have wL := w.nL
  have tf := pl.tf w tp db ht
  have gf := pl.gf w tp
  have tc := tf.tc
  have t1 := tf.1
  have t2 := tf.2.1
  clear tf
  generalize ehv : holdF S s.1 s.2.1 s.2.2.1 t = hv at *
  generalize elv : lthF S s.1 s.2.1 s.2.2.1 t = lv at *
  refine wp_aload_n dL_arePlansRight_232 rfl ?_
  refine wp_iload dL_arePlansRight_233 rfl ?_
  refine wp_v1 k9 n9 (g_heldBy (N := N) pl sp ht) cvL_146 dL_arePlansRight_235 ⟨Nat.le_of_ble_eq_true rfl, Nat.le_of_ble_eq_true rfl⟩ (Nat.le_of_ble_eq_true rfl) sp.1 rfl rfl (by omega) (by omega) (fun r_235 h_235 N_235 hq_235 => ?_)
  obtain ⟨rfl, hN_235, sp_235⟩ := hq_235
  rw [hN_235, elv]
  change WP G mL_arePlansRight _ _ _ _ h_235 N 238 [some (.ref (cB G)), some (.ref (cB G + 211)), some (JV a), some (JV b), some (JV (t : Int)), some (JV (S 9 t 0))] [JV lv]
  refine wp_if_lt 245 dL_arePlansRight_238 (by decide) ⟨by omega, by omega⟩ (fun c_238 => ?_) (fun c_238 => ?_)
  · refine wp_iconst dL_arePlansRight_245 ?_
    refine wp_aload_n dL_arePlansRight_246 rfl ?_
    refine wp_iload dL_arePlansRight_247 rfl ?_
    refine wp_v1 k9 n9 (g_holds (N := N) pl sp_235 ht) cvL_70 dL_arePlansRight_249 ⟨Nat.le_of_ble_eq_true rfl, Nat.le_of_ble_eq_true rfl⟩ (Nat.le_of_ble_eq_true rfl) sp_235.1 rfl rfl (by omega) (by omega) (fun r_249 h_249 N_249 hq_249 => ?_)
    obtain ⟨rfl, hN_249, sp_249⟩ := hq_249
    rw [hN_249, ehv]
    change WP G mL_arePlansRight _ _ _ _ h_249 N 252 [some (.ref (cB G)), some (.ref (cB G + 211)), some (JV a), some (JV b), some (JV (t : Int)), some (JV (S 9 t 0))] [JV hv, JV 0]
    refine wp_iconst dL_arePlansRight_252 ?_
    refine wp_icmp_ne 260 dL_arePlansRight_253 (by decide) ⟨by omega, by omega⟩ ⟨by omega, by omega⟩ (fun c_253 => ?_) (fun c_253 => ?_)
    · refine wp_iconst dL_arePlansRight_260 ?_
      refine wp_icmp_ne 277 dL_arePlansRight_261 (by decide) ⟨by omega, by omega⟩ ⟨by omega, by omega⟩ (fun c_261 => ?_) (fun c_261 => ?_)
      · exfalso
        omega
      · exact kk264 _ sp_249
    · refine wp_iconst dL_arePlansRight_256 ?_
      refine wp_goto 261 dL_arePlansRight_257 (by decide) ?_
      refine wp_icmp_ne 277 dL_arePlansRight_261 (by decide) ⟨by omega, by omega⟩ ⟨by omega, by omega⟩ (fun c_261 => ?_) (fun c_261 => ?_)
      · exfalso
        omega
      · exact kk264 _ sp_249
  · refine wp_iconst dL_arePlansRight_241 ?_
    refine wp_goto 246 dL_arePlansRight_242 (by decide) ?_
    refine wp_aload_n dL_arePlansRight_246 rfl ?_
    refine wp_iload dL_arePlansRight_247 rfl ?_
    refine wp_v1 k9 n9 (g_holds (N := N) pl sp_235 ht) cvL_70 dL_arePlansRight_249 ⟨Nat.le_of_ble_eq_true rfl, Nat.le_of_ble_eq_true rfl⟩ (Nat.le_of_ble_eq_true rfl) sp_235.1 rfl rfl (by omega) (by omega) (fun r_249 h_249 N_249 hq_249 => ?_)
    obtain ⟨rfl, hN_249, sp_249⟩ := hq_249
    rw [hN_249, ehv]
    change WP G mL_arePlansRight _ _ _ _ h_249 N 252 [some (.ref (cB G)), some (.ref (cB G + 211)), some (JV a), some (JV b), some (JV (t : Int)), some (JV (S 9 t 0))] [JV hv, JV 1]
    refine wp_iconst dL_arePlansRight_252 ?_
    refine wp_icmp_ne 260 dL_arePlansRight_253 (by decide) ⟨by omega, by omega⟩ ⟨by omega, by omega⟩ (fun c_253 => ?_) (fun c_253 => ?_)
    · refine wp_iconst dL_arePlansRight_260 ?_
      refine wp_icmp_ne 277 dL_arePlansRight_261 (by decide) ⟨by omega, by omega⟩ ⟨by omega, by omega⟩ (fun c_261 => ?_) (fun c_261 => ?_)
      · exfalso
        omega
      · exact kk264 _ sp_249
    · refine wp_iconst dL_arePlansRight_256 ?_
      refine wp_goto 261 dL_arePlansRight_257 (by decide) ?_
      refine wp_icmp_ne 277 dL_arePlansRight_261 (by decide) ⟨by omega, by omega⟩ ⟨by omega, by omega⟩ (fun c_261 => ?_) (fun c_261 => ?_)
      · exfalso
        omega
      · exact kk264 _ sp_249

theorem ap_264 (pl : PL S eb ee lb le rm ld s) (db : DBE S) (sp : SPI G h S 0 K) {t : Nat} (ht : (t : Int) < S 13 0 0) {a b : Int} (ha : 0 ≤ a ∧ a ≤ 24) (hb : 0 ≤ b ∧ b ≤ 24) (kk279 : ∀ h1 : AH, SPI G h1 S 0 K → WP G mL_arePlansRight Q X k9 n9 h1 N 279 [some (.ref (cB G)), some (.ref (cB G + 211)), some (JV a), some (JV b), some (JV (t : Int)), some (JV (S 9 t 0))] []) : WP G mL_arePlansRight Q X k9 n9 h N 264 [some (.ref (cB G)), some (.ref (cB G + 211)), some (JV a), some (JV b), some (JV (t : Int)), some (JV (S 9 t 0))] [] := by
  have w := sp.2.2.1
  have tp := sp.2.2.2.1
  have wT := w.nT
  have wL := w.nL
  have tf := pl.tf w tp db ht
  have gf := pl.gf w tp
  have tc := tf.tc
  have t1 := tf.1
  have t2 := tf.2.1
  clear tf
  generalize ehv : holdF S s.1 s.2.1 s.2.2.1 t = hv at *
  generalize elv : lthF S s.1 s.2.1 s.2.2.1 t = lv at *
  refine wp_aload_n dL_arePlansRight_264 rfl ?_
  refine wp_iload dL_arePlansRight_265 rfl ?_
  refine wp_v1 k9 n9 (g_heldBy (N := N) pl sp ht) cvL_146 dL_arePlansRight_267 ⟨Nat.le_of_ble_eq_true rfl, Nat.le_of_ble_eq_true rfl⟩ (Nat.le_of_ble_eq_true rfl) sp.1 rfl rfl (by omega) (by omega) (fun r_267 h_267 N_267 hq_267 => ?_)
  obtain ⟨rfl, hN_267, sp_267⟩ := hq_267
  rw [hN_267, elv]
  change WP G mL_arePlansRight _ _ _ _ h_267 N 270 [some (.ref (cB G)), some (.ref (cB G + 211)), some (JV a), some (JV b), some (JV (t : Int)), some (JV (S 9 t 0))] [JV lv]
  refine wp_aload_n dL_arePlansRight_270 rfl ?_
  refine wp_v0p (c_links (N := N) sp_267) cvL_59 dL_arePlansRight_271 ⟨Nat.le_of_ble_eq_true rfl, Nat.le_of_ble_eq_true rfl⟩ (Nat.le_of_ble_eq_true rfl) sp_267.1 rfl rfl ?_
  refine wp_icmp_lt 279 dL_arePlansRight_274 (by decide) ⟨by omega, by omega⟩ ⟨by omega, by omega⟩ (fun c_274 => ?_) (fun c_274 => ?_)
  · exact kk279 _ sp_267
  · exfalso
    omega

theorem ap_279 (pl : PL S eb ee lb le rm ld s) (db : DBE S) (sp : SPI G h S 0 K) {t : Nat} (ht : (t : Int) < S 13 0 0) {a b : Int} (ha : 0 ≤ a ∧ a ≤ 24) (hb : 0 ≤ b ∧ b ≤ 24) (kk7 : ∀ (h1 : AH) (a1 : Int), SPI G h1 S 0 K → (rm t = 0 ∧ S 9 t 0 = 0 → a1 = a + 1) → (¬ (rm t = 0 ∧ S 9 t 0 = 0) → a1 = a) → WP G mL_arePlansRight Q X k9 n9 h1 N 7 [some (.ref (cB G)), some (.ref (cB G + 211)), some (JV a1), some (JV b), some (JV ((t : Int) + 1)), some (JV (S 9 t 0))] []) : WP G mL_arePlansRight Q X k9 n9 h N 279 [some (.ref (cB G)), some (.ref (cB G + 211)), some (JV a), some (JV b), some (JV (t : Int)), some (JV (S 9 t 0))] [] := by
  have w := sp.2.2.1
  have tp := sp.2.2.2.1
  have wT := w.nT
  have wL := w.nL
  have tf := pl.tf w tp db ht
  have gf := pl.gf w tp
  have tc := tf.tc
  have t1 := tf.1
  have t2 := tf.2.1
  clear tf
  generalize ehv : holdF S s.1 s.2.1 s.2.2.1 t = hv at *
  generalize elv : lthF S s.1 s.2.1 s.2.2.1 t = lv at *
  refine wp_iload_n dL_arePlansRight_279 rfl ?_
  refine wp_iload dL_arePlansRight_280 rfl ?_
  refine wp_if_ne 298 dL_arePlansRight_282 (by decide) ⟨by omega, by omega⟩ (fun c_282 => ?_) (fun c_282 => ?_)
  · refine wp_iconst dL_arePlansRight_298 ?_
    refine wp_iadd dL_arePlansRight_299 ?_
    refine wp_istore_n dL_arePlansRight_300 (Nat.le_of_ble_eq_true rfl) rfl ?_
    change WP G mL_arePlansRight _ _ _ _ h N 301 [some (.ref (cB G)), some (.ref (cB G + 211)), some (JV (a + 0)), some (JV b), some (JV (t : Int)), some (JV (S 9 t 0))] []
    refine wp_iinc dL_arePlansRight_301 rfl (Nat.le_of_ble_eq_true rfl) rfl ?_
    change WP G mL_arePlansRight _ _ _ _ h N 304 [some (.ref (cB G)), some (.ref (cB G + 211)), some (JV (a + 0)), some (JV b), some (JV ((t : Int) + 1)), some (JV (S 9 t 0))] []
    refine wp_goto 7 dL_arePlansRight_304 (by decide) ?_
    exact kk7 _ (a + 0) sp (by omega) (by omega)
  · refine wp_aload_n dL_arePlansRight_285 rfl ?_
    refine wp_iload dL_arePlansRight_286 rfl ?_
    refine wp_v1 k9 n9 (g_room (N := N) pl sp ht) cvL_134 dL_arePlansRight_288 ⟨Nat.le_of_ble_eq_true rfl, Nat.le_of_ble_eq_true rfl⟩ (Nat.le_of_ble_eq_true rfl) sp.1 rfl rfl (by omega) (by omega) (fun r_288 h_288 N_288 hq_288 => ?_)
    obtain ⟨rfl, hN_288, sp_288⟩ := hq_288
    rw [hN_288]
    change WP G mL_arePlansRight _ _ _ _ h_288 N 291 [some (.ref (cB G)), some (.ref (cB G + 211)), some (JV a), some (JV b), some (JV (t : Int)), some (JV (S 9 t 0))] [JV (rm t), JV a]
    refine wp_if_ne 298 dL_arePlansRight_291 (by decide) ⟨by omega, by omega⟩ (fun c_291 => ?_) (fun c_291 => ?_)
    · refine wp_iconst dL_arePlansRight_298 ?_
      refine wp_iadd dL_arePlansRight_299 ?_
      refine wp_istore_n dL_arePlansRight_300 (Nat.le_of_ble_eq_true rfl) rfl ?_
      change WP G mL_arePlansRight _ _ _ _ h_288 N 301 [some (.ref (cB G)), some (.ref (cB G + 211)), some (JV (a + 0)), some (JV b), some (JV (t : Int)), some (JV (S 9 t 0))] []
      refine wp_iinc dL_arePlansRight_301 rfl (Nat.le_of_ble_eq_true rfl) rfl ?_
      change WP G mL_arePlansRight _ _ _ _ h_288 N 304 [some (.ref (cB G)), some (.ref (cB G + 211)), some (JV (a + 0)), some (JV b), some (JV ((t : Int) + 1)), some (JV (S 9 t 0))] []
      refine wp_goto 7 dL_arePlansRight_304 (by decide) ?_
      exact kk7 _ (a + 0) sp_288 (by omega) (by omega)
    · refine wp_iconst dL_arePlansRight_294 ?_
      refine wp_goto 299 dL_arePlansRight_295 (by decide) ?_
      refine wp_iadd dL_arePlansRight_299 ?_
      refine wp_istore_n dL_arePlansRight_300 (Nat.le_of_ble_eq_true rfl) rfl ?_
      change WP G mL_arePlansRight _ _ _ _ h_288 N 301 [some (.ref (cB G)), some (.ref (cB G + 211)), some (JV (a + 1)), some (JV b), some (JV (t : Int)), some (JV (S 9 t 0))] []
      refine wp_iinc dL_arePlansRight_301 rfl (Nat.le_of_ble_eq_true rfl) rfl ?_
      change WP G mL_arePlansRight _ _ _ _ h_288 N 304 [some (.ref (cB G)), some (.ref (cB G + 211)), some (JV (a + 1)), some (JV b), some (JV ((t : Int) + 1)), some (JV (S 9 t 0))] []
      refine wp_goto 7 dL_arePlansRight_304 (by decide) ?_
      exact kk7 _ (a + 1) sp_288 (by omega) (by omega)

theorem tgt_r {rm : Nat → Int} : ∀ m i, 0 ≤ tgt S rm m i ∧ tgt S rm m i ≤ (m : Int)
  | 0, _ => ⟨Int.le_refl _, Int.le_refl _⟩
  | m + 1, i => by
    have q := tgt_r (rm := rm) m (i + 1)
    rw [tgt]
    split <;> omega
theorem ap_loop (pl : PL S eb ee lb le rm ld s) (db : DBE S) (w : WF S) (tp : TOP S) {f : Nat → Int} (hf : K.1 (cB G + 211) = some (eI G 24 f)) (hft : ∀ t, t < 24 → f t = S 8 t 0) (kk307 : ∀ (h1 : AH) (x5 : Option Value), SPI G h1 S 0 K → WP G mL_arePlansRight Q X k9 n9 h1 N 307 [some (.ref (cB G)), some (.ref (cB G + 211)), some (JV (tgt S rm (S 13 0 0).toNat 0)), some (JV s.2.2.2.2.1), some (JV (S 13 0 0)), x5] []) : ∀ (m t : Nat) (a b : Int) (x5 : Option Value) (h : AH), (S 13 0 0).toNat - t = m → (t : Int) ≤ S 13 0 0 → 0 ≤ a → a + tgt S rm m t = tgt S rm (S 13 0 0).toNat 0 → b = wsum s.2.2.1 t → SPI G h S 0 K → WP G mL_arePlansRight Q X k9 n9 h N 7 [some (.ref (cB G)), some (.ref (cB G + 211)), some (JV a), some (JV b), some (JV (t : Int)), x5] [] := by
  have wT := w.nT
  have gf := pl.gf w tp
  have i01 := (pl.lv w).1.1.1
  have tT := tgt_r (S := S) (rm := rm) (S 13 0 0).toNat 0
  intro m
  induction m with
  | zero =>
    intro t a b x5 h hm ht h0 ha hb sp
    refine wp_iload dL_arePlansRight_7 rfl ?_
    refine wp_aload_n dL_arePlansRight_9 rfl ?_
    refine wp_v0p (c_tasks (N := N) sp) cvL_39 dL_arePlansRight_10 ⟨Nat.le_of_ble_eq_true rfl, Nat.le_of_ble_eq_true rfl⟩ (Nat.le_of_ble_eq_true rfl) sp.1 rfl rfl ?_
    refine wp_icmp_ge 307 dL_arePlansRight_13 (by decide) ⟨by omega, by omega⟩ ⟨by omega, by omega⟩ (fun c_13 => ?_) (fun c_13 => ?_)
    · have e1 : (t : Int) = S 13 0 0 := by omega
      have e2 : a = tgt S rm (S 13 0 0).toNat 0 := by rw [← ha]; exact (Int.add_zero a).symm
      have e3 : b = s.2.2.2.2.1 := by rw [hb, ← gf.2.2.2.1, show t = (S 13 0 0).toNat by omega]
      rw [e1, e2, e3]
      exact kk307 h x5 sp
    · exfalso; omega
  | succ m ih =>
    intro t a b x5 h hm ht h0 ha hb sp
    have ht9 : (t : Int) < S 13 0 0 := by omega
    have q := wsum_r (f := s.2.2.1) (M := 1) t (fun x _ => by have := i01 x; omega)
    have hq := i01 t
    have r := tgt_r (S := S) (rm := rm) (m + 1) t
    refine wp_iload dL_arePlansRight_7 rfl ?_
    refine wp_aload_n dL_arePlansRight_9 rfl ?_
    refine wp_v0p (c_tasks (N := N) sp) cvL_39 dL_arePlansRight_10 ⟨Nat.le_of_ble_eq_true rfl, Nat.le_of_ble_eq_true rfl⟩ (Nat.le_of_ble_eq_true rfl) sp.1 rfl rfl ?_
    refine wp_icmp_ge 307 dL_arePlansRight_13 (by decide) ⟨by omega, by omega⟩ ⟨by omega, by omega⟩ (fun c_13 => ?_) (fun c_13 => ?_)
    · exfalso; omega
    · have ha9 : 0 ≤ a ∧ a ≤ 24 := by omega
      refine ap_16 pl db sp ht9 ha9 (by omega) (fun h1 b1 sp1 e1 => ?_)
      have hb9 : 0 ≤ b1 ∧ b1 ≤ 24 := by omega
      refine ap_41 pl db sp1 ht9 ha9 hb9 (fun h2 sp2 => ?_)
      refine ap_108 pl db sp2 ht9 ha9 hb9 hf hft (fun h3 sp3 => ?_)
      refine ap_128 pl db sp3 ht9 ha9 hb9 (fun h4 sp4 => ?_)
      refine ap_201 pl db sp4 ht9 ha9 hb9 (fun h5 sp5 => ?_)
      refine ap_232 pl db sp5 ht9 ha9 hb9 (fun h6 sp6 => ?_)
      refine ap_264 pl db sp6 ht9 ha9 hb9 (fun h7 sp7 => ?_)
      refine ap_279 pl db sp7 ht9 ha9 hb9 (fun h8 a1 sp8 c1 c2 => ?_)
      have e9 : tgt S rm (m + 1) t = (if rm t = 0 ∧ S 9 t 0 = 0 then 1 else 0) + tgt S rm m (t + 1) := rfl
      refine ih (t + 1) a1 b1 _ h8 (by omega) (by omega) ?_ ?_ ?_ sp8
      · by_cases hc : rm t = 0 ∧ S 9 t 0 = 0
        · have := c1 hc; omega
        · have := c2 hc; omega
      · by_cases hc : rm t = 0 ∧ S 9 t 0 = 0
        · rw [if_pos hc] at e9
          have := c1 hc; omega
        · rw [if_neg hc] at e9
          have := c2 hc; omega
      · rw [e1, hb]; rfl
theorem ap_bits (pl : PL S eb ee lb le rm ld s) (w : WF S) (tp : TOP S) (h9 : S 13 0 0 ≤ 9) {T : Int} (kk361 : ∀ (h1 : AH) (sn : Nat) (x5 : Option Value), SPI G h1 S 0 K → sn < 512 → (pc9 sn : Int) = s.2.2.2.2.1 → WP G mL_arePlansRight Q X k9 n9 h1 N 361 [some (.ref (cB G)), some (.ref (cB G + 211)), some (JV T), some (JV s.2.2.2.2.1), some (JV (sn : Int)), x5] []) : ∀ (m p sn : Nat) (h : AH), s.2.2.2.2.1.toNat - p = m → (p : Int) ≤ s.2.2.2.2.1 → sn < 512 → pc9 sn = p → (∀ j, Nat.testBit sn j = true → ∃ i, i < p ∧ s.2.2.2.1 i = (j : Int)) → SPI G h S 0 K → WP G mL_arePlansRight Q X (k9 + m) (n9 + 6 * m) h N 336 [some (.ref (cB G)), some (.ref (cB G + 211)), some (JV T), some (JV s.2.2.2.2.1), some (JV (sn : Int)), some (JV (p : Int))] [] := by
  have gf := pl.gf w tp
  have po := pl.of w
  intro m
  induction m with
  | zero =>
    intro p sn h hm hp hs hc hb sp
    refine wp_iload dL_arePlansRight_336 rfl ?_
    refine wp_iload_n dL_arePlansRight_338 rfl ?_
    refine wp_icmp_ge 361 dL_arePlansRight_339 (by decide) ⟨by omega, by omega⟩ ⟨by omega, by omega⟩ (fun c_339 => ?_) (fun c_339 => ?_)
    · exact kk361 h sn _ sp hs (by omega)
    · exfalso; omega
  | succ m ih =>
    intro p sn h hm hp hs hc hb sp
    have hp9 : (p : Int) < s.2.2.2.2.1 := by omega
    have ho := po.1 p hp9
    obtain ⟨o, eo⟩ : ∃ o : Nat, s.2.2.2.1 p = (o : Int) := ⟨(s.2.2.2.1 p).toNat, by omega⟩
    have ho9 : o < 9 := by omega
    have hz : (2 : Nat) ^ o < 2 ^ 32 := Nat.pow_lt_pow_right (by omega) (by omega)
    refine wp_iload dL_arePlansRight_336 rfl ?_
    refine wp_iload_n dL_arePlansRight_338 rfl ?_
    refine wp_icmp_ge 361 dL_arePlansRight_339 (by decide) ⟨by omega, by omega⟩ ⟨by omega, by omega⟩ (fun c_339 => ?_) (fun c_339 => ?_)
    · exfalso; omega
    · refine wp_iload dL_arePlansRight_342 rfl ?_
      refine wp_iconst dL_arePlansRight_344 ?_
      refine wp_aload_n dL_arePlansRight_345 rfl ?_
      refine wp_iload dL_arePlansRight_346 rfl ?_
      refine wp_v1 (k9 + m) (n9 + 6 * m) (g_orderAt (N := N) pl sp hp9 (by omega)) cvL_152 dL_arePlansRight_348 ⟨Nat.le_of_ble_eq_true rfl, Nat.le_of_ble_eq_true rfl⟩ (Nat.le_of_ble_eq_true rfl) sp.1 rfl rfl (by omega) (by omega) (fun r h1 N1 hq => ?_)
      obtain ⟨rfl, hN1, sp1⟩ := hq
      rw [hN1, eo]
      change WP G mL_arePlansRight _ _ _ _ h1 N 351 [some (.ref (cB G)), some (.ref (cB G + 211)), some (JV T), some (JV s.2.2.2.2.1), some (JV (sn : Int)), some (JV (p : Int))] [JV (o : Int), JV 1, JV (sn : Int)]
      refine wp_ishl dL_arePlansRight_351 (by omega) (by omega) (by omega) (by rw [Int.toNat_natCast]; show 1 * 2 ^ o < 2 ^ 32; omega) ?_
      rw [show ((((1 : Int).toNat * 2 ^ ((o : Int)).toNat : Nat)) : Int) = ((2 ^ o : Nat) : Int) by rw [Int.toNat_natCast]; show ((1 * 2 ^ o : Nat) : Int) = _; rw [Nat.one_mul]]
      refine wp_ior dL_arePlansRight_352 ?_
      refine wp_istore dL_arePlansRight_353 (Nat.le_of_ble_eq_true rfl) rfl ?_
      change WP G mL_arePlansRight _ _ _ _ h1 N 355 [some (.ref (cB G)), some (.ref (cB G + 211)), some (JV T), some (JV s.2.2.2.2.1), some (JV ((sn ||| 2 ^ o : Nat) : Int)), some (JV (p : Int))] []
      refine wp_iinc dL_arePlansRight_355 rfl (Nat.le_of_ble_eq_true rfl) rfl ?_
      change WP G mL_arePlansRight _ _ _ _ h1 N 358 [some (.ref (cB G)), some (.ref (cB G + 211)), some (JV T), some (JV s.2.2.2.2.1), some (JV ((sn ||| 2 ^ o : Nat) : Int)), some (JV ((p : Int) + 1))] []
      refine wp_goto 336 dL_arePlansRight_358 (by decide) ?_
      have hn : Nat.testBit sn o = false := by
        cases hq : Nat.testBit sn o with
        | false => rfl
        | true =>
          obtain ⟨i, i1, i2⟩ := hb o hq
          have := po.2 i p (by omega) hp9 (by rw [i2, eo])
          omega
      have q := pc_or sn hs o ho9 hn
      refine ih (p + 1) (sn ||| 2 ^ o) h1 (by omega) (by omega) q.2 (by rw [q.1, hc]) (fun j hj => ?_) sp1
      rw [Nat.testBit_or, Nat.testBit_two_pow] at hj
      by_cases hjo : o = j
      · exact ⟨p, by omega, by rw [eo, hjo]⟩
      · rw [decide_eq_false hjo, Bool.or_false] at hj
        obtain ⟨i, i1, i2⟩ := hb j hj
        exact ⟨i, by omega, i2⟩
theorem ap_307 (pl : PL S eb ee lb le rm ld s) (sp : SPI G h S 0 K) {x5 : Option Value} (kk336 : ∀ h1 : AH, SPI G h1 S 0 K → WP G mL_arePlansRight Q X k9 n9 h1 N 336 [some (.ref (cB G)), some (.ref (cB G + 211)), some (JV (tgt S rm (S 13 0 0).toNat 0)), some (JV s.2.2.2.2.1), some (JV 0), some (JV 0)] []) : WP G mL_arePlansRight Q X k9 n9 h N 307 [some (.ref (cB G)), some (.ref (cB G + 211)), some (JV (tgt S rm (S 13 0 0).toNat 0)), some (JV s.2.2.2.2.1), some (JV (S 13 0 0)), x5] [] := by
  have w := sp.2.2.1
  have tp := sp.2.2.2.1
  have wT := w.nT
  have gf := pl.gf w tp
  have tT := tgt_r (S := S) (rm := rm) (S 13 0 0).toNat 0
  refine wp_aload_n dL_arePlansRight_307 rfl ?_
  refine wp_v0 k9 n9 (g_tight (N := N) pl sp) cvL_149 dL_arePlansRight_308 ⟨Nat.le_of_ble_eq_true rfl, Nat.le_of_ble_eq_true rfl⟩ (Nat.le_of_ble_eq_true rfl) sp.1 rfl rfl (by omega) (by omega) (fun r_308 h_308 N_308 hq_308 => ?_)
  obtain ⟨rfl, hN_308, sp_308⟩ := hq_308
  rw [hN_308]
  change WP G mL_arePlansRight _ _ _ _ h_308 N 311 [some (.ref (cB G)), some (.ref (cB G + 211)), some (JV (tgt S rm (S 13 0 0).toNat 0)), some (JV s.2.2.2.2.1), some (JV (S 13 0 0)), x5] [JV (tgt S rm (S 13 0 0).toNat 0)]
  refine wp_iload_n dL_arePlansRight_311 rfl ?_
  refine wp_icmp_ne 328 dL_arePlansRight_312 (by decide) ⟨by omega, by omega⟩ ⟨by omega, by omega⟩ (fun c_312 => ?_) (fun c_312 => ?_)
  · exfalso
    omega
  · refine wp_aload_n dL_arePlansRight_315 rfl ?_
    refine wp_v0 k9 n9 (g_stuck (N := N) pl sp_308) cvL_99 dL_arePlansRight_316 ⟨Nat.le_of_ble_eq_true rfl, Nat.le_of_ble_eq_true rfl⟩ (Nat.le_of_ble_eq_true rfl) sp_308.1 rfl rfl (by omega) (by omega) (fun r_316 h_316 N_316 hq_316 => ?_)
    obtain ⟨rfl, hN_316, sp_316⟩ := hq_316
    rw [hN_316]
    change WP G mL_arePlansRight _ _ _ _ h_316 N 319 [some (.ref (cB G)), some (.ref (cB G + 211)), some (JV (tgt S rm (S 13 0 0).toNat 0)), some (JV s.2.2.2.2.1), some (JV (S 13 0 0)), x5] [JV (S 13 0 0 - s.2.2.2.2.1)]
    refine wp_aload_n dL_arePlansRight_319 rfl ?_
    refine wp_v0p (c_tasks (N := N) sp_316) cvL_39 dL_arePlansRight_320 ⟨Nat.le_of_ble_eq_true rfl, Nat.le_of_ble_eq_true rfl⟩ (Nat.le_of_ble_eq_true rfl) sp_316.1 rfl rfl ?_
    refine wp_iload_n dL_arePlansRight_323 rfl ?_
    refine wp_isub dL_arePlansRight_324 ?_
    refine wp_icmp_eq 330 dL_arePlansRight_325 (by decide) ⟨by omega, by omega⟩ ⟨by omega, by omega⟩ (fun c_325 => ?_) (fun c_325 => ?_)
    · refine wp_iconst dL_arePlansRight_330 ?_
      refine wp_istore dL_arePlansRight_331 (Nat.le_of_ble_eq_true rfl) rfl ?_
      change WP G mL_arePlansRight _ _ _ _ h_316 N 333 [some (.ref (cB G)), some (.ref (cB G + 211)), some (JV (tgt S rm (S 13 0 0).toNat 0)), some (JV s.2.2.2.2.1), some (JV 0), x5] []
      refine wp_iconst dL_arePlansRight_333 ?_
      refine wp_istore dL_arePlansRight_334 (Nat.le_of_ble_eq_true rfl) rfl ?_
      change WP G mL_arePlansRight _ _ _ _ h_316 N 336 [some (.ref (cB G)), some (.ref (cB G + 211)), some (JV (tgt S rm (S 13 0 0).toNat 0)), some (JV s.2.2.2.2.1), some (JV 0), some (JV 0)] []
      exact kk336 _ sp_316
    · exfalso
      omega

theorem ap_361 (pl : PL S eb ee lb le rm ld s) (sp : SPI G h S 0 K) {sn : Nat} {x5 : Option Value} (hs : sn < 512) (hc : (pc9 sn : Int) = s.2.2.2.2.1) (hQ : ∀ h1 : AH, SPI G h1 S 0 K → Q (some (JV 1)) h1 N) : WP G mL_arePlansRight Q X k9 n9 h N 361 [some (.ref (cB G)), some (.ref (cB G + 211)), some (JV (tgt S rm (S 13 0 0).toNat 0)), some (JV s.2.2.2.2.1), some (JV (sn : Int)), x5] [] := by
  have w := sp.2.2.1
  have tp := sp.2.2.2.1
  have wT := w.nT
  have gf := pl.gf w tp
  have tT := tgt_r (S := S) (rm := rm) (S 13 0 0).toNat 0
  refine wp_iload dL_arePlansRight_361 rfl ?_
  refine wp_s1p (c_bitCount (N := N) (m := sn) hs) csL_155 dL_arePlansRight_363 ⟨Nat.le_of_ble_eq_true rfl, Nat.le_of_ble_eq_true rfl⟩ (Nat.le_of_ble_eq_true rfl) ?_
  refine wp_iload_n dL_arePlansRight_366 rfl ?_
  refine wp_icmp_ne 399 dL_arePlansRight_367 (by decide) ⟨by omega, by omega⟩ ⟨by omega, by omega⟩ (fun c_367 => ?_) (fun c_367 => ?_)
  · exfalso
    omega
  · refine wp_aload_n dL_arePlansRight_370 rfl ?_
    refine wp_v0 k9 n9 (g_levelledLast (N := N) pl sp) cvL_140 dL_arePlansRight_371 ⟨Nat.le_of_ble_eq_true rfl, Nat.le_of_ble_eq_true rfl⟩ (Nat.le_of_ble_eq_true rfl) sp.1 rfl rfl (by omega) (by omega) (fun r_371 h_371 N_371 hq_371 => ?_)
    obtain ⟨rfl, hN_371, sp_371⟩ := hq_371
    rw [hN_371]
    change WP G mL_arePlansRight _ _ _ _ h_371 N 374 [some (.ref (cB G)), some (.ref (cB G + 211)), some (JV (tgt S rm (S 13 0 0).toNat 0)), some (JV s.2.2.2.2.1), some (JV (sn : Int)), x5] [JV s.2.2.2.2.2]
    refine wp_if_lt 399 dL_arePlansRight_374 (by decide) ⟨by omega, by omega⟩ (fun c_374 => ?_) (fun c_374 => ?_)
    · exfalso
      omega
    · refine wp_aload_n dL_arePlansRight_377 rfl ?_
      refine wp_v0 k9 n9 (g_stuck (N := N) pl sp_371) cvL_99 dL_arePlansRight_378 ⟨Nat.le_of_ble_eq_true rfl, Nat.le_of_ble_eq_true rfl⟩ (Nat.le_of_ble_eq_true rfl) sp_371.1 rfl rfl (by omega) (by omega) (fun r_378 h_378 N_378 hq_378 => ?_)
      obtain ⟨rfl, hN_378, sp_378⟩ := hq_378
      rw [hN_378]
      change WP G mL_arePlansRight _ _ _ _ h_378 N 381 [some (.ref (cB G)), some (.ref (cB G + 211)), some (JV (tgt S rm (S 13 0 0).toNat 0)), some (JV s.2.2.2.2.1), some (JV (sn : Int)), x5] [JV (S 13 0 0 - s.2.2.2.2.1)]
      refine wp_if_gt 395 dL_arePlansRight_381 (by decide) ⟨by omega, by omega⟩ (fun c_381 => ?_) (fun c_381 => ?_)
      · refine wp_iconst dL_arePlansRight_395 ?_
        refine wp_goto 400 dL_arePlansRight_396 (by decide) ?_
        refine wp_zret dL_arePlansRight_400 rfl (by omega) ?_
        exact hQ _ sp_378
      · refine wp_aload_n dL_arePlansRight_384 rfl ?_
        refine wp_v0 k9 n9 (g_levelledLast (N := N) pl sp_378) cvL_140 dL_arePlansRight_385 ⟨Nat.le_of_ble_eq_true rfl, Nat.le_of_ble_eq_true rfl⟩ (Nat.le_of_ble_eq_true rfl) sp_378.1 rfl rfl (by omega) (by omega) (fun r_385 h_385 N_385 hq_385 => ?_)
        obtain ⟨rfl, hN_385, sp_385⟩ := hq_385
        rw [hN_385]
        change WP G mL_arePlansRight _ _ _ _ h_385 N 388 [some (.ref (cB G)), some (.ref (cB G + 211)), some (JV (tgt S rm (S 13 0 0).toNat 0)), some (JV s.2.2.2.2.1), some (JV (sn : Int)), x5] [JV s.2.2.2.2.2]
        refine wp_aload_n dL_arePlansRight_388 rfl ?_
        refine wp_v0 k9 n9 (g_last (N := N) pl sp_385) cvL_131 dL_arePlansRight_389 ⟨Nat.le_of_ble_eq_true rfl, Nat.le_of_ble_eq_true rfl⟩ (Nat.le_of_ble_eq_true rfl) sp_385.1 rfl rfl (by omega) (by omega) (fun r_389 h_389 N_389 hq_389 => ?_)
        obtain ⟨rfl, hN_389, sp_389⟩ := hq_389
        rw [hN_389]
        change WP G mL_arePlansRight _ _ _ _ h_389 N 392 [some (.ref (cB G)), some (.ref (cB G + 211)), some (JV (tgt S rm (S 13 0 0).toNat 0)), some (JV s.2.2.2.2.1), some (JV (sn : Int)), x5] [JV ld, JV s.2.2.2.2.2]
        refine wp_icmp_lt 399 dL_arePlansRight_392 (by decide) ⟨by omega, by omega⟩ ⟨by omega, by omega⟩ (fun c_392 => ?_) (fun c_392 => ?_)
        · exfalso
          omega
        · refine wp_iconst dL_arePlansRight_395 ?_
          refine wp_goto 400 dL_arePlansRight_396 (by decide) ?_
          refine wp_zret dL_arePlansRight_400 rfl (by omega) ?_
          exact hQ _ sp_389
theorem L_arePlansRight (pl : PL S eb ee lb le rm ld s) (sp : SPI G h S 0 K) (db : DBE S) (h9 : S 13 0 0 ≤ 9) {f : Nat → Int} (hf : K.1 (cB G + 211) = some (eI G 24 f)) (hft : ∀ t, t < 24 → f t = S 8 t 0) : CT G mL_arePlansRight [.ref (cB G), .ref (cB G + 211)] h N 24 144 (GQ G S K N (JV 1)) := by
  have w := sp.2.2.1
  have tp := sp.2.2.2.1
  have wT := w.nT
  have gf := pl.gf w tp
  refine CT_of (by decide +kernel) rfl (by simp [Value.category]) (Nat.le_of_ble_eq_true rfl) ?_
  change WP G mL_arePlansRight _ noX _ _ h N 0 [some (.ref (cB G)), some (.ref (cB G + 211)), none, none, none, none] []
  refine wp_iconst dL_arePlansRight_0 ?_
  refine wp_istore_n dL_arePlansRight_1 (Nat.le_of_ble_eq_true rfl) rfl ?_
  refine wp_iconst dL_arePlansRight_2 ?_
  refine wp_istore_n dL_arePlansRight_3 (Nat.le_of_ble_eq_true rfl) rfl ?_
  refine wp_iconst dL_arePlansRight_4 ?_
  refine wp_istore dL_arePlansRight_5 (Nat.le_of_ble_eq_true rfl) rfl ?_
  change WP G mL_arePlansRight _ noX 24 144 h N 7 [some (.ref (cB G)), some (.ref (cB G + 211)), some (JV 0), some (JV 0), some (JV ((0 : Nat) : Int)), none] []
  refine ap_loop pl db w tp hf hft (fun h1 x5 sp1 => ?_) (S 13 0 0).toNat 0 0 0 none h (by omega) (by omega) (by omega) (Int.zero_add _) rfl sp
  refine ap_307 pl sp1 (fun h2 sp2 => ?_)
  have b := ap_bits (k9 := 0) (n9 := 0) (T := tgt S rm (S 13 0 0).toNat 0) (Q := GQ G S K N (JV 1)) (X := noX) (N := N) (K := K) pl w tp h9 (fun h3 sn x5 sp3 hs hc => ap_361 pl sp3 hs hc (fun h4 sp4 => ⟨rfl, rfl, sp4⟩)) s.2.2.2.2.1.toNat 0 0 h2 (by omega) (by omega) (by omega) rfl (fun j hj => by rw [Nat.zero_testBit] at hj; cases hj) sp2
  exact b.le (by omega) (by omega)
end Apr

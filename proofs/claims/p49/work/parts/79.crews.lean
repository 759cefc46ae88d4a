/-! ===== the law: are the crews right? ===== -/
section Acr
variable {G : Ctx} {h : AH} {N : Nat} {S : ST} {K : KTup} {eb ee lb le rm : Nat → Int} {ld : Int} {s : LState} {Q : PQ} {X : PX} {k9 n9 : Nat}
theorem or01 : ∀ a, a ≤ 1 → ∀ b, b ≤ 1 → a ||| b ≤ 1 ∧ (a ||| b = 0 → a = 0 ∧ b = 0) := by decide +kernel
theorem ac_done (pl : PL S eb ee lb le rm ld s) (db : DBE S) (w : WF S) (kk26 : ∀ (h1 : AH) (acc : Nat) (x3 x4 x5 : Option Value), SPI G h1 S 0 K → acc ≤ 1 → (acc = 0 → ∀ t : Nat, (t : Int) < S 13 0 0 → S 9 t 0 = 0) → WP G mL_areCrewsRight Q X k9 n9 h1 N 26 [some (.ref (cB G)), some (.ref (cB G + 210)), some (JV (acc : Int)), x3, x4, x5] []) : ∀ (m t acc : Nat) (x4 x5 : Option Value) (h : AH), (S 13 0 0).toNat - t = m → (t : Int) ≤ S 13 0 0 → acc ≤ 1 → (acc = 0 → ∀ x, x < t → S 9 x 0 = 0) → SPI G h S 0 K → WP G mL_areCrewsRight Q X k9 n9 h N 4 [some (.ref (cB G)), some (.ref (cB G + 210)), some (JV (acc : Int)), some (JV (t : Int)), x4, x5] [] := by
  have wT := w.nT
  intro m
  induction m with
  | zero =>
    intro t acc x4 x5 h hm ht ha hx sp
    refine wp_iload_n dL_areCrewsRight_4 rfl ?_
    refine wp_aload_n dL_areCrewsRight_5 rfl ?_
    refine wp_v0p (c_tasks (N := N) sp) cvL_39 dL_areCrewsRight_6 ⟨Nat.le_of_ble_eq_true rfl, Nat.le_of_ble_eq_true rfl⟩ (Nat.le_of_ble_eq_true rfl) sp.1 rfl rfl ?_
    refine wp_icmp_ge 26 dL_areCrewsRight_9 (by decide) ⟨by omega, by omega⟩ ⟨by omega, by omega⟩ (fun c_9 => ?_) (fun c_9 => ?_)
    · exact kk26 h acc _ _ _ sp ha (fun e x hx9 => hx e x (by omega))
    · exfalso; omega
  | succ m ih =>
    intro t acc x4 x5 h hm ht ha hx sp
    have ht9 : (t : Int) < S 13 0 0 := by omega
    have w9 := (w.task (t := t) (by omega)).2.2.2.2.1
    obtain ⟨d, ed⟩ : ∃ d : Nat, S 9 t 0 = (d : Int) := ⟨(S 9 t 0).toNat, by omega⟩
    have q := or01 acc ha d (by omega)
    refine wp_iload_n dL_areCrewsRight_4 rfl ?_
    refine wp_aload_n dL_areCrewsRight_5 rfl ?_
    refine wp_v0p (c_tasks (N := N) sp) cvL_39 dL_areCrewsRight_6 ⟨Nat.le_of_ble_eq_true rfl, Nat.le_of_ble_eq_true rfl⟩ (Nat.le_of_ble_eq_true rfl) sp.1 rfl rfl ?_
    refine wp_icmp_ge 26 dL_areCrewsRight_9 (by decide) ⟨by omega, by omega⟩ ⟨by omega, by omega⟩ (fun c_9 => ?_) (fun c_9 => ?_)
    · exfalso; omega
    · refine wp_iload_n dL_areCrewsRight_12 rfl ?_
      refine wp_aload_n dL_areCrewsRight_13 rfl ?_
      refine wp_iload_n dL_areCrewsRight_14 rfl ?_
      refine wp_s2 k9 n9 (L_isDone (N := N) pl sp db ht9) csL_118 dL_areCrewsRight_15 ⟨Nat.le_of_ble_eq_true rfl, Nat.le_of_ble_eq_true rfl⟩ (Nat.le_of_ble_eq_true rfl) (by omega) (by omega) (fun r h1 N1 hq => ?_)
      obtain ⟨rfl, hN1, sp1⟩ := hq
      rw [hN1, ed]
      change WP G mL_areCrewsRight _ _ _ _ h1 N 18 [some (.ref (cB G)), some (.ref (cB G + 210)), some (JV (acc : Int)), some (JV (t : Int)), x4, x5] [JV (d : Int), JV (acc : Int)]
      refine wp_ior dL_areCrewsRight_18 ?_
      refine wp_istore_n dL_areCrewsRight_19 (Nat.le_of_ble_eq_true rfl) rfl ?_
      change WP G mL_areCrewsRight _ _ _ _ h1 N 20 [some (.ref (cB G)), some (.ref (cB G + 210)), some (JV ((acc ||| d : Nat) : Int)), some (JV (t : Int)), x4, x5] []
      refine wp_iinc dL_areCrewsRight_20 rfl (Nat.le_of_ble_eq_true rfl) rfl ?_
      change WP G mL_areCrewsRight _ _ _ _ h1 N 23 [some (.ref (cB G)), some (.ref (cB G + 210)), some (JV ((acc ||| d : Nat) : Int)), some (JV ((t : Int) + 1)), x4, x5] []
      refine wp_goto 4 dL_areCrewsRight_23 (by decide) ?_
      refine ih (t + 1) (acc ||| d) _ _ h1 (by omega) (by omega) q.1 (fun e x hx9 => ?_) sp1
      have e2 := q.2 e
      by_cases hxt : x = t
      · rw [hxt, ed, e2.2]; rfl
      · exact hx e2.1 x (by omega)
theorem ac_days (pl : PL S eb ee lb le rm ld s) {c : Nat} (hc : c < 3) {acc : Nat} (w : WF S) (tp : TOP S) (kk73 : ∀ (h1 : AH) (y d : Int), SPI G h1 S 0 K → 0 ≤ y → y ≤ grt (ldg S s.1 s.2.1 s.2.2.1 c) 5000 0 0 → WP G mL_areCrewsRight Q X k9 n9 h1 N 73 [some (.ref (cB G)), some (.ref (cB G + 210)), some (JV (acc : Int)), some (JV (c : Int)), some (JV y), some (JV d)] []) : ∀ (m : Nat) (y d : Int) (h : AH), (40 - d).toNat = m → 0 ≤ d ∧ d ≤ 40 → 0 ≤ y → y ≤ grt (ldg S s.1 s.2.1 s.2.2.1 c) 5000 0 0 → SPI G h S 0 K → WP G mL_areCrewsRight Q X k9 n9 h N 39 [some (.ref (cB G)), some (.ref (cB G + 210)), some (JV (acc : Int)), some (JV (c : Int)), some (JV y), some (JV d)] [] := by
  have hL0 := (pl.gf w tp).2.1
  have cf := pl.cf w tp (c := c) (by omega)
  have cu := cf.1
  have cp := cf.2.1
  clear cf
  intro m
  induction m with
  | zero =>
    intro y d h hm hd hy hyp sp
    refine wp_iload dL_areCrewsRight_39 rfl ?_
    refine wp_bipush dL_areCrewsRight_41 rfl ?_
    refine wp_aload_n dL_areCrewsRight_43 rfl ?_
    refine wp_v0 k9 n9 (g_levelledLast (N := N) pl sp) cvL_140 dL_areCrewsRight_44 ⟨Nat.le_of_ble_eq_true rfl, Nat.le_of_ble_eq_true rfl⟩ (Nat.le_of_ble_eq_true rfl) sp.1 rfl rfl (by omega) (by omega) (fun r_44 h_44 N_44 hq_44 => ?_)
    obtain ⟨rfl, hN_44, sp_44⟩ := hq_44
    rw [hN_44]
    change WP G mL_areCrewsRight _ _ _ _ h_44 N 47 [some (.ref (cB G)), some (.ref (cB G + 210)), some (JV (acc : Int)), some (JV (c : Int)), some (JV y), some (JV d)] [JV s.2.2.2.2.2, JV 40, JV d]
    refine wp_min dL_areCrewsRight_47 maL_160 w_min (Nat.le_of_ble_eq_true rfl) (Nat.le_of_ble_eq_true rfl) ⟨by omega, by omega⟩ ⟨by omega, by omega⟩ ?_
    refine wp_icmp_ge 73 dL_areCrewsRight_50 (by decide) ⟨by omega, by omega⟩ ⟨by omega, by omega⟩ (fun c_50 => ?_) (fun c_50 => ?_)
    · exact kk73 _ _ _ sp_44 hy hyp
    · exfalso
      omega
  | succ m ih =>
    intro y d h hm hd hy hyp sp
    have cud := cu d hd.1
    refine wp_iload dL_areCrewsRight_39 rfl ?_
    refine wp_bipush dL_areCrewsRight_41 rfl ?_
    refine wp_aload_n dL_areCrewsRight_43 rfl ?_
    refine wp_v0 k9 n9 (g_levelledLast (N := N) pl sp) cvL_140 dL_areCrewsRight_44 ⟨Nat.le_of_ble_eq_true rfl, Nat.le_of_ble_eq_true rfl⟩ (Nat.le_of_ble_eq_true rfl) sp.1 rfl rfl (by omega) (by omega) (fun r_44 h_44 N_44 hq_44 => ?_)
    obtain ⟨rfl, hN_44, sp_44⟩ := hq_44
    rw [hN_44]
    change WP G mL_areCrewsRight _ _ _ _ h_44 N 47 [some (.ref (cB G)), some (.ref (cB G + 210)), some (JV (acc : Int)), some (JV (c : Int)), some (JV y), some (JV d)] [JV s.2.2.2.2.2, JV 40, JV d]
    refine wp_min dL_areCrewsRight_47 maL_160 w_min (Nat.le_of_ble_eq_true rfl) (Nat.le_of_ble_eq_true rfl) ⟨by omega, by omega⟩ ⟨by omega, by omega⟩ ?_
    refine wp_icmp_ge 73 dL_areCrewsRight_50 (by decide) ⟨by omega, by omega⟩ ⟨by omega, by omega⟩ (fun c_50 => ?_) (fun c_50 => ?_)
    · exact kk73 _ _ _ sp_44 hy hyp
    · refine wp_iload dL_areCrewsRight_53 rfl ?_
      refine wp_aload_n dL_areCrewsRight_55 rfl ?_
      refine wp_iload_n dL_areCrewsRight_56 rfl ?_
      refine wp_iload dL_areCrewsRight_57 rfl ?_
      refine wp_v2 k9 n9 (g_used (N := N) pl sp_44 (c := c) (by omega) (d := d) ⟨by omega, by omega⟩) cvL_163 dL_areCrewsRight_59 ⟨Nat.le_of_ble_eq_true rfl, Nat.le_of_ble_eq_true rfl⟩ (Nat.le_of_ble_eq_true rfl) sp_44.1 rfl rfl (by omega) (by omega) (fun r_59 h_59 N_59 hq_59 => ?_)
      obtain ⟨rfl, hN_59, sp_59⟩ := hq_59
      rw [hN_59]
      change WP G mL_areCrewsRight _ _ _ _ h_59 N 62 [some (.ref (cB G)), some (.ref (cB G + 210)), some (JV (acc : Int)), some (JV (c : Int)), some (JV y), some (JV d)] [JV (onF (ldg S s.1 s.2.1 s.2.2.1) c d), JV y]
      refine wp_max dL_areCrewsRight_62 maL_43 w_max (Nat.le_of_ble_eq_true rfl) (Nat.le_of_ble_eq_true rfl) ⟨by omega, by omega⟩ ⟨by omega, by omega⟩ ?_
      refine wp_istore dL_areCrewsRight_65 (Nat.le_of_ble_eq_true rfl) rfl ?_
      change WP G mL_areCrewsRight _ _ _ _ h_59 N 67 [some (.ref (cB G)), some (.ref (cB G + 210)), some (JV (acc : Int)), some (JV (c : Int)), some (JV (max y (onF (ldg S s.1 s.2.1 s.2.2.1) c d))), some (JV d)] []
      refine wp_iinc dL_areCrewsRight_67 rfl (Nat.le_of_ble_eq_true rfl) rfl ?_
      change WP G mL_areCrewsRight _ _ _ _ h_59 N 70 [some (.ref (cB G)), some (.ref (cB G + 210)), some (JV (acc : Int)), some (JV (c : Int)), some (JV (max y (onF (ldg S s.1 s.2.1 s.2.2.1) c d))), some (JV (d + 1))] []
      refine wp_goto 39 dL_areCrewsRight_70 (by decide) ?_
      exact ih (max y (onF (ldg S s.1 s.2.1 s.2.2.1) c d)) (d + 1) _ (by omega) ⟨by omega, by omega⟩ (by omega) (by omega) sp_59
theorem ac_73 (pl : PL S eb ee lb le rm ld s) {c : Nat} (hc : c < 3) (sp : SPI G h S 0 K) {acc : Nat} (ha : acc ≤ 1) (hacc : acc = 0 → ∀ t : Nat, (t : Int) < S 13 0 0 → S 9 t 0 = 0) {g : Nat → Int} (hg : K.1 (cB G + 210) = some (eI G 3 g)) (hgs : ∀ c, c < 3 → g c = S 3 c 0) {y d : Int} (hy0 : 0 ≤ y) (hyp : y ≤ grt (ldg S s.1 s.2.1 s.2.2.1 c) 5000 0 0) (kk28 : ∀ h1 : AH, SPI G h1 S 0 K → WP G mL_areCrewsRight Q X k9 n9 h1 N 28 [some (.ref (cB G)), some (.ref (cB G + 210)), some (JV (acc : Int)), some (JV ((c : Int) + 1)), some (JV y), some (JV d)] []) : WP G mL_areCrewsRight Q X k9 n9 h N 73 [some (.ref (cB G)), some (.ref (cB G + 210)), some (JV (acc : Int)), some (JV (c : Int)), some (JV y), some (JV d)] [] := by
  have w := sp.2.2.1
  have tp := sp.2.2.2.1
  have wT := w.nT
  have gf := pl.gf w tp
  have hL0 := gf.2.1
  have hD0 := gf.1
  clear gf
  have wc := w.crew (c := c) (by omega)
  have hgc := hgs c hc
  have cf := pl.cf w tp (c := c) (by omega)
  have cp := cf.2.1
  have ci := cf.2.2.2.1
  have co := cf.2.2.2.2
  have cn : acc = 0 → grt (ldg S s.1 s.2.1 s.2.2.1 c) 5000 0 0 ≤ S 3 c 0 := fun e => cf.2.2.1 (hacc e)
  clear cf
  have cm : 0 ≤ S 3 c 0 * s.2.2.2.2.2 ∧ S 3 c 0 * s.2.2.2.2.2 ≤ 44856 := ⟨Int.mul_nonneg (by omega) (by omega), by
    have a1 := Int.mul_le_mul_of_nonneg_right (show S 3 c 0 ≤ 9 by omega) (show 0 ≤ s.2.2.2.2.2 by omega)
    omega⟩
  refine wp_iload dL_areCrewsRight_73 rfl ?_
  refine wp_aload_n dL_areCrewsRight_75 rfl ?_
  refine wp_iload_n dL_areCrewsRight_76 rfl ?_
  refine wp_v1 k9 n9 (g_peak (N := N) pl sp (c := c) (by omega)) cvL_166 dL_areCrewsRight_77 ⟨Nat.le_of_ble_eq_true rfl, Nat.le_of_ble_eq_true rfl⟩ (Nat.le_of_ble_eq_true rfl) sp.1 rfl rfl (by omega) (by omega) (fun r_77 h_77 N_77 hq_77 => ?_)
  obtain ⟨rfl, hN_77, sp_77⟩ := hq_77
  rw [hN_77]
  change WP G mL_areCrewsRight _ _ _ _ h_77 N 80 [some (.ref (cB G)), some (.ref (cB G + 210)), some (JV (acc : Int)), some (JV (c : Int)), some (JV y), some (JV d)] [JV (grt (ldg S s.1 s.2.1 s.2.2.1 c) 5000 0 0), JV y]
  refine wp_icmp_gt 134 dL_areCrewsRight_80 (by decide) ⟨by omega, by omega⟩ ⟨by omega, by omega⟩ (fun c_80 => ?_) (fun c_80 => ?_)
  · exfalso
    omega
  · refine wp_iload_n dL_areCrewsRight_83 rfl ?_
    refine wp_if_ne 98 dL_areCrewsRight_84 (by decide) ⟨by omega, by omega⟩ (fun c_84 => ?_) (fun c_84 => ?_)
    · refine wp_aload_n dL_areCrewsRight_98 rfl ?_
      refine wp_iload_n dL_areCrewsRight_99 rfl ?_
      refine wp_v1 k9 n9 (g_idle (N := N) pl sp_77 (c := c) (by omega)) cvL_169 dL_areCrewsRight_100 ⟨Nat.le_of_ble_eq_true rfl, Nat.le_of_ble_eq_true rfl⟩ (Nat.le_of_ble_eq_true rfl) sp_77.1 rfl rfl (by omega) (by omega) (fun r_100 h_100 N_100 hq_100 => ?_)
      obtain ⟨rfl, hN_100, sp_100⟩ := hq_100
      rw [hN_100]
      change WP G mL_areCrewsRight _ _ _ _ h_100 N 103 [some (.ref (cB G)), some (.ref (cB G + 210)), some (JV (acc : Int)), some (JV (c : Int)), some (JV y), some (JV d)] [JV (lov (ldg S s.1 s.2.1 s.2.2.1) c (S 3 c 0) s.2.2.2.2.2.toNat 0)]
      refine wp_if_lt 134 dL_areCrewsRight_103 (by decide) ⟨by omega, by omega⟩ (fun c_103 => ?_) (fun c_103 => ?_)
      · exfalso
        omega
      · refine wp_aload_n dL_areCrewsRight_106 rfl ?_
        refine wp_iload_n dL_areCrewsRight_107 rfl ?_
        refine wp_v1 k9 n9 (g_idle (N := N) pl sp_100 (c := c) (by omega)) cvL_169 dL_areCrewsRight_108 ⟨Nat.le_of_ble_eq_true rfl, Nat.le_of_ble_eq_true rfl⟩ (Nat.le_of_ble_eq_true rfl) sp_100.1 rfl rfl (by omega) (by omega) (fun r_108 h_108 N_108 hq_108 => ?_)
        obtain ⟨rfl, hN_108, sp_108⟩ := hq_108
        rw [hN_108]
        change WP G mL_areCrewsRight _ _ _ _ h_108 N 111 [some (.ref (cB G)), some (.ref (cB G + 210)), some (JV (acc : Int)), some (JV (c : Int)), some (JV y), some (JV d)] [JV (lov (ldg S s.1 s.2.1 s.2.2.1) c (S 3 c 0) s.2.2.2.2.2.toNat 0)]
        refine wp_aload_n dL_areCrewsRight_111 rfl ?_
        refine wp_iload_n dL_areCrewsRight_112 rfl ?_
        refine wp_iaload dL_areCrewsRight_113 ((sp_108.gh _ (by omega)).trans hg) (by omega) (by omega) (by omega) ?_
        change WP G mL_areCrewsRight _ _ _ _ h_108 N 114 [some (.ref (cB G)), some (.ref (cB G + 210)), some (JV (acc : Int)), some (JV (c : Int)), some (JV y), some (JV d)] [JV (g c), JV (lov (ldg S s.1 s.2.1 s.2.2.1) c (S 3 c 0) s.2.2.2.2.2.toNat 0)]
        rw [hgc]
        refine wp_aload_n dL_areCrewsRight_114 rfl ?_
        refine wp_v0 k9 n9 (g_levelledLast (N := N) pl sp_108) cvL_140 dL_areCrewsRight_115 ⟨Nat.le_of_ble_eq_true rfl, Nat.le_of_ble_eq_true rfl⟩ (Nat.le_of_ble_eq_true rfl) sp_108.1 rfl rfl (by omega) (by omega) (fun r_115 h_115 N_115 hq_115 => ?_)
        obtain ⟨rfl, hN_115, sp_115⟩ := hq_115
        rw [hN_115]
        change WP G mL_areCrewsRight _ _ _ _ h_115 N 118 [some (.ref (cB G)), some (.ref (cB G + 210)), some (JV (acc : Int)), some (JV (c : Int)), some (JV y), some (JV d)] [JV s.2.2.2.2.2, JV (S 3 c 0), JV (lov (ldg S s.1 s.2.1 s.2.2.1) c (S 3 c 0) s.2.2.2.2.2.toNat 0)]
        refine wp_imul dL_areCrewsRight_118 ?_
        refine wp_icmp_gt 134 dL_areCrewsRight_119 (by decide) ⟨by omega, by omega⟩ ⟨by omega, by omega⟩ (fun c_119 => ?_) (fun c_119 => ?_)
        · exfalso
          omega
        · refine wp_aload_n dL_areCrewsRight_122 rfl ?_
          refine wp_iload_n dL_areCrewsRight_123 rfl ?_
          refine wp_v1 k9 n9 (g_overloaded (N := N) pl sp_115 (c := c) (by omega)) cvL_172 dL_areCrewsRight_124 ⟨Nat.le_of_ble_eq_true rfl, Nat.le_of_ble_eq_true rfl⟩ (Nat.le_of_ble_eq_true rfl) sp_115.1 rfl rfl (by omega) (by omega) (fun r_124 h_124 N_124 hq_124 => ?_)
          obtain ⟨rfl, hN_124, sp_124⟩ := hq_124
          rw [hN_124]
          change WP G mL_areCrewsRight _ _ _ _ h_124 N 127 [some (.ref (cB G)), some (.ref (cB G + 210)), some (JV (acc : Int)), some (JV (c : Int)), some (JV y), some (JV d)] [JV (dab (ldg S eb ee (inT S) c) (S 3 c 0) 5000 0)]
          refine wp_aload_n dL_areCrewsRight_127 rfl ?_
          refine wp_v0 k9 n9 (g_last (N := N) pl sp_124) cvL_131 dL_areCrewsRight_128 ⟨Nat.le_of_ble_eq_true rfl, Nat.le_of_ble_eq_true rfl⟩ (Nat.le_of_ble_eq_true rfl) sp_124.1 rfl rfl (by omega) (by omega) (fun r_128 h_128 N_128 hq_128 => ?_)
          obtain ⟨rfl, hN_128, sp_128⟩ := hq_128
          rw [hN_128]
          change WP G mL_areCrewsRight _ _ _ _ h_128 N 131 [some (.ref (cB G)), some (.ref (cB G + 210)), some (JV (acc : Int)), some (JV (c : Int)), some (JV y), some (JV d)] [JV ld, JV (dab (ldg S eb ee (inT S) c) (S 3 c 0) 5000 0)]
          refine wp_icmp_le 136 dL_areCrewsRight_131 (by decide) ⟨by omega, by omega⟩ ⟨by omega, by omega⟩ (fun c_131 => ?_) (fun c_131 => ?_)
          · refine wp_iinc dL_areCrewsRight_136 rfl (Nat.le_of_ble_eq_true rfl) rfl ?_
            change WP G mL_areCrewsRight _ _ _ _ h_128 N 139 [some (.ref (cB G)), some (.ref (cB G + 210)), some (JV (acc : Int)), some (JV ((c : Int) + 1)), some (JV y), some (JV d)] []
            refine wp_goto 28 dL_areCrewsRight_139 (by decide) ?_
            exact kk28 _ sp_128
          · exfalso
            omega
    · refine wp_aload_n dL_areCrewsRight_87 rfl ?_
      refine wp_iload_n dL_areCrewsRight_88 rfl ?_
      refine wp_v1 k9 n9 (g_peak (N := N) pl sp_77 (c := c) (by omega)) cvL_166 dL_areCrewsRight_89 ⟨Nat.le_of_ble_eq_true rfl, Nat.le_of_ble_eq_true rfl⟩ (Nat.le_of_ble_eq_true rfl) sp_77.1 rfl rfl (by omega) (by omega) (fun r_89 h_89 N_89 hq_89 => ?_)
      obtain ⟨rfl, hN_89, sp_89⟩ := hq_89
      rw [hN_89]
      change WP G mL_areCrewsRight _ _ _ _ h_89 N 92 [some (.ref (cB G)), some (.ref (cB G + 210)), some (JV (acc : Int)), some (JV (c : Int)), some (JV y), some (JV d)] [JV (grt (ldg S s.1 s.2.1 s.2.2.1 c) 5000 0 0)]
      refine wp_aload_n dL_areCrewsRight_92 rfl ?_
      refine wp_iload_n dL_areCrewsRight_93 rfl ?_
      refine wp_iaload dL_areCrewsRight_94 ((sp_89.gh _ (by omega)).trans hg) (by omega) (by omega) (by omega) ?_
      change WP G mL_areCrewsRight _ _ _ _ h_89 N 95 [some (.ref (cB G)), some (.ref (cB G + 210)), some (JV (acc : Int)), some (JV (c : Int)), some (JV y), some (JV d)] [JV (g c), JV (grt (ldg S s.1 s.2.1 s.2.2.1 c) 5000 0 0)]
      rw [hgc]
      refine wp_icmp_gt 134 dL_areCrewsRight_95 (by decide) ⟨by omega, by omega⟩ ⟨by omega, by omega⟩ (fun c_95 => ?_) (fun c_95 => ?_)
      · exfalso
        omega
      · refine wp_aload_n dL_areCrewsRight_98 rfl ?_
        refine wp_iload_n dL_areCrewsRight_99 rfl ?_
        refine wp_v1 k9 n9 (g_idle (N := N) pl sp_89 (c := c) (by omega)) cvL_169 dL_areCrewsRight_100 ⟨Nat.le_of_ble_eq_true rfl, Nat.le_of_ble_eq_true rfl⟩ (Nat.le_of_ble_eq_true rfl) sp_89.1 rfl rfl (by omega) (by omega) (fun r_100 h_100 N_100 hq_100 => ?_)
        obtain ⟨rfl, hN_100, sp_100⟩ := hq_100
        rw [hN_100]
        change WP G mL_areCrewsRight _ _ _ _ h_100 N 103 [some (.ref (cB G)), some (.ref (cB G + 210)), some (JV (acc : Int)), some (JV (c : Int)), some (JV y), some (JV d)] [JV (lov (ldg S s.1 s.2.1 s.2.2.1) c (S 3 c 0) s.2.2.2.2.2.toNat 0)]
        refine wp_if_lt 134 dL_areCrewsRight_103 (by decide) ⟨by omega, by omega⟩ (fun c_103 => ?_) (fun c_103 => ?_)
        · exfalso
          omega
        · refine wp_aload_n dL_areCrewsRight_106 rfl ?_
          refine wp_iload_n dL_areCrewsRight_107 rfl ?_
          refine wp_v1 k9 n9 (g_idle (N := N) pl sp_100 (c := c) (by omega)) cvL_169 dL_areCrewsRight_108 ⟨Nat.le_of_ble_eq_true rfl, Nat.le_of_ble_eq_true rfl⟩ (Nat.le_of_ble_eq_true rfl) sp_100.1 rfl rfl (by omega) (by omega) (fun r_108 h_108 N_108 hq_108 => ?_)
          obtain ⟨rfl, hN_108, sp_108⟩ := hq_108
          rw [hN_108]
          change WP G mL_areCrewsRight _ _ _ _ h_108 N 111 [some (.ref (cB G)), some (.ref (cB G + 210)), some (JV (acc : Int)), some (JV (c : Int)), some (JV y), some (JV d)] [JV (lov (ldg S s.1 s.2.1 s.2.2.1) c (S 3 c 0) s.2.2.2.2.2.toNat 0)]
          refine wp_aload_n dL_areCrewsRight_111 rfl ?_
          refine wp_iload_n dL_areCrewsRight_112 rfl ?_
          refine wp_iaload dL_areCrewsRight_113 ((sp_108.gh _ (by omega)).trans hg) (by omega) (by omega) (by omega) ?_
          change WP G mL_areCrewsRight _ _ _ _ h_108 N 114 [some (.ref (cB G)), some (.ref (cB G + 210)), some (JV (acc : Int)), some (JV (c : Int)), some (JV y), some (JV d)] [JV (g c), JV (lov (ldg S s.1 s.2.1 s.2.2.1) c (S 3 c 0) s.2.2.2.2.2.toNat 0)]
          rw [hgc]
          refine wp_aload_n dL_areCrewsRight_114 rfl ?_
          refine wp_v0 k9 n9 (g_levelledLast (N := N) pl sp_108) cvL_140 dL_areCrewsRight_115 ⟨Nat.le_of_ble_eq_true rfl, Nat.le_of_ble_eq_true rfl⟩ (Nat.le_of_ble_eq_true rfl) sp_108.1 rfl rfl (by omega) (by omega) (fun r_115 h_115 N_115 hq_115 => ?_)
          obtain ⟨rfl, hN_115, sp_115⟩ := hq_115
          rw [hN_115]
          change WP G mL_areCrewsRight _ _ _ _ h_115 N 118 [some (.ref (cB G)), some (.ref (cB G + 210)), some (JV (acc : Int)), some (JV (c : Int)), some (JV y), some (JV d)] [JV s.2.2.2.2.2, JV (S 3 c 0), JV (lov (ldg S s.1 s.2.1 s.2.2.1) c (S 3 c 0) s.2.2.2.2.2.toNat 0)]
          refine wp_imul dL_areCrewsRight_118 ?_
          refine wp_icmp_gt 134 dL_areCrewsRight_119 (by decide) ⟨by omega, by omega⟩ ⟨by omega, by omega⟩ (fun c_119 => ?_) (fun c_119 => ?_)
          · exfalso
            omega
          · refine wp_aload_n dL_areCrewsRight_122 rfl ?_
            refine wp_iload_n dL_areCrewsRight_123 rfl ?_
            refine wp_v1 k9 n9 (g_overloaded (N := N) pl sp_115 (c := c) (by omega)) cvL_172 dL_areCrewsRight_124 ⟨Nat.le_of_ble_eq_true rfl, Nat.le_of_ble_eq_true rfl⟩ (Nat.le_of_ble_eq_true rfl) sp_115.1 rfl rfl (by omega) (by omega) (fun r_124 h_124 N_124 hq_124 => ?_)
            obtain ⟨rfl, hN_124, sp_124⟩ := hq_124
            rw [hN_124]
            change WP G mL_areCrewsRight _ _ _ _ h_124 N 127 [some (.ref (cB G)), some (.ref (cB G + 210)), some (JV (acc : Int)), some (JV (c : Int)), some (JV y), some (JV d)] [JV (dab (ldg S eb ee (inT S) c) (S 3 c 0) 5000 0)]
            refine wp_aload_n dL_areCrewsRight_127 rfl ?_
            refine wp_v0 k9 n9 (g_last (N := N) pl sp_124) cvL_131 dL_areCrewsRight_128 ⟨Nat.le_of_ble_eq_true rfl, Nat.le_of_ble_eq_true rfl⟩ (Nat.le_of_ble_eq_true rfl) sp_124.1 rfl rfl (by omega) (by omega) (fun r_128 h_128 N_128 hq_128 => ?_)
            obtain ⟨rfl, hN_128, sp_128⟩ := hq_128
            rw [hN_128]
            change WP G mL_areCrewsRight _ _ _ _ h_128 N 131 [some (.ref (cB G)), some (.ref (cB G + 210)), some (JV (acc : Int)), some (JV (c : Int)), some (JV y), some (JV d)] [JV ld, JV (dab (ldg S eb ee (inT S) c) (S 3 c 0) 5000 0)]
            refine wp_icmp_le 136 dL_areCrewsRight_131 (by decide) ⟨by omega, by omega⟩ ⟨by omega, by omega⟩ (fun c_131 => ?_) (fun c_131 => ?_)
            · refine wp_iinc dL_areCrewsRight_136 rfl (Nat.le_of_ble_eq_true rfl) rfl ?_
              change WP G mL_areCrewsRight _ _ _ _ h_128 N 139 [some (.ref (cB G)), some (.ref (cB G + 210)), some (JV (acc : Int)), some (JV ((c : Int) + 1)), some (JV y), some (JV d)] []
              refine wp_goto 28 dL_areCrewsRight_139 (by decide) ?_
              exact kk28 _ sp_128
            · exfalso
              omega

theorem ac_loop (pl : PL S eb ee lb le rm ld s) (w : WF S) (tp : TOP S) {acc : Nat} (ha : acc ≤ 1) (hacc : acc = 0 → ∀ t : Nat, (t : Int) < S 13 0 0 → S 9 t 0 = 0) {g : Nat → Int} (hg : K.1 (cB G + 210) = some (eI G 3 g)) (hgs : ∀ c, c < 3 → g c = S 3 c 0) (hQ : ∀ h1 : AH, SPI G h1 S 0 K → Q (some (JV 1)) h1 N) : ∀ (m c : Nat) (x4 x5 : Option Value) (h : AH), 3 - c = m → c ≤ 3 → SPI G h S 0 K → WP G mL_areCrewsRight Q X k9 n9 h N 28 [some (.ref (cB G)), some (.ref (cB G + 210)), some (JV (acc : Int)), some (JV (c : Int)), x4, x5] [] := by
  intro m
  induction m with
  | zero =>
    intro c x4 x5 h hm hc sp
    refine wp_iload_n dL_areCrewsRight_28 rfl ?_
    refine wp_iconst dL_areCrewsRight_29 ?_
    refine wp_icmp_ge 142 dL_areCrewsRight_30 (by decide) ⟨by omega, by omega⟩ ⟨by omega, by omega⟩ (fun c_30 => ?_) (fun c_30 => ?_)
    · refine wp_iconst dL_areCrewsRight_142 ?_
      refine wp_zret dL_areCrewsRight_143 rfl (Or.inr rfl) ?_
      exact hQ h sp
    · exfalso; omega
  | succ m ih =>
    intro c x4 x5 h hm hc sp
    refine wp_iload_n dL_areCrewsRight_28 rfl ?_
    refine wp_iconst dL_areCrewsRight_29 ?_
    refine wp_icmp_ge 142 dL_areCrewsRight_30 (by decide) ⟨by omega, by omega⟩ ⟨by omega, by omega⟩ (fun c_30 => ?_) (fun c_30 => ?_)
    · exfalso; omega
    · have hc3 : c < 3 := by omega
      refine wp_iconst dL_areCrewsRight_33 ?_
      refine wp_istore dL_areCrewsRight_34 (Nat.le_of_ble_eq_true rfl) rfl ?_
      refine wp_iconst dL_areCrewsRight_36 ?_
      refine wp_istore dL_areCrewsRight_37 (Nat.le_of_ble_eq_true rfl) rfl ?_
      change WP G mL_areCrewsRight _ _ _ _ h N 39 [some (.ref (cB G)), some (.ref (cB G + 210)), some (JV (acc : Int)), some (JV (c : Int)), some (JV 0), some (JV 0)] []
      refine ac_days pl hc3 w tp (fun h1 y d sp1 hy0 hyp => ?_) 40 0 0 h rfl ⟨by omega, by omega⟩ (Int.le_refl _) (pl.cf w tp (c := c) (by omega)).2.1.1 sp
      refine ac_73 pl hc3 sp1 ha hacc hg hgs hy0 hyp (fun h2 sp2 => ?_)
      exact ih (c + 1) _ _ h2 (by omega) (by omega) sp2
theorem L_areCrewsRight (pl : PL S eb ee lb le rm ld s) (sp : SPI G h S 0 K) (db : DBE S) {g : Nat → Int} (hg : K.1 (cB G + 210) = some (eI G 3 g)) (hgs : ∀ c, c < 3 → g c = S 3 c 0) : CT G mL_areCrewsRight [.ref (cB G), .ref (cB G + 210)] h N 0 0 (GQ G S K N (JV 1)) := by
  have w := sp.2.2.1
  have tp := sp.2.2.2.1
  have wT := w.nT
  refine CT_of (by decide +kernel) rfl (by simp [Value.category]) (Nat.le_of_ble_eq_true rfl) ?_
  change WP G mL_areCrewsRight _ noX _ _ h N 0 [some (.ref (cB G)), some (.ref (cB G + 210)), none, none, none, none] []
  refine wp_iconst dL_areCrewsRight_0 ?_
  refine wp_istore_n dL_areCrewsRight_1 (Nat.le_of_ble_eq_true rfl) rfl ?_
  refine wp_iconst dL_areCrewsRight_2 ?_
  refine wp_istore_n dL_areCrewsRight_3 (Nat.le_of_ble_eq_true rfl) rfl ?_
  refine ac_done pl db w (fun h1 acc x3 x4 x5 sp1 ha hacc => ?_) (S 13 0 0).toNat 0 0 none none h (by omega) (by omega) (by omega) (fun _ x hx => absurd hx (by omega)) sp
  refine wp_iconst dL_areCrewsRight_26 ?_
  refine wp_istore_n dL_areCrewsRight_27 (Nat.le_of_ble_eq_true rfl) rfl ?_
  exact ac_loop pl w tp ha hacc hg hgs (fun h2 sp2 => ⟨rfl, rfl, sp2⟩) 3 0 _ _ h1 rfl (by omega) sp1
end Acr

/-! ===== the law: are the links right? ===== -/
section Alr
variable {G : Ctx} {h : AH} {N : Nat} {S : ST} {K : KTup} {eb ee lb le rm : Nat → Int} {ld : Int} {s : LState} {Q : PQ} {X : PX} {k9 n9 : Nat}
/-- of a link, kind by kind -/
theorem PL.lfk (w : WF S) (tp : TOP S) (pl : PL S eb ee lb le rm ld s) {k p q : Nat} (hk : (k : Int) < S 14 0 0) (hp : lF S k = (p : Int)) (hq : lT S k = (q : Int)) (h9 : S 9 q 0 = 0) :
    ((0 ≤ lK S k ∧ lK S k ≤ 2) ∧ 0 ≤ lG S k ∧ lG S k ≤ 20) ∧
    (S 9 p 0 = 0 → eb p < lb p → (lK S k = 1 → lb p + lG S k ≤ lb q) ∧ (lK S k = 2 → le p + lG S k ≤ le q) ∧ (lK S k = 0 → le p + lG S k ≤ lb q)) ∧
    ((lK S k = 1 → eb p + lG S k ≤ eb q) ∧ (lK S k = 2 → ee p + lG S k ≤ ee q) ∧ (lK S k = 0 → ee p + lG S k ≤ eb q)) ∧
    (s.2.2.1 q = 1 → s.2.2.1 p = 1 ∧ (lK S k = 1 → s.1 p + lG S k ≤ s.1 q) ∧ (lK S k = 2 → s.2.1 p + lG S k ≤ s.2.1 q) ∧ (lK S k = 0 → s.2.1 p + lG S k ≤ s.1 q)) := by
  obtain ⟨a, b, c, d⟩ := pl.lf w tp hk hp hq h9
  have sp1 : ∀ {x y u v : Int}, (if lK S k = 1 then x else y) + lG S k ≤ (if lK S k = 2 then u else v) → (lK S k = 1 → x + lG S k ≤ v) ∧ (lK S k = 2 → y + lG S k ≤ u) ∧ (lK S k = 0 → y + lG S k ≤ v) := fun {x y u v} z => by
    refine ⟨fun e => ?_, fun e => ?_, fun e => ?_⟩
    · rw [if_pos e, if_neg (by omega)] at z; exact z
    · rw [if_neg (by omega), if_pos e] at z; exact z
    · rw [if_neg (by omega), if_neg (by omega)] at z; exact z
  exact ⟨a, fun h1 h2 => sp1 (b h1 h2), sp1 c, fun h1 => ⟨(d h1).1, sp1 (d h1).2⟩⟩
theorem al_10 (pl : PL S eb ee lb le rm ld s) (db : DBE S) (sp : SPI G h S 0 K) {k p q : Nat} (hk : (k : Int) < S 14 0 0) (hp : lF S k = (p : Int)) (hq : lT S k = (q : Int)) (hp9 : (p : Int) < S 13 0 0) (hq9 : (q : Int) < S 13 0 0) {L : Nat → Nat} (hO : K.1 (cB G + 169) = some (eQ G 4 40 (fun i => if i < 40 then some (L i) else none))) (hLk : cB G + 169 ≤ L k) {f : Nat → Int} (hR : K.1 (L k) = some (eI G 4 f)) (f0 : f 0 = (p : Int)) (f1 : f 1 = (q : Int)) (f2 : f 2 = lK S k) (f3 : f 3 = lG S k) {x3 x4 x5 x6 x7 : Option Value} (kk259 : ∀ (h1 : AH) (y5 y6 y7 : Option Value), SPI G h1 S 0 K → WP G mL_areLinksRight Q X k9 n9 h1 N 259 [some (.ref (cB G)), some (.ref (cB G + 169)), some (JV (k : Int)), some (JV (p : Int)), some (JV (q : Int)), y5, y6, y7] []) (kk35 : ∀ (h1 : AH), SPI G h1 S 0 K → S 9 q 0 = 0 → WP G mL_areLinksRight Q X k9 n9 h1 N 35 [some (.ref (cB G)), some (.ref (cB G + 169)), some (JV (k : Int)), some (JV (p : Int)), some (JV (q : Int)), x5, x6, x7] []) : WP G mL_areLinksRight Q X k9 n9 h N 10 [some (.ref (cB G)), some (.ref (cB G + 169)), some (JV (k : Int)), x3, x4, x5, x6, x7] [] := by
  have w := sp.2.2.1
  have tp := sp.2.2.2.1
  have wT := w.nT
  have wL := w.nL
  have gf := (pl.gf w tp).1
  have tfq := pl.tf w tp db hq9
  have bq1 := tfq.1
  have bq2 : (S 9 q 0 = 0 ∨ S 9 q 0 = 1) ∧ (-1 ≤ s.1 q ∧ s.1 q ≤ 20000) ∧ -1 ≤ s.2.1 q ∧ s.2.1 q ≤ 20000 := by
    have gf := pl.gf w tp
    obtain ⟨-, ⟨a1, a2, a3, a4, a5, a6⟩, -⟩ := tfq
    refine ⟨a2, ?_⟩
    rcases a1 with z | z
    · have := a4 z; omega
    · have := a3 z; omega
  clear tfq
  refine wp_aload_n dL_areLinksRight_10 rfl ?_
  refine wp_iload_n dL_areLinksRight_11 rfl ?_
  refine wp_aaload dL_areLinksRight_12 ((sp.gh _ (by omega)).trans hO) rfl rfl (by omega) (by omega) (by omega) (if_pos (by omega)) ?_
  change WP G mL_areLinksRight _ _ _ _ h N 13 [some (.ref (cB G)), some (.ref (cB G + 169)), some (JV (k : Int)), x3, x4, x5, x6, x7] [.ref (L k)]
  refine wp_iconst dL_areLinksRight_13 ?_
  refine wp_iaload dL_areLinksRight_14 ((sp.gh _ (by omega)).trans hR) (by omega) (by omega) (by omega) ?_
  change WP G mL_areLinksRight _ _ _ _ h N 15 [some (.ref (cB G)), some (.ref (cB G + 169)), some (JV (k : Int)), x3, x4, x5, x6, x7] [JV (f 0)]
  rw [f0]
  refine wp_istore_n dL_areLinksRight_15 (Nat.le_of_ble_eq_true rfl) rfl ?_
  change WP G mL_areLinksRight _ _ _ _ h N 16 [some (.ref (cB G)), some (.ref (cB G + 169)), some (JV (k : Int)), some (JV (p : Int)), x4, x5, x6, x7] []
  refine wp_aload_n dL_areLinksRight_16 rfl ?_
  refine wp_iload_n dL_areLinksRight_17 rfl ?_
  refine wp_aaload dL_areLinksRight_18 ((sp.gh _ (by omega)).trans hO) rfl rfl (by omega) (by omega) (by omega) (if_pos (by omega)) ?_
  change WP G mL_areLinksRight _ _ _ _ h N 19 [some (.ref (cB G)), some (.ref (cB G + 169)), some (JV (k : Int)), some (JV (p : Int)), x4, x5, x6, x7] [.ref (L k)]
  refine wp_iconst dL_areLinksRight_19 ?_
  refine wp_iaload dL_areLinksRight_20 ((sp.gh _ (by omega)).trans hR) (by omega) (by omega) (by omega) ?_
  change WP G mL_areLinksRight _ _ _ _ h N 21 [some (.ref (cB G)), some (.ref (cB G + 169)), some (JV (k : Int)), some (JV (p : Int)), x4, x5, x6, x7] [JV (f 1)]
  rw [f1]
  refine wp_istore dL_areLinksRight_21 (Nat.le_of_ble_eq_true rfl) rfl ?_
  change WP G mL_areLinksRight _ _ _ _ h N 23 [some (.ref (cB G)), some (.ref (cB G + 169)), some (JV (k : Int)), some (JV (p : Int)), some (JV (q : Int)), x5, x6, x7] []
  refine wp_aload_n dL_areLinksRight_23 rfl ?_
  refine wp_iload dL_areLinksRight_24 rfl ?_
  refine wp_s2 k9 n9 (L_isDone (N := N) pl sp db hq9) csL_118 dL_areLinksRight_26 ⟨Nat.le_of_ble_eq_true rfl, Nat.le_of_ble_eq_true rfl⟩ (Nat.le_of_ble_eq_true rfl) (by omega) (by omega) (fun r_26 h_26 N_26 hq_26 => ?_)
  obtain ⟨rfl, hN_26, sp_26⟩ := hq_26
  rw [hN_26]
  change WP G mL_areLinksRight _ _ _ _ h_26 N 29 [some (.ref (cB G)), some (.ref (cB G + 169)), some (JV (k : Int)), some (JV (p : Int)), some (JV (q : Int)), x5, x6, x7] [JV (S 9 q 0)]
  refine wp_if_eq 35 dL_areLinksRight_29 (by decide) ⟨by omega, by omega⟩ (fun c_29 => ?_) (fun c_29 => ?_)
  · exact kk35 _ sp_26 (by omega)
  · refine wp_goto 259 dL_areLinksRight_32 (by decide) ?_
    exact kk259 _ _ _ _ sp_26

theorem al_35 (pl : PL S eb ee lb le rm ld s) (db : DBE S) (sp : SPI G h S 0 K) {k p q : Nat} (hk : (k : Int) < S 14 0 0) (hp : lF S k = (p : Int)) (hq : lT S k = (q : Int)) (hp9 : (p : Int) < S 13 0 0) (hq9 : (q : Int) < S 13 0 0) {L : Nat → Nat} (hO : K.1 (cB G + 169) = some (eQ G 4 40 (fun i => if i < 40 then some (L i) else none))) (hLk : cB G + 169 ≤ L k) {f : Nat → Int} (hR : K.1 (L k) = some (eI G 4 f)) (f0 : f 0 = (p : Int)) (f1 : f 1 = (q : Int)) (f2 : f 2 = lK S k) (f3 : f 3 = lG S k) (h9 : S 9 q 0 = 0) {x5 x6 x7 : Option Value} (kk59 : ∀ (h1 : AH) (lt : Int), SPI G h1 S 0 K → (lK S k = 1 → lt = lb p) → (lK S k ≠ 1 → lt = le p) → WP G mL_areLinksRight Q X k9 n9 h1 N 59 [some (.ref (cB G)), some (.ref (cB G + 169)), some (JV (k : Int)), some (JV (p : Int)), some (JV (q : Int)), some (JV lt), x6, x7] []) : WP G mL_areLinksRight Q X k9 n9 h N 35 [some (.ref (cB G)), some (.ref (cB G + 169)), some (JV (k : Int)), some (JV (p : Int)), some (JV (q : Int)), x5, x6, x7] [] := by
  have w := sp.2.2.1
  have tp := sp.2.2.2.1
  have wT := w.nT
  have wL := w.nL
  have lf := pl.lfk w tp hk hp hq h9
  have lk := lf.1
  clear lf
  refine wp_aload_n dL_areLinksRight_35 rfl ?_
  refine wp_iload_n dL_areLinksRight_36 rfl ?_
  refine wp_aaload dL_areLinksRight_37 ((sp.gh _ (by omega)).trans hO) rfl rfl (by omega) (by omega) (by omega) (if_pos (by omega)) ?_
  change WP G mL_areLinksRight _ _ _ _ h N 38 [some (.ref (cB G)), some (.ref (cB G + 169)), some (JV (k : Int)), some (JV (p : Int)), some (JV (q : Int)), x5, x6, x7] [.ref (L k)]
  refine wp_iconst dL_areLinksRight_38 ?_
  refine wp_iaload dL_areLinksRight_39 ((sp.gh _ (by omega)).trans hR) (by omega) (by omega) (by omega) ?_
  change WP G mL_areLinksRight _ _ _ _ h N 40 [some (.ref (cB G)), some (.ref (cB G + 169)), some (JV (k : Int)), some (JV (p : Int)), some (JV (q : Int)), x5, x6, x7] [JV (f 2)]
  rw [f2]
  refine wp_iconst dL_areLinksRight_40 ?_
  refine wp_icmp_ne 52 dL_areLinksRight_41 (by decide) ⟨by omega, by omega⟩ ⟨by omega, by omega⟩ (fun c_41 => ?_) (fun c_41 => ?_)
  · refine wp_aload_n dL_areLinksRight_52 rfl ?_
    refine wp_iload_n dL_areLinksRight_53 rfl ?_
    refine wp_v1 k9 n9 (g_lateEnd (N := N) pl sp hp9) cvL_143 dL_areLinksRight_54 ⟨Nat.le_of_ble_eq_true rfl, Nat.le_of_ble_eq_true rfl⟩ (Nat.le_of_ble_eq_true rfl) sp.1 rfl rfl (by omega) (by omega) (fun r_54 h_54 N_54 hq_54 => ?_)
    obtain ⟨rfl, hN_54, sp_54⟩ := hq_54
    rw [hN_54]
    change WP G mL_areLinksRight _ _ _ _ h_54 N 57 [some (.ref (cB G)), some (.ref (cB G + 169)), some (JV (k : Int)), some (JV (p : Int)), some (JV (q : Int)), x5, x6, x7] [JV (le p)]
    refine wp_istore dL_areLinksRight_57 (Nat.le_of_ble_eq_true rfl) rfl ?_
    change WP G mL_areLinksRight _ _ _ _ h_54 N 59 [some (.ref (cB G)), some (.ref (cB G + 169)), some (JV (k : Int)), some (JV (p : Int)), some (JV (q : Int)), some (JV (le p)), x6, x7] []
    exact kk59 _ _ sp_54 (by omega) (by omega)
  · refine wp_aload_n dL_areLinksRight_44 rfl ?_
    refine wp_iload_n dL_areLinksRight_45 rfl ?_
    refine wp_v1 k9 n9 (g_lateBegin (N := N) pl sp hp9) cvL_128 dL_areLinksRight_46 ⟨Nat.le_of_ble_eq_true rfl, Nat.le_of_ble_eq_true rfl⟩ (Nat.le_of_ble_eq_true rfl) sp.1 rfl rfl (by omega) (by omega) (fun r_46 h_46 N_46 hq_46 => ?_)
    obtain ⟨rfl, hN_46, sp_46⟩ := hq_46
    rw [hN_46]
    change WP G mL_areLinksRight _ _ _ _ h_46 N 49 [some (.ref (cB G)), some (.ref (cB G + 169)), some (JV (k : Int)), some (JV (p : Int)), some (JV (q : Int)), x5, x6, x7] [JV (lb p)]
    refine wp_goto 57 dL_areLinksRight_49 (by decide) ?_
    refine wp_istore dL_areLinksRight_57 (Nat.le_of_ble_eq_true rfl) rfl ?_
    change WP G mL_areLinksRight _ _ _ _ h_46 N 59 [some (.ref (cB G)), some (.ref (cB G + 169)), some (JV (k : Int)), some (JV (p : Int)), some (JV (q : Int)), some (JV (lb p)), x6, x7] []
    exact kk59 _ _ sp_46 (by omega) (by omega)

theorem al_59 (pl : PL S eb ee lb le rm ld s) (db : DBE S) (sp : SPI G h S 0 K) {k p q : Nat} (hk : (k : Int) < S 14 0 0) (hp : lF S k = (p : Int)) (hq : lT S k = (q : Int)) (hp9 : (p : Int) < S 13 0 0) (hq9 : (q : Int) < S 13 0 0) {L : Nat → Nat} (hO : K.1 (cB G + 169) = some (eQ G 4 40 (fun i => if i < 40 then some (L i) else none))) (hLk : cB G + 169 ≤ L k) {f : Nat → Int} (hR : K.1 (L k) = some (eI G 4 f)) (f0 : f 0 = (p : Int)) (f1 : f 1 = (q : Int)) (f2 : f 2 = lK S k) (f3 : f 3 = lG S k) (h9 : S 9 q 0 = 0) {x6 x7 : Option Value} {lt : Int} (hlt1 : lK S k = 1 → lt = lb p) (hlt2 : lK S k ≠ 1 → lt = le p) (kk117 : ∀ (h1 : AH), SPI G h1 S 0 K → WP G mL_areLinksRight Q X k9 n9 h1 N 117 [some (.ref (cB G)), some (.ref (cB G + 169)), some (JV (k : Int)), some (JV (p : Int)), some (JV (q : Int)), some (JV lt), x6, x7] []) : WP G mL_areLinksRight Q X k9 n9 h N 59 [some (.ref (cB G)), some (.ref (cB G + 169)), some (JV (k : Int)), some (JV (p : Int)), some (JV (q : Int)), some (JV lt), x6, x7] [] := by
  have w := sp.2.2.1
  have tp := sp.2.2.2.1
  have wT := w.nT
  have wL := w.nL
  have gf := (pl.gf w tp).1
  have lf := pl.lfk w tp hk hp hq h9
  have lk := lf.1
  have tfp := pl.tf w tp db hp9
  have bp1 := tfp.1
  have bp2 : (S 9 p 0 = 0 ∨ S 9 p 0 = 1) ∧ (-1 ≤ s.1 p ∧ s.1 p ≤ 20000) ∧ -1 ≤ s.2.1 p ∧ s.2.1 p ≤ 20000 := by
    have gf := pl.gf w tp
    obtain ⟨-, ⟨a1, a2, a3, a4, a5, a6⟩, -⟩ := tfp
    refine ⟨a2, ?_⟩
    rcases a1 with z | z
    · have := a4 z; omega
    · have := a3 z; omega
  clear tfp
  have tfq := pl.tf w tp db hq9
  have bq1 := tfq.1
  have bq2 : (S 9 q 0 = 0 ∨ S 9 q 0 = 1) ∧ (-1 ≤ s.1 q ∧ s.1 q ≤ 20000) ∧ -1 ≤ s.2.1 q ∧ s.2.1 q ≤ 20000 := by
    have gf := pl.gf w tp
    obtain ⟨-, ⟨a1, a2, a3, a4, a5, a6⟩, -⟩ := tfq
    refine ⟨a2, ?_⟩
    rcases a1 with z | z
    · have := a4 z; omega
    · have := a3 z; omega
  clear tfq
  have g2 : S 9 p 0 = 0 → eb p < lb p → (lK S k = 2 → lt + lG S k ≤ le q) ∧ (lK S k ≠ 2 → lt + lG S k ≤ lb q) := fun a9 b9 => by
    have z := lf.2.1 a9 b9
    clear lf
    refine ⟨fun e => ?_, fun e => ?_⟩
    · rw [hlt2 (by omega)]; exact z.2.1 e
    · by_cases e1 : lK S k = 1
      · rw [hlt1 e1]; exact z.1 e1
      · rw [hlt2 e1]; exact z.2.2 (by omega)
  have bv : -1 ≤ lt ∧ lt ≤ 20000 := by
    clear g2 lf
    by_cases e1 : lK S k = 1
    · rw [hlt1 e1]; omega
    · rw [hlt2 e1]; omega
  clear lf hlt1 hlt2
  refine wp_aload_n dL_areLinksRight_59 rfl ?_
  refine wp_iload_n dL_areLinksRight_60 rfl ?_
  refine wp_s2 k9 n9 (L_isDone (N := N) pl sp db hp9) csL_118 dL_areLinksRight_61 ⟨Nat.le_of_ble_eq_true rfl, Nat.le_of_ble_eq_true rfl⟩ (Nat.le_of_ble_eq_true rfl) (by omega) (by omega) (fun r_61 h_61 N_61 hq_61 => ?_)
  obtain ⟨rfl, hN_61, sp_61⟩ := hq_61
  rw [hN_61]
  change WP G mL_areLinksRight _ _ _ _ h_61 N 64 [some (.ref (cB G)), some (.ref (cB G + 169)), some (JV (k : Int)), some (JV (p : Int)), some (JV (q : Int)), some (JV lt), x6, x7] [JV (S 9 p 0)]
  refine wp_if_ne 117 dL_areLinksRight_64 (by decide) ⟨by omega, by omega⟩ (fun c_64 => ?_) (fun c_64 => ?_)
  · exact kk117 _ sp_61
  · refine wp_aload_n dL_areLinksRight_67 rfl ?_
    refine wp_iload_n dL_areLinksRight_68 rfl ?_
    refine wp_v1 k9 n9 (g_lateBegin (N := N) pl sp_61 hp9) cvL_128 dL_areLinksRight_69 ⟨Nat.le_of_ble_eq_true rfl, Nat.le_of_ble_eq_true rfl⟩ (Nat.le_of_ble_eq_true rfl) sp_61.1 rfl rfl (by omega) (by omega) (fun r_69 h_69 N_69 hq_69 => ?_)
    obtain ⟨rfl, hN_69, sp_69⟩ := hq_69
    rw [hN_69]
    change WP G mL_areLinksRight _ _ _ _ h_69 N 72 [some (.ref (cB G)), some (.ref (cB G + 169)), some (JV (k : Int)), some (JV (p : Int)), some (JV (q : Int)), some (JV lt), x6, x7] [JV (lb p)]
    refine wp_aload_n dL_areLinksRight_72 rfl ?_
    refine wp_iload_n dL_areLinksRight_73 rfl ?_
    refine wp_v1 k9 n9 (g_earlyBegin (N := N) pl sp_69 hp9) cvL_125 dL_areLinksRight_74 ⟨Nat.le_of_ble_eq_true rfl, Nat.le_of_ble_eq_true rfl⟩ (Nat.le_of_ble_eq_true rfl) sp_69.1 rfl rfl (by omega) (by omega) (fun r_74 h_74 N_74 hq_74 => ?_)
    obtain ⟨rfl, hN_74, sp_74⟩ := hq_74
    rw [hN_74]
    change WP G mL_areLinksRight _ _ _ _ h_74 N 77 [some (.ref (cB G)), some (.ref (cB G + 169)), some (JV (k : Int)), some (JV (p : Int)), some (JV (q : Int)), some (JV lt), x6, x7] [JV (eb p), JV (lb p)]
    refine wp_icmp_le 117 dL_areLinksRight_77 (by decide) ⟨by omega, by omega⟩ ⟨by omega, by omega⟩ (fun c_77 => ?_) (fun c_77 => ?_)
    · exact kk117 _ sp_74
    · refine wp_aload_n dL_areLinksRight_80 rfl ?_
      refine wp_iload_n dL_areLinksRight_81 rfl ?_
      refine wp_aaload dL_areLinksRight_82 ((sp_74.gh _ (by omega)).trans hO) rfl rfl (by omega) (by omega) (by omega) (if_pos (by omega)) ?_
      change WP G mL_areLinksRight _ _ _ _ h_74 N 83 [some (.ref (cB G)), some (.ref (cB G + 169)), some (JV (k : Int)), some (JV (p : Int)), some (JV (q : Int)), some (JV lt), x6, x7] [.ref (L k)]
      refine wp_iconst dL_areLinksRight_83 ?_
      refine wp_iaload dL_areLinksRight_84 ((sp_74.gh _ (by omega)).trans hR) (by omega) (by omega) (by omega) ?_
      change WP G mL_areLinksRight _ _ _ _ h_74 N 85 [some (.ref (cB G)), some (.ref (cB G + 169)), some (JV (k : Int)), some (JV (p : Int)), some (JV (q : Int)), some (JV lt), x6, x7] [JV (f 2)]
      rw [f2]
      refine wp_iconst dL_areLinksRight_85 ?_
      refine wp_icmp_ne 98 dL_areLinksRight_86 (by decide) ⟨by omega, by omega⟩ ⟨by omega, by omega⟩ (fun c_86 => ?_) (fun c_86 => ?_)
      · refine wp_aload_n dL_areLinksRight_98 rfl ?_
        refine wp_iload dL_areLinksRight_99 rfl ?_
        refine wp_v1 k9 n9 (g_lateBegin (N := N) pl sp_74 hq9) cvL_128 dL_areLinksRight_101 ⟨Nat.le_of_ble_eq_true rfl, Nat.le_of_ble_eq_true rfl⟩ (Nat.le_of_ble_eq_true rfl) sp_74.1 rfl rfl (by omega) (by omega) (fun r_101 h_101 N_101 hq_101 => ?_)
        obtain ⟨rfl, hN_101, sp_101⟩ := hq_101
        rw [hN_101]
        change WP G mL_areLinksRight _ _ _ _ h_101 N 104 [some (.ref (cB G)), some (.ref (cB G + 169)), some (JV (k : Int)), some (JV (p : Int)), some (JV (q : Int)), some (JV lt), x6, x7] [JV (lb q)]
        refine wp_iload dL_areLinksRight_104 rfl ?_
        refine wp_aload_n dL_areLinksRight_106 rfl ?_
        refine wp_iload_n dL_areLinksRight_107 rfl ?_
        refine wp_aaload dL_areLinksRight_108 ((sp_101.gh _ (by omega)).trans hO) rfl rfl (by omega) (by omega) (by omega) (if_pos (by omega)) ?_
        change WP G mL_areLinksRight _ _ _ _ h_101 N 109 [some (.ref (cB G)), some (.ref (cB G + 169)), some (JV (k : Int)), some (JV (p : Int)), some (JV (q : Int)), some (JV lt), x6, x7] [.ref (L k), JV lt, JV (lb q)]
        refine wp_iconst dL_areLinksRight_109 ?_
        refine wp_iaload dL_areLinksRight_110 ((sp_101.gh _ (by omega)).trans hR) (by omega) (by omega) (by omega) ?_
        change WP G mL_areLinksRight _ _ _ _ h_101 N 111 [some (.ref (cB G)), some (.ref (cB G + 169)), some (JV (k : Int)), some (JV (p : Int)), some (JV (q : Int)), some (JV lt), x6, x7] [JV (f 3), JV lt, JV (lb q)]
        rw [f3]
        refine wp_iadd dL_areLinksRight_111 ?_
        refine wp_icmp_ge 117 dL_areLinksRight_112 (by decide) ⟨by omega, by omega⟩ ⟨by omega, by omega⟩ (fun c_112 => ?_) (fun c_112 => ?_)
        · exact kk117 _ sp_101
        · exfalso
          omega
      · refine wp_aload_n dL_areLinksRight_89 rfl ?_
        refine wp_iload dL_areLinksRight_90 rfl ?_
        refine wp_v1 k9 n9 (g_lateEnd (N := N) pl sp_74 hq9) cvL_143 dL_areLinksRight_92 ⟨Nat.le_of_ble_eq_true rfl, Nat.le_of_ble_eq_true rfl⟩ (Nat.le_of_ble_eq_true rfl) sp_74.1 rfl rfl (by omega) (by omega) (fun r_92 h_92 N_92 hq_92 => ?_)
        obtain ⟨rfl, hN_92, sp_92⟩ := hq_92
        rw [hN_92]
        change WP G mL_areLinksRight _ _ _ _ h_92 N 95 [some (.ref (cB G)), some (.ref (cB G + 169)), some (JV (k : Int)), some (JV (p : Int)), some (JV (q : Int)), some (JV lt), x6, x7] [JV (le q)]
        refine wp_goto 104 dL_areLinksRight_95 (by decide) ?_
        refine wp_iload dL_areLinksRight_104 rfl ?_
        refine wp_aload_n dL_areLinksRight_106 rfl ?_
        refine wp_iload_n dL_areLinksRight_107 rfl ?_
        refine wp_aaload dL_areLinksRight_108 ((sp_92.gh _ (by omega)).trans hO) rfl rfl (by omega) (by omega) (by omega) (if_pos (by omega)) ?_
        change WP G mL_areLinksRight _ _ _ _ h_92 N 109 [some (.ref (cB G)), some (.ref (cB G + 169)), some (JV (k : Int)), some (JV (p : Int)), some (JV (q : Int)), some (JV lt), x6, x7] [.ref (L k), JV lt, JV (le q)]
        refine wp_iconst dL_areLinksRight_109 ?_
        refine wp_iaload dL_areLinksRight_110 ((sp_92.gh _ (by omega)).trans hR) (by omega) (by omega) (by omega) ?_
        change WP G mL_areLinksRight _ _ _ _ h_92 N 111 [some (.ref (cB G)), some (.ref (cB G + 169)), some (JV (k : Int)), some (JV (p : Int)), some (JV (q : Int)), some (JV lt), x6, x7] [JV (f 3), JV lt, JV (le q)]
        rw [f3]
        refine wp_iadd dL_areLinksRight_111 ?_
        refine wp_icmp_ge 117 dL_areLinksRight_112 (by decide) ⟨by omega, by omega⟩ ⟨by omega, by omega⟩ (fun c_112 => ?_) (fun c_112 => ?_)
        · exact kk117 _ sp_92
        · exfalso
          omega

theorem al_117 (pl : PL S eb ee lb le rm ld s) (db : DBE S) (sp : SPI G h S 0 K) {k p q : Nat} (hk : (k : Int) < S 14 0 0) (hp : lF S k = (p : Int)) (hq : lT S k = (q : Int)) (hp9 : (p : Int) < S 13 0 0) (hq9 : (q : Int) < S 13 0 0) {L : Nat → Nat} (hO : K.1 (cB G + 169) = some (eQ G 4 40 (fun i => if i < 40 then some (L i) else none))) (hLk : cB G + 169 ≤ L k) {f : Nat → Int} (hR : K.1 (L k) = some (eI G 4 f)) (f0 : f 0 = (p : Int)) (f1 : f 1 = (q : Int)) (f2 : f 2 = lK S k) (f3 : f 3 = lG S k) (h9 : S 9 q 0 = 0) {lt : Int} {x6 x7 : Option Value} (kk141 : ∀ (h1 : AH) (et : Int), SPI G h1 S 0 K → (lK S k = 1 → et = eb p) → (lK S k ≠ 1 → et = ee p) → WP G mL_areLinksRight Q X k9 n9 h1 N 141 [some (.ref (cB G)), some (.ref (cB G + 169)), some (JV (k : Int)), some (JV (p : Int)), some (JV (q : Int)), some (JV lt), some (JV et), x7] []) : WP G mL_areLinksRight Q X k9 n9 h N 117 [some (.ref (cB G)), some (.ref (cB G + 169)), some (JV (k : Int)), some (JV (p : Int)), some (JV (q : Int)), some (JV lt), x6, x7] [] := by
  have w := sp.2.2.1
  have tp := sp.2.2.2.1
  have wT := w.nT
  have wL := w.nL
  have lf := pl.lfk w tp hk hp hq h9
  have lk := lf.1
  clear lf
  refine wp_aload_n dL_areLinksRight_117 rfl ?_
  refine wp_iload_n dL_areLinksRight_118 rfl ?_
  refine wp_aaload dL_areLinksRight_119 ((sp.gh _ (by omega)).trans hO) rfl rfl (by omega) (by omega) (by omega) (if_pos (by omega)) ?_
  change WP G mL_areLinksRight _ _ _ _ h N 120 [some (.ref (cB G)), some (.ref (cB G + 169)), some (JV (k : Int)), some (JV (p : Int)), some (JV (q : Int)), some (JV lt), x6, x7] [.ref (L k)]
  refine wp_iconst dL_areLinksRight_120 ?_
  refine wp_iaload dL_areLinksRight_121 ((sp.gh _ (by omega)).trans hR) (by omega) (by omega) (by omega) ?_
  change WP G mL_areLinksRight _ _ _ _ h N 122 [some (.ref (cB G)), some (.ref (cB G + 169)), some (JV (k : Int)), some (JV (p : Int)), some (JV (q : Int)), some (JV lt), x6, x7] [JV (f 2)]
  rw [f2]
  refine wp_iconst dL_areLinksRight_122 ?_
  refine wp_icmp_ne 134 dL_areLinksRight_123 (by decide) ⟨by omega, by omega⟩ ⟨by omega, by omega⟩ (fun c_123 => ?_) (fun c_123 => ?_)
  · refine wp_aload_n dL_areLinksRight_134 rfl ?_
    refine wp_iload_n dL_areLinksRight_135 rfl ?_
    refine wp_v1 k9 n9 (g_earlyEnd (N := N) pl sp hp9) cvL_122 dL_areLinksRight_136 ⟨Nat.le_of_ble_eq_true rfl, Nat.le_of_ble_eq_true rfl⟩ (Nat.le_of_ble_eq_true rfl) sp.1 rfl rfl (by omega) (by omega) (fun r_136 h_136 N_136 hq_136 => ?_)
    obtain ⟨rfl, hN_136, sp_136⟩ := hq_136
    rw [hN_136]
    change WP G mL_areLinksRight _ _ _ _ h_136 N 139 [some (.ref (cB G)), some (.ref (cB G + 169)), some (JV (k : Int)), some (JV (p : Int)), some (JV (q : Int)), some (JV lt), x6, x7] [JV (ee p)]
    refine wp_istore dL_areLinksRight_139 (Nat.le_of_ble_eq_true rfl) rfl ?_
    change WP G mL_areLinksRight _ _ _ _ h_136 N 141 [some (.ref (cB G)), some (.ref (cB G + 169)), some (JV (k : Int)), some (JV (p : Int)), some (JV (q : Int)), some (JV lt), some (JV (ee p)), x7] []
    exact kk141 _ _ sp_136 (by omega) (by omega)
  · refine wp_aload_n dL_areLinksRight_126 rfl ?_
    refine wp_iload_n dL_areLinksRight_127 rfl ?_
    refine wp_v1 k9 n9 (g_earlyBegin (N := N) pl sp hp9) cvL_125 dL_areLinksRight_128 ⟨Nat.le_of_ble_eq_true rfl, Nat.le_of_ble_eq_true rfl⟩ (Nat.le_of_ble_eq_true rfl) sp.1 rfl rfl (by omega) (by omega) (fun r_128 h_128 N_128 hq_128 => ?_)
    obtain ⟨rfl, hN_128, sp_128⟩ := hq_128
    rw [hN_128]
    change WP G mL_areLinksRight _ _ _ _ h_128 N 131 [some (.ref (cB G)), some (.ref (cB G + 169)), some (JV (k : Int)), some (JV (p : Int)), some (JV (q : Int)), some (JV lt), x6, x7] [JV (eb p)]
    refine wp_goto 139 dL_areLinksRight_131 (by decide) ?_
    refine wp_istore dL_areLinksRight_139 (Nat.le_of_ble_eq_true rfl) rfl ?_
    change WP G mL_areLinksRight _ _ _ _ h_128 N 141 [some (.ref (cB G)), some (.ref (cB G + 169)), some (JV (k : Int)), some (JV (p : Int)), some (JV (q : Int)), some (JV lt), some (JV (eb p)), x7] []
    exact kk141 _ _ sp_128 (by omega) (by omega)

theorem al_141 (pl : PL S eb ee lb le rm ld s) (db : DBE S) (sp : SPI G h S 0 K) {k p q : Nat} (hk : (k : Int) < S 14 0 0) (hp : lF S k = (p : Int)) (hq : lT S k = (q : Int)) (hp9 : (p : Int) < S 13 0 0) (hq9 : (q : Int) < S 13 0 0) {L : Nat → Nat} (hO : K.1 (cB G + 169) = some (eQ G 4 40 (fun i => if i < 40 then some (L i) else none))) (hLk : cB G + 169 ≤ L k) {f : Nat → Int} (hR : K.1 (L k) = some (eI G 4 f)) (f0 : f 0 = (p : Int)) (f1 : f 1 = (q : Int)) (f2 : f 2 = lK S k) (f3 : f 3 = lG S k) (h9 : S 9 q 0 = 0) {lt : Int} {x7 : Option Value} {et : Int} (het1 : lK S k = 1 → et = eb p) (het2 : lK S k ≠ 1 → et = ee p) (kk178 : ∀ (h1 : AH), SPI G h1 S 0 K → WP G mL_areLinksRight Q X k9 n9 h1 N 178 [some (.ref (cB G)), some (.ref (cB G + 169)), some (JV (k : Int)), some (JV (p : Int)), some (JV (q : Int)), some (JV lt), some (JV et), x7] []) : WP G mL_areLinksRight Q X k9 n9 h N 141 [some (.ref (cB G)), some (.ref (cB G + 169)), some (JV (k : Int)), some (JV (p : Int)), some (JV (q : Int)), some (JV lt), some (JV et), x7] [] := by
  have w := sp.2.2.1
  have tp := sp.2.2.2.1
  have wT := w.nT
  have wL := w.nL
  have gf := (pl.gf w tp).1
  have lf := pl.lfk w tp hk hp hq h9
  have lk := lf.1
  have tfp := pl.tf w tp db hp9
  have bp1 := tfp.1
  have bp2 : (S 9 p 0 = 0 ∨ S 9 p 0 = 1) ∧ (-1 ≤ s.1 p ∧ s.1 p ≤ 20000) ∧ -1 ≤ s.2.1 p ∧ s.2.1 p ≤ 20000 := by
    have gf := pl.gf w tp
    obtain ⟨-, ⟨a1, a2, a3, a4, a5, a6⟩, -⟩ := tfp
    refine ⟨a2, ?_⟩
    rcases a1 with z | z
    · have := a4 z; omega
    · have := a3 z; omega
  clear tfp
  have tfq := pl.tf w tp db hq9
  have bq1 := tfq.1
  have bq2 : (S 9 q 0 = 0 ∨ S 9 q 0 = 1) ∧ (-1 ≤ s.1 q ∧ s.1 q ≤ 20000) ∧ -1 ≤ s.2.1 q ∧ s.2.1 q ≤ 20000 := by
    have gf := pl.gf w tp
    obtain ⟨-, ⟨a1, a2, a3, a4, a5, a6⟩, -⟩ := tfq
    refine ⟨a2, ?_⟩
    rcases a1 with z | z
    · have := a4 z; omega
    · have := a3 z; omega
  clear tfq
  have g2 : (lK S k = 2 → et + lG S k ≤ ee q) ∧ (lK S k ≠ 2 → et + lG S k ≤ eb q) := by
    have z := lf.2.2.1
    clear lf
    refine ⟨fun e => ?_, fun e => ?_⟩
    · rw [het2 (by omega)]; exact z.2.1 e
    · by_cases e1 : lK S k = 1
      · rw [het1 e1]; exact z.1 e1
      · rw [het2 e1]; exact z.2.2 (by omega)
  have bv : -1 ≤ et ∧ et ≤ 20000 := by
    clear g2 lf
    by_cases e1 : lK S k = 1
    · rw [het1 e1]; omega
    · rw [het2 e1]; omega
  clear lf het1 het2
  refine wp_aload_n dL_areLinksRight_141 rfl ?_
  refine wp_iload_n dL_areLinksRight_142 rfl ?_
  refine wp_aaload dL_areLinksRight_143 ((sp.gh _ (by omega)).trans hO) rfl rfl (by omega) (by omega) (by omega) (if_pos (by omega)) ?_
  change WP G mL_areLinksRight _ _ _ _ h N 144 [some (.ref (cB G)), some (.ref (cB G + 169)), some (JV (k : Int)), some (JV (p : Int)), some (JV (q : Int)), some (JV lt), some (JV et), x7] [.ref (L k)]
  refine wp_iconst dL_areLinksRight_144 ?_
  refine wp_iaload dL_areLinksRight_145 ((sp.gh _ (by omega)).trans hR) (by omega) (by omega) (by omega) ?_
  change WP G mL_areLinksRight _ _ _ _ h N 146 [some (.ref (cB G)), some (.ref (cB G + 169)), some (JV (k : Int)), some (JV (p : Int)), some (JV (q : Int)), some (JV lt), some (JV et), x7] [JV (f 2)]
  rw [f2]
  refine wp_iconst dL_areLinksRight_146 ?_
  refine wp_icmp_ne 159 dL_areLinksRight_147 (by decide) ⟨by omega, by omega⟩ ⟨by omega, by omega⟩ (fun c_147 => ?_) (fun c_147 => ?_)
  · refine wp_aload_n dL_areLinksRight_159 rfl ?_
    refine wp_iload dL_areLinksRight_160 rfl ?_
    refine wp_v1 k9 n9 (g_earlyBegin (N := N) pl sp hq9) cvL_125 dL_areLinksRight_162 ⟨Nat.le_of_ble_eq_true rfl, Nat.le_of_ble_eq_true rfl⟩ (Nat.le_of_ble_eq_true rfl) sp.1 rfl rfl (by omega) (by omega) (fun r_162 h_162 N_162 hq_162 => ?_)
    obtain ⟨rfl, hN_162, sp_162⟩ := hq_162
    rw [hN_162]
    change WP G mL_areLinksRight _ _ _ _ h_162 N 165 [some (.ref (cB G)), some (.ref (cB G + 169)), some (JV (k : Int)), some (JV (p : Int)), some (JV (q : Int)), some (JV lt), some (JV et), x7] [JV (eb q)]
    refine wp_iload dL_areLinksRight_165 rfl ?_
    refine wp_aload_n dL_areLinksRight_167 rfl ?_
    refine wp_iload_n dL_areLinksRight_168 rfl ?_
    refine wp_aaload dL_areLinksRight_169 ((sp_162.gh _ (by omega)).trans hO) rfl rfl (by omega) (by omega) (by omega) (if_pos (by omega)) ?_
    change WP G mL_areLinksRight _ _ _ _ h_162 N 170 [some (.ref (cB G)), some (.ref (cB G + 169)), some (JV (k : Int)), some (JV (p : Int)), some (JV (q : Int)), some (JV lt), some (JV et), x7] [.ref (L k), JV et, JV (eb q)]
    refine wp_iconst dL_areLinksRight_170 ?_
    refine wp_iaload dL_areLinksRight_171 ((sp_162.gh _ (by omega)).trans hR) (by omega) (by omega) (by omega) ?_
    change WP G mL_areLinksRight _ _ _ _ h_162 N 172 [some (.ref (cB G)), some (.ref (cB G + 169)), some (JV (k : Int)), some (JV (p : Int)), some (JV (q : Int)), some (JV lt), some (JV et), x7] [JV (f 3), JV et, JV (eb q)]
    rw [f3]
    refine wp_iadd dL_areLinksRight_172 ?_
    refine wp_icmp_ge 178 dL_areLinksRight_173 (by decide) ⟨by omega, by omega⟩ ⟨by omega, by omega⟩ (fun c_173 => ?_) (fun c_173 => ?_)
    · exact kk178 _ sp_162
    · exfalso
      omega
  · refine wp_aload_n dL_areLinksRight_150 rfl ?_
    refine wp_iload dL_areLinksRight_151 rfl ?_
    refine wp_v1 k9 n9 (g_earlyEnd (N := N) pl sp hq9) cvL_122 dL_areLinksRight_153 ⟨Nat.le_of_ble_eq_true rfl, Nat.le_of_ble_eq_true rfl⟩ (Nat.le_of_ble_eq_true rfl) sp.1 rfl rfl (by omega) (by omega) (fun r_153 h_153 N_153 hq_153 => ?_)
    obtain ⟨rfl, hN_153, sp_153⟩ := hq_153
    rw [hN_153]
    change WP G mL_areLinksRight _ _ _ _ h_153 N 156 [some (.ref (cB G)), some (.ref (cB G + 169)), some (JV (k : Int)), some (JV (p : Int)), some (JV (q : Int)), some (JV lt), some (JV et), x7] [JV (ee q)]
    refine wp_goto 165 dL_areLinksRight_156 (by decide) ?_
    refine wp_iload dL_areLinksRight_165 rfl ?_
    refine wp_aload_n dL_areLinksRight_167 rfl ?_
    refine wp_iload_n dL_areLinksRight_168 rfl ?_
    refine wp_aaload dL_areLinksRight_169 ((sp_153.gh _ (by omega)).trans hO) rfl rfl (by omega) (by omega) (by omega) (if_pos (by omega)) ?_
    change WP G mL_areLinksRight _ _ _ _ h_153 N 170 [some (.ref (cB G)), some (.ref (cB G + 169)), some (JV (k : Int)), some (JV (p : Int)), some (JV (q : Int)), some (JV lt), some (JV et), x7] [.ref (L k), JV et, JV (ee q)]
    refine wp_iconst dL_areLinksRight_170 ?_
    refine wp_iaload dL_areLinksRight_171 ((sp_153.gh _ (by omega)).trans hR) (by omega) (by omega) (by omega) ?_
    change WP G mL_areLinksRight _ _ _ _ h_153 N 172 [some (.ref (cB G)), some (.ref (cB G + 169)), some (JV (k : Int)), some (JV (p : Int)), some (JV (q : Int)), some (JV lt), some (JV et), x7] [JV (f 3), JV et, JV (ee q)]
    rw [f3]
    refine wp_iadd dL_areLinksRight_172 ?_
    refine wp_icmp_ge 178 dL_areLinksRight_173 (by decide) ⟨by omega, by omega⟩ ⟨by omega, by omega⟩ (fun c_173 => ?_) (fun c_173 => ?_)
    · exact kk178 _ sp_153
    · exfalso
      omega

theorem al_178 (pl : PL S eb ee lb le rm ld s) (db : DBE S) (sp : SPI G h S 0 K) {k p q : Nat} (hk : (k : Int) < S 14 0 0) (hp : lF S k = (p : Int)) (hq : lT S k = (q : Int)) (hp9 : (p : Int) < S 13 0 0) (hq9 : (q : Int) < S 13 0 0) {L : Nat → Nat} (hO : K.1 (cB G + 169) = some (eQ G 4 40 (fun i => if i < 40 then some (L i) else none))) (hLk : cB G + 169 ≤ L k) {f : Nat → Int} (hR : K.1 (L k) = some (eI G 4 f)) (f0 : f 0 = (p : Int)) (f1 : f 1 = (q : Int)) (f2 : f 2 = lK S k) (f3 : f 3 = lG S k) (h9 : S 9 q 0 = 0) {lt et : Int} {x7 : Option Value} (kk259 : ∀ (h1 : AH) (y5 y6 y7 : Option Value), SPI G h1 S 0 K → WP G mL_areLinksRight Q X k9 n9 h1 N 259 [some (.ref (cB G)), some (.ref (cB G + 169)), some (JV (k : Int)), some (JV (p : Int)), some (JV (q : Int)), y5, y6, y7] []) (kk190 : ∀ (h1 : AH), SPI G h1 S 0 K → 0 ≤ s.1 q → WP G mL_areLinksRight Q X k9 n9 h1 N 190 [some (.ref (cB G)), some (.ref (cB G + 169)), some (JV (k : Int)), some (JV (p : Int)), some (JV (q : Int)), some (JV lt), some (JV et), x7] []) : WP G mL_areLinksRight Q X k9 n9 h N 178 [some (.ref (cB G)), some (.ref (cB G + 169)), some (JV (k : Int)), some (JV (p : Int)), some (JV (q : Int)), some (JV lt), some (JV et), x7] [] := by
  have w := sp.2.2.1
  have tp := sp.2.2.2.1
  have wT := w.nT
  have wL := w.nL
  have gf := (pl.gf w tp).1
  have tfq := pl.tf w tp db hq9
  have bq1 := tfq.1
  have bq2 : (S 9 q 0 = 0 ∨ S 9 q 0 = 1) ∧ (-1 ≤ s.1 q ∧ s.1 q ≤ 20000) ∧ -1 ≤ s.2.1 q ∧ s.2.1 q ≤ 20000 := by
    have gf := pl.gf w tp
    obtain ⟨-, ⟨a1, a2, a3, a4, a5, a6⟩, -⟩ := tfq
    refine ⟨a2, ?_⟩
    rcases a1 with z | z
    · have := a4 z; omega
    · have := a3 z; omega
  clear tfq
  refine wp_aload_n dL_areLinksRight_178 rfl ?_
  refine wp_iload dL_areLinksRight_179 rfl ?_
  refine wp_v1 k9 n9 (g_begin (N := N) pl sp hq9) cvL_115 dL_areLinksRight_181 ⟨Nat.le_of_ble_eq_true rfl, Nat.le_of_ble_eq_true rfl⟩ (Nat.le_of_ble_eq_true rfl) sp.1 rfl rfl (by omega) (by omega) (fun r_181 h_181 N_181 hq_181 => ?_)
  obtain ⟨rfl, hN_181, sp_181⟩ := hq_181
  rw [hN_181]
  change WP G mL_areLinksRight _ _ _ _ h_181 N 184 [some (.ref (cB G)), some (.ref (cB G + 169)), some (JV (k : Int)), some (JV (p : Int)), some (JV (q : Int)), some (JV lt), some (JV et), x7] [JV (s.1 q)]
  refine wp_if_ge 190 dL_areLinksRight_184 (by decide) ⟨by omega, by omega⟩ (fun c_184 => ?_) (fun c_184 => ?_)
  · exact kk190 _ sp_181 (by omega)
  · refine wp_goto 259 dL_areLinksRight_187 (by decide) ?_
    exact kk259 _ _ _ _ sp_181

theorem al_190 (pl : PL S eb ee lb le rm ld s) (db : DBE S) (sp : SPI G h S 0 K) {k p q : Nat} (hk : (k : Int) < S 14 0 0) (hp : lF S k = (p : Int)) (hq : lT S k = (q : Int)) (hp9 : (p : Int) < S 13 0 0) (hq9 : (q : Int) < S 13 0 0) {L : Nat → Nat} (hO : K.1 (cB G + 169) = some (eQ G 4 40 (fun i => if i < 40 then some (L i) else none))) (hLk : cB G + 169 ≤ L k) {f : Nat → Int} (hR : K.1 (L k) = some (eI G 4 f)) (f0 : f 0 = (p : Int)) (f1 : f 1 = (q : Int)) (f2 : f 2 = lK S k) (f3 : f 3 = lG S k) (h9 : S 9 q 0 = 0) {lt et : Int} {x7 : Option Value} (kk214 : ∀ (h1 : AH) (vt : Int), SPI G h1 S 0 K → (lK S k = 1 → vt = s.1 p) → (lK S k ≠ 1 → vt = s.2.1 p) → WP G mL_areLinksRight Q X k9 n9 h1 N 214 [some (.ref (cB G)), some (.ref (cB G + 169)), some (JV (k : Int)), some (JV (p : Int)), some (JV (q : Int)), some (JV lt), some (JV et), some (JV vt)] []) : WP G mL_areLinksRight Q X k9 n9 h N 190 [some (.ref (cB G)), some (.ref (cB G + 169)), some (JV (k : Int)), some (JV (p : Int)), some (JV (q : Int)), some (JV lt), some (JV et), x7] [] := by
  have w := sp.2.2.1
  have tp := sp.2.2.2.1
  have wT := w.nT
  have wL := w.nL
  have lf := pl.lfk w tp hk hp hq h9
  have lk := lf.1
  clear lf
  refine wp_aload_n dL_areLinksRight_190 rfl ?_
  refine wp_iload_n dL_areLinksRight_191 rfl ?_
  refine wp_aaload dL_areLinksRight_192 ((sp.gh _ (by omega)).trans hO) rfl rfl (by omega) (by omega) (by omega) (if_pos (by omega)) ?_
  change WP G mL_areLinksRight _ _ _ _ h N 193 [some (.ref (cB G)), some (.ref (cB G + 169)), some (JV (k : Int)), some (JV (p : Int)), some (JV (q : Int)), some (JV lt), some (JV et), x7] [.ref (L k)]
  refine wp_iconst dL_areLinksRight_193 ?_
  refine wp_iaload dL_areLinksRight_194 ((sp.gh _ (by omega)).trans hR) (by omega) (by omega) (by omega) ?_
  change WP G mL_areLinksRight _ _ _ _ h N 195 [some (.ref (cB G)), some (.ref (cB G + 169)), some (JV (k : Int)), some (JV (p : Int)), some (JV (q : Int)), some (JV lt), some (JV et), x7] [JV (f 2)]
  rw [f2]
  refine wp_iconst dL_areLinksRight_195 ?_
  refine wp_icmp_ne 207 dL_areLinksRight_196 (by decide) ⟨by omega, by omega⟩ ⟨by omega, by omega⟩ (fun c_196 => ?_) (fun c_196 => ?_)
  · refine wp_aload_n dL_areLinksRight_207 rfl ?_
    refine wp_iload_n dL_areLinksRight_208 rfl ?_
    refine wp_v1 k9 n9 (g_end (N := N) pl sp hp9) cvL_137 dL_areLinksRight_209 ⟨Nat.le_of_ble_eq_true rfl, Nat.le_of_ble_eq_true rfl⟩ (Nat.le_of_ble_eq_true rfl) sp.1 rfl rfl (by omega) (by omega) (fun r_209 h_209 N_209 hq_209 => ?_)
    obtain ⟨rfl, hN_209, sp_209⟩ := hq_209
    rw [hN_209]
    change WP G mL_areLinksRight _ _ _ _ h_209 N 212 [some (.ref (cB G)), some (.ref (cB G + 169)), some (JV (k : Int)), some (JV (p : Int)), some (JV (q : Int)), some (JV lt), some (JV et), x7] [JV (s.2.1 p)]
    refine wp_istore dL_areLinksRight_212 (Nat.le_of_ble_eq_true rfl) rfl ?_
    change WP G mL_areLinksRight _ _ _ _ h_209 N 214 [some (.ref (cB G)), some (.ref (cB G + 169)), some (JV (k : Int)), some (JV (p : Int)), some (JV (q : Int)), some (JV lt), some (JV et), some (JV (s.2.1 p))] []
    exact kk214 _ _ sp_209 (by omega) (by omega)
  · refine wp_aload_n dL_areLinksRight_199 rfl ?_
    refine wp_iload_n dL_areLinksRight_200 rfl ?_
    refine wp_v1 k9 n9 (g_begin (N := N) pl sp hp9) cvL_115 dL_areLinksRight_201 ⟨Nat.le_of_ble_eq_true rfl, Nat.le_of_ble_eq_true rfl⟩ (Nat.le_of_ble_eq_true rfl) sp.1 rfl rfl (by omega) (by omega) (fun r_201 h_201 N_201 hq_201 => ?_)
    obtain ⟨rfl, hN_201, sp_201⟩ := hq_201
    rw [hN_201]
    change WP G mL_areLinksRight _ _ _ _ h_201 N 204 [some (.ref (cB G)), some (.ref (cB G + 169)), some (JV (k : Int)), some (JV (p : Int)), some (JV (q : Int)), some (JV lt), some (JV et), x7] [JV (s.1 p)]
    refine wp_goto 212 dL_areLinksRight_204 (by decide) ?_
    refine wp_istore dL_areLinksRight_212 (Nat.le_of_ble_eq_true rfl) rfl ?_
    change WP G mL_areLinksRight _ _ _ _ h_201 N 214 [some (.ref (cB G)), some (.ref (cB G + 169)), some (JV (k : Int)), some (JV (p : Int)), some (JV (q : Int)), some (JV lt), some (JV et), some (JV (s.1 p))] []
    exact kk214 _ _ sp_201 (by omega) (by omega)

theorem al_214 (pl : PL S eb ee lb le rm ld s) (db : DBE S) (sp : SPI G h S 0 K) {k p q : Nat} (hk : (k : Int) < S 14 0 0) (hp : lF S k = (p : Int)) (hq : lT S k = (q : Int)) (hp9 : (p : Int) < S 13 0 0) (hq9 : (q : Int) < S 13 0 0) {L : Nat → Nat} (hO : K.1 (cB G + 169) = some (eQ G 4 40 (fun i => if i < 40 then some (L i) else none))) (hLk : cB G + 169 ≤ L k) {f : Nat → Int} (hR : K.1 (L k) = some (eI G 4 f)) (f0 : f 0 = (p : Int)) (f1 : f 1 = (q : Int)) (f2 : f 2 = lK S k) (f3 : f 3 = lG S k) (h9 : S 9 q 0 = 0) (hin : 0 ≤ s.1 q) {lt et : Int} {vt : Int} (hvt1 : lK S k = 1 → vt = s.1 p) (hvt2 : lK S k ≠ 1 → vt = s.2.1 p) (kk259 : ∀ (h1 : AH) (y5 y6 y7 : Option Value), SPI G h1 S 0 K → WP G mL_areLinksRight Q X k9 n9 h1 N 259 [some (.ref (cB G)), some (.ref (cB G + 169)), some (JV (k : Int)), some (JV (p : Int)), some (JV (q : Int)), y5, y6, y7] []) : WP G mL_areLinksRight Q X k9 n9 h N 214 [some (.ref (cB G)), some (.ref (cB G + 169)), some (JV (k : Int)), some (JV (p : Int)), some (JV (q : Int)), some (JV lt), some (JV et), some (JV vt)] [] := by
  have w := sp.2.2.1
  have tp := sp.2.2.2.1
  have wT := w.nT
  have wL := w.nL
  have gf := (pl.gf w tp).1
  have lf := pl.lfk w tp hk hp hq h9
  have lk := lf.1
  have tfp := pl.tf w tp db hp9
  have bp1 := tfp.1
  have bp2 : (S 9 p 0 = 0 ∨ S 9 p 0 = 1) ∧ (-1 ≤ s.1 p ∧ s.1 p ≤ 20000) ∧ -1 ≤ s.2.1 p ∧ s.2.1 p ≤ 20000 := by
    have gf := pl.gf w tp
    obtain ⟨-, ⟨a1, a2, a3, a4, a5, a6⟩, -⟩ := tfp
    refine ⟨a2, ?_⟩
    rcases a1 with z | z
    · have := a4 z; omega
    · have := a3 z; omega
  clear tfp
  have tfq := pl.tf w tp db hq9
  have bq1 := tfq.1
  have bq2 : (S 9 q 0 = 0 ∨ S 9 q 0 = 1) ∧ (-1 ≤ s.1 q ∧ s.1 q ≤ 20000) ∧ -1 ≤ s.2.1 q ∧ s.2.1 q ≤ 20000 := by
    have gf := pl.gf w tp
    obtain ⟨-, ⟨a1, a2, a3, a4, a5, a6⟩, -⟩ := tfq
    refine ⟨a2, ?_⟩
    rcases a1 with z | z
    · have := a4 z; omega
    · have := a3 z; omega
  clear tfq
  have iq : s.2.2.1 q = 1 := by
    have tq := pl.tf w tp db hq9
    obtain ⟨-, ⟨a1, a2, a3, a4, a5, a6⟩, -⟩ := tq
    rcases a1 with z | z
    · have := a4 z; omega
    · exact z
  have ip : 0 ≤ s.1 p := by
    have tp9 := pl.tf w tp db hp9
    obtain ⟨-, ⟨a1, a2, a3, a4, a5, a6⟩, -⟩ := tp9
    exact (a3 (lf.2.2.2 iq).1).1
  have g2 : (lK S k = 2 → vt + lG S k ≤ s.2.1 q) ∧ (lK S k ≠ 2 → vt + lG S k ≤ s.1 q) := by
    have z := (lf.2.2.2 iq).2
    clear lf
    refine ⟨fun e => ?_, fun e => ?_⟩
    · rw [hvt2 (by omega)]; exact z.2.1 e
    · by_cases e1 : lK S k = 1
      · rw [hvt1 e1]; exact z.1 e1
      · rw [hvt2 e1]; exact z.2.2 (by omega)
  have bv : -1 ≤ vt ∧ vt ≤ 20000 := by
    clear g2 lf
    by_cases e1 : lK S k = 1
    · rw [hvt1 e1]; omega
    · rw [hvt2 e1]; omega
  clear lf hvt1 hvt2
  refine wp_aload_n dL_areLinksRight_214 rfl ?_
  refine wp_iload_n dL_areLinksRight_215 rfl ?_
  refine wp_v1 k9 n9 (g_begin (N := N) pl sp hp9) cvL_115 dL_areLinksRight_216 ⟨Nat.le_of_ble_eq_true rfl, Nat.le_of_ble_eq_true rfl⟩ (Nat.le_of_ble_eq_true rfl) sp.1 rfl rfl (by omega) (by omega) (fun r_216 h_216 N_216 hq_216 => ?_)
  obtain ⟨rfl, hN_216, sp_216⟩ := hq_216
  rw [hN_216]
  change WP G mL_areLinksRight _ _ _ _ h_216 N 219 [some (.ref (cB G)), some (.ref (cB G + 169)), some (JV (k : Int)), some (JV (p : Int)), some (JV (q : Int)), some (JV lt), some (JV et), some (JV vt)] [JV (s.1 p)]
  refine wp_if_lt 257 dL_areLinksRight_219 (by decide) ⟨by omega, by omega⟩ (fun c_219 => ?_) (fun c_219 => ?_)
  · exfalso
    omega
  · refine wp_aload_n dL_areLinksRight_222 rfl ?_
    refine wp_iload_n dL_areLinksRight_223 rfl ?_
    refine wp_aaload dL_areLinksRight_224 ((sp_216.gh _ (by omega)).trans hO) rfl rfl (by omega) (by omega) (by omega) (if_pos (by omega)) ?_
    change WP G mL_areLinksRight _ _ _ _ h_216 N 225 [some (.ref (cB G)), some (.ref (cB G + 169)), some (JV (k : Int)), some (JV (p : Int)), some (JV (q : Int)), some (JV lt), some (JV et), some (JV vt)] [.ref (L k)]
    refine wp_iconst dL_areLinksRight_225 ?_
    refine wp_iaload dL_areLinksRight_226 ((sp_216.gh _ (by omega)).trans hR) (by omega) (by omega) (by omega) ?_
    change WP G mL_areLinksRight _ _ _ _ h_216 N 227 [some (.ref (cB G)), some (.ref (cB G + 169)), some (JV (k : Int)), some (JV (p : Int)), some (JV (q : Int)), some (JV lt), some (JV et), some (JV vt)] [JV (f 2)]
    rw [f2]
    refine wp_iconst dL_areLinksRight_227 ?_
    refine wp_icmp_ne 240 dL_areLinksRight_228 (by decide) ⟨by omega, by omega⟩ ⟨by omega, by omega⟩ (fun c_228 => ?_) (fun c_228 => ?_)
    · refine wp_aload_n dL_areLinksRight_240 rfl ?_
      refine wp_iload dL_areLinksRight_241 rfl ?_
      refine wp_v1 k9 n9 (g_begin (N := N) pl sp_216 hq9) cvL_115 dL_areLinksRight_243 ⟨Nat.le_of_ble_eq_true rfl, Nat.le_of_ble_eq_true rfl⟩ (Nat.le_of_ble_eq_true rfl) sp_216.1 rfl rfl (by omega) (by omega) (fun r_243 h_243 N_243 hq_243 => ?_)
      obtain ⟨rfl, hN_243, sp_243⟩ := hq_243
      rw [hN_243]
      change WP G mL_areLinksRight _ _ _ _ h_243 N 246 [some (.ref (cB G)), some (.ref (cB G + 169)), some (JV (k : Int)), some (JV (p : Int)), some (JV (q : Int)), some (JV lt), some (JV et), some (JV vt)] [JV (s.1 q)]
      refine wp_iload dL_areLinksRight_246 rfl ?_
      refine wp_aload_n dL_areLinksRight_248 rfl ?_
      refine wp_iload_n dL_areLinksRight_249 rfl ?_
      refine wp_aaload dL_areLinksRight_250 ((sp_243.gh _ (by omega)).trans hO) rfl rfl (by omega) (by omega) (by omega) (if_pos (by omega)) ?_
      change WP G mL_areLinksRight _ _ _ _ h_243 N 251 [some (.ref (cB G)), some (.ref (cB G + 169)), some (JV (k : Int)), some (JV (p : Int)), some (JV (q : Int)), some (JV lt), some (JV et), some (JV vt)] [.ref (L k), JV vt, JV (s.1 q)]
      refine wp_iconst dL_areLinksRight_251 ?_
      refine wp_iaload dL_areLinksRight_252 ((sp_243.gh _ (by omega)).trans hR) (by omega) (by omega) (by omega) ?_
      change WP G mL_areLinksRight _ _ _ _ h_243 N 253 [some (.ref (cB G)), some (.ref (cB G + 169)), some (JV (k : Int)), some (JV (p : Int)), some (JV (q : Int)), some (JV lt), some (JV et), some (JV vt)] [JV (f 3), JV vt, JV (s.1 q)]
      rw [f3]
      refine wp_iadd dL_areLinksRight_253 ?_
      refine wp_icmp_ge 259 dL_areLinksRight_254 (by decide) ⟨by omega, by omega⟩ ⟨by omega, by omega⟩ (fun c_254 => ?_) (fun c_254 => ?_)
      · exact kk259 _ _ _ _ sp_243
      · exfalso
        omega
    · refine wp_aload_n dL_areLinksRight_231 rfl ?_
      refine wp_iload dL_areLinksRight_232 rfl ?_
      refine wp_v1 k9 n9 (g_end (N := N) pl sp_216 hq9) cvL_137 dL_areLinksRight_234 ⟨Nat.le_of_ble_eq_true rfl, Nat.le_of_ble_eq_true rfl⟩ (Nat.le_of_ble_eq_true rfl) sp_216.1 rfl rfl (by omega) (by omega) (fun r_234 h_234 N_234 hq_234 => ?_)
      obtain ⟨rfl, hN_234, sp_234⟩ := hq_234
      rw [hN_234]
      change WP G mL_areLinksRight _ _ _ _ h_234 N 237 [some (.ref (cB G)), some (.ref (cB G + 169)), some (JV (k : Int)), some (JV (p : Int)), some (JV (q : Int)), some (JV lt), some (JV et), some (JV vt)] [JV (s.2.1 q)]
      refine wp_goto 246 dL_areLinksRight_237 (by decide) ?_
      refine wp_iload dL_areLinksRight_246 rfl ?_
      refine wp_aload_n dL_areLinksRight_248 rfl ?_
      refine wp_iload_n dL_areLinksRight_249 rfl ?_
      refine wp_aaload dL_areLinksRight_250 ((sp_234.gh _ (by omega)).trans hO) rfl rfl (by omega) (by omega) (by omega) (if_pos (by omega)) ?_
      change WP G mL_areLinksRight _ _ _ _ h_234 N 251 [some (.ref (cB G)), some (.ref (cB G + 169)), some (JV (k : Int)), some (JV (p : Int)), some (JV (q : Int)), some (JV lt), some (JV et), some (JV vt)] [.ref (L k), JV vt, JV (s.2.1 q)]
      refine wp_iconst dL_areLinksRight_251 ?_
      refine wp_iaload dL_areLinksRight_252 ((sp_234.gh _ (by omega)).trans hR) (by omega) (by omega) (by omega) ?_
      change WP G mL_areLinksRight _ _ _ _ h_234 N 253 [some (.ref (cB G)), some (.ref (cB G + 169)), some (JV (k : Int)), some (JV (p : Int)), some (JV (q : Int)), some (JV lt), some (JV et), some (JV vt)] [JV (f 3), JV vt, JV (s.2.1 q)]
      rw [f3]
      refine wp_iadd dL_areLinksRight_253 ?_
      refine wp_icmp_ge 259 dL_areLinksRight_254 (by decide) ⟨by omega, by omega⟩ ⟨by omega, by omega⟩ (fun c_254 => ?_) (fun c_254 => ?_)
      · exact kk259 _ _ _ _ sp_234
      · exfalso
        omega

theorem al_loop (pl : PL S eb ee lb le rm ld s) (db : DBE S) (w : WF S) (tp : TOP S) {L : Nat → Nat} (hO : K.1 (cB G + 169) = some (eQ G 4 40 (fun i => if i < 40 then some (L i) else none))) (hL : ∀ k, k < 40 → cB G + 169 ≤ L k) (hR : ∀ k : Nat, (k : Int) < S 14 0 0 → ∃ f : Nat → Int, K.1 (L k) = some (eI G 4 f) ∧ f 0 = lF S k ∧ f 1 = lT S k ∧ f 2 = lK S k ∧ f 3 = lG S k) (hQ : ∀ h1 : AH, SPI G h1 S 0 K → Q (some (JV 1)) h1 N) : ∀ (m k : Nat) (x3 x4 x5 x6 x7 : Option Value) (h : AH), (S 14 0 0).toNat - k = m → (k : Int) ≤ S 14 0 0 → SPI G h S 0 K → WP G mL_areLinksRight Q X k9 n9 h N 2 [some (.ref (cB G)), some (.ref (cB G + 169)), some (JV (k : Int)), x3, x4, x5, x6, x7] [] := by
  have wL := w.nL
  intro m
  induction m with
  | zero =>
    intro k x3 x4 x5 x6 x7 h hm hk sp
    refine wp_iload_n dL_areLinksRight_2 rfl ?_
    refine wp_aload_n dL_areLinksRight_3 rfl ?_
    refine wp_v0p (c_links (N := N) sp) cvL_59 dL_areLinksRight_4 ⟨Nat.le_of_ble_eq_true rfl, Nat.le_of_ble_eq_true rfl⟩ (Nat.le_of_ble_eq_true rfl) sp.1 rfl rfl ?_
    refine wp_icmp_ge 265 dL_areLinksRight_7 (by decide) ⟨by omega, by omega⟩ ⟨by omega, by omega⟩ (fun c_7 => ?_) (fun c_7 => ?_)
    · refine wp_iconst dL_areLinksRight_265 ?_
      refine wp_zret dL_areLinksRight_266 rfl (Or.inr rfl) ?_
      exact hQ h sp
    · exfalso; omega
  | succ m ih =>
    intro k x3 x4 x5 x6 x7 h hm hk sp
    have hk9 : (k : Int) < S 14 0 0 := by omega
    refine wp_iload_n dL_areLinksRight_2 rfl ?_
    refine wp_aload_n dL_areLinksRight_3 rfl ?_
    refine wp_v0p (c_links (N := N) sp) cvL_59 dL_areLinksRight_4 ⟨Nat.le_of_ble_eq_true rfl, Nat.le_of_ble_eq_true rfl⟩ (Nat.le_of_ble_eq_true rfl) sp.1 rfl rfl ?_
    refine wp_icmp_ge 265 dL_areLinksRight_7 (by decide) ⟨by omega, by omega⟩ ⟨by omega, by omega⟩ (fun c_7 => ?_) (fun c_7 => ?_)
    · exfalso; omega
    · obtain ⟨f, r0, r1, r2, r3, r4⟩ := hR k hk9
      have tl := tp.1 k hk9
      obtain ⟨p, ep⟩ : ∃ p : Nat, lF S k = (p : Int) := ⟨(lF S k).toNat, by omega⟩
      obtain ⟨q, eq⟩ : ∃ q : Nat, lT S k = (q : Int) := ⟨(lT S k).toNat, by omega⟩
      have hLk := hL k (by omega)
      have hp9 : (p : Int) < S 13 0 0 := by omega
      have hq9 : (q : Int) < S 13 0 0 := by omega
      rw [ep] at r1
      rw [eq] at r2
      have kk259 : ∀ (h1 : AH) (y5 y6 y7 : Option Value), SPI G h1 S 0 K → WP G mL_areLinksRight Q X k9 n9 h1 N 259 [some (.ref (cB G)), some (.ref (cB G + 169)), some (JV (k : Int)), some (JV (p : Int)), some (JV (q : Int)), y5, y6, y7] [] := fun h1 y5 y6 y7 sp1 => by
        refine wp_iinc dL_areLinksRight_259 rfl (Nat.le_of_ble_eq_true rfl) rfl ?_
        change WP G mL_areLinksRight _ _ _ _ h1 N 262 [some (.ref (cB G)), some (.ref (cB G + 169)), some (JV ((k : Int) + 1)), some (JV (p : Int)), some (JV (q : Int)), y5, y6, y7] []
        refine wp_goto 2 dL_areLinksRight_262 (by decide) ?_
        exact ih (k + 1) _ _ _ _ _ h1 (by omega) (by omega) sp1
      refine al_10 pl db sp hk9 ep eq hp9 hq9 hO hLk r0 r1 r2 r3 r4 kk259 (fun h1 sp1 h9 => ?_)
      refine al_35 pl db sp1 hk9 ep eq hp9 hq9 hO hLk r0 r1 r2 r3 r4 h9 (fun h2 lt sp2 l1 l2 => ?_)
      refine al_59 pl db sp2 hk9 ep eq hp9 hq9 hO hLk r0 r1 r2 r3 r4 h9 l1 l2 (fun h3 sp3 => ?_)
      refine al_117 pl db sp3 hk9 ep eq hp9 hq9 hO hLk r0 r1 r2 r3 r4 h9 (fun h4 et sp4 e1 e2 => ?_)
      refine al_141 pl db sp4 hk9 ep eq hp9 hq9 hO hLk r0 r1 r2 r3 r4 h9 e1 e2 (fun h5 sp5 => ?_)
      refine al_178 pl db sp5 hk9 ep eq hp9 hq9 hO hLk r0 r1 r2 r3 r4 h9 kk259 (fun h6 sp6 hin => ?_)
      refine al_190 pl db sp6 hk9 ep eq hp9 hq9 hO hLk r0 r1 r2 r3 r4 h9 (fun h7 vt sp7 v1 v2 => ?_)
      exact al_214 pl db sp7 hk9 ep eq hp9 hq9 hO hLk r0 r1 r2 r3 r4 h9 hin v1 v2 kk259
theorem L_areLinksRight (pl : PL S eb ee lb le rm ld s) (sp : SPI G h S 0 K) (db : DBE S) {L : Nat → Nat} (hO : K.1 (cB G + 169) = some (eQ G 4 40 (fun i => if i < 40 then some (L i) else none))) (hL : ∀ k, k < 40 → cB G + 169 ≤ L k) (hR : ∀ k : Nat, (k : Int) < S 14 0 0 → ∃ f : Nat → Int, K.1 (L k) = some (eI G 4 f) ∧ f 0 = lF S k ∧ f 1 = lT S k ∧ f 2 = lK S k ∧ f 3 = lG S k) : CT G mL_areLinksRight [.ref (cB G), .ref (cB G + 169)] h N 0 0 (GQ G S K N (JV 1)) := by
  have w := sp.2.2.1
  have tp := sp.2.2.2.1
  have wL := w.nL
  refine CT_of (by decide +kernel) rfl (by simp [Value.category]) (Nat.le_of_ble_eq_true rfl) ?_
  change WP G mL_areLinksRight _ noX _ _ h N 0 [some (.ref (cB G)), some (.ref (cB G + 169)), none, none, none, none, none, none] []
  refine wp_iconst dL_areLinksRight_0 ?_
  refine wp_istore_n dL_areLinksRight_1 (Nat.le_of_ble_eq_true rfl) rfl ?_
  exact al_loop pl db w tp hO hL hR (fun h1 sp1 => ⟨rfl, rfl, sp1⟩) (S 14 0 0).toNat 0 none none none none none h (by omega) (by omega) sp
end Alr

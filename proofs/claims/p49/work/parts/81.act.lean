/-! ===== the law: one act ===== -/
section Act
variable {G : Ctx} {h : AH} {N : Nat} {S : ST} {st : Int} {K : KTup} {Q : PQ} {X : PX} {k9 n9 : Nat} {x : Int32}
section Ru
variable {μ : MI} {k n pc : Nat} {L : List (Option Value)} {st : List Value}
theorem VX_catch2 {E nm : String} (pre : List ExceptionTableEntry) (x : ExceptionTableEntry) (suf : List ExceptionTableEntry) (hH : tableOf (mH μ) = pre ++ x :: suf) (hpass : ∀ z ∈ pre, covers z pc = false ∨ (z.catchType ≠ 0 ∧ ∃ nm : String, Cond.classLink (mY μ).cls z.catchType nm ∈ AW ∧ (E, nm) ∈ swNC)) (hx : covers x pc = true) (h0 : x.catchType ≠ 0) (hl : Cond.classLink (mY μ).cls x.catchType nm ∈ AW) (hcast : (E, nm) ∈ swCA)
    (kk : ∀ q : Nat, WP G μ Q X k n h N x.handlerPc L [.ref q]) : VX G μ Q X k n h N pc L E := by
  intro p e R s m args below meth c H locs cells slots mc ms ls q ce rest F a1 a2 a3 a4 a5 a6 hR hS hL hq hv hc
  have hK := F.2.2.2.2.2.2.2.2.2
  have hts := F.2.2.2.2.2.1
  have ht : c.exceptionTable.toList = tableOf (mH μ) := F.2.2.2.2.2.2.2.2.1
  refine vx_catch F.2.2.2.2.1 pre x suf (ht.trans hH) (fun z hz => ?_) hx h0 (hts _ hl) (va_Nw.use rfl (hK.2.2.2.1 _ hcast)) hq hv hc (kk q p e R s m args below meth c H locs cells slots mc ms ls F a1 a2 a3 a4 a5 a6 hR hS hL)
  rcases hpass z hz with q9 | ⟨hz0, nm2, c1, c2⟩
  · exact Or.inl q9
  · exact Or.inr ⟨hz0, nm2, hts _ c1, hK.2.2.2.2.2.1 _ c2⟩
theorem wp_pop9 {v : Value} (d : decode (mC μ) pc = .ok (.pop, 1)) (hv : v.category = 1) (kk : WP G μ Q X k n h N (pc + 1) L st) : WP G μ Q X k n h N pc L (v :: st) :=
  kk.go fun F _ _ _ _ _ _ _ w => lv_pop F.1 F.2.1 d hv w
theorem wp_tsIn {dflt lo hi : Int} {offs : Array Int} {len : Nat} {x : Int} {off : Int} (tgt : Nat) (d : decode (mC μ) pc = .ok (.tableswitch dflt lo hi offs, len)) (hx : InR x) (h1 : lo ≤ x) (h2 : x ≤ hi) (ho : offs[(x - lo).toNat]? = some off) (ht : (pc : Int) + off = (tgt : Int)) (kk : WP G μ Q X k n h N tgt L st) : WP G μ Q X k n h N pc L (JV x :: st) :=
  kk.go fun F _ _ _ _ _ _ _ w => lv_tableIn F.1 F.2.1 d (by rw [J_toInt hx]; omega) (by rw [J_toInt hx]; omega) (by rw [J_toInt hx]; exact ho) ht w
theorem wp_tsOut {dflt lo hi : Int} {offs : Array Int} {len : Nat} {x : Int} (tgt : Nat) (d : decode (mC μ) pc = .ok (.tableswitch dflt lo hi offs, len)) (hx : InR x) (h2 : hi < x) (ht : (pc : Int) + dflt = (tgt : Int)) (kk : WP G μ Q X k n h N tgt L st) : WP G μ Q X k n h N pc L (JV x :: st) :=
  kk.go fun F _ _ _ _ _ _ _ w => lv_tableOut F.1 F.2.1 d (Or.inr (by rw [J_toInt hx]; exact h2)) ht w
end Ru
theorem a619 {k n : Nat} {L : List (Option Value)} (q : Q (some (JV 1)) h N) : WP G mL_act Q X k n h N 619 L [] := by
  refine wp_goto 656 dL_act_619 (by decide) ?_
  refine wp_iconst dL_act_656 ?_
  refine wp_zret dL_act_657 rfl (Or.inr rfl) ?_
  exact q
theorem a622 (sp : SPI G h S st K) {nn : Int} (e : S 13 0 0 = nn) {qq : Nat} {t6 : Int} {x7 x8 x9 x10 x11 : Option Value} (q : Q (some (JV 1)) h N) : WP G mL_act Q X k9 n9 h N 622 [some (.ref (cB G)), some (.int x), some (.ref (cB G + 169)), some (.ref (cB G + 210)), some (.ref (cB G + 211)), some (JV nn), some (JV t6), x7, x8, x9, x10, x11] [.ref qq] := by
  have wT := sp.2.2.1.nT
  refine wp_astore dL_act_622 (Nat.le_of_ble_eq_true rfl) rfl ?_
  change WP G mL_act _ _ _ _ h N 624 [some (.ref (cB G)), some (.int x), some (.ref (cB G + 169)), some (.ref (cB G + 210)), some (.ref (cB G + 211)), some (JV nn), some (JV t6), some (.ref qq), x8, x9, x10, x11] []
  refine wp_aload_n dL_act_624 rfl ?_
  refine wp_v0p (c_tasks (N := N) sp) cvL_39 dL_act_625 ⟨Nat.le_of_ble_eq_true rfl, Nat.le_of_ble_eq_true rfl⟩ (Nat.le_of_ble_eq_true rfl) sp.1 rfl rfl ?_
  refine wp_iload dL_act_628 rfl ?_
  refine wp_icmp_ne 637 dL_act_630 (by decide) ⟨by omega, by omega⟩ ⟨by omega, by omega⟩ (fun c_630 => ?_) (fun c_630 => ?_)
  · exfalso
    omega
  · refine wp_iconst dL_act_633 ?_
    refine wp_goto 638 dL_act_634 (by decide) ?_
    refine wp_zret dL_act_638 rfl (by omega) ?_
    exact q
theorem a639 (sp : SPI G h S st K) {nn : Int} (e : S 13 0 0 = nn) {qq : Nat} {t6 : Int} {x7 x8 x9 x10 x11 : Option Value} (q : Q (some (JV 1)) h N) : WP G mL_act Q X k9 n9 h N 639 [some (.ref (cB G)), some (.int x), some (.ref (cB G + 169)), some (.ref (cB G + 210)), some (.ref (cB G + 211)), some (JV nn), some (JV t6), x7, x8, x9, x10, x11] [.ref qq] := by
  have wT := sp.2.2.1.nT
  refine wp_astore dL_act_639 (Nat.le_of_ble_eq_true rfl) rfl ?_
  change WP G mL_act _ _ _ _ h N 641 [some (.ref (cB G)), some (.int x), some (.ref (cB G + 169)), some (.ref (cB G + 210)), some (.ref (cB G + 211)), some (JV nn), some (JV t6), some (.ref qq), x8, x9, x10, x11] []
  refine wp_aload_n dL_act_641 rfl ?_
  refine wp_v0p (c_tasks (N := N) sp) cvL_39 dL_act_642 ⟨Nat.le_of_ble_eq_true rfl, Nat.le_of_ble_eq_true rfl⟩ (Nat.le_of_ble_eq_true rfl) sp.1 rfl rfl ?_
  refine wp_iload dL_act_645 rfl ?_
  refine wp_icmp_ne 654 dL_act_647 (by decide) ⟨by omega, by omega⟩ ⟨by omega, by omega⟩ (fun c_647 => ?_) (fun c_647 => ?_)
  · exfalso
    omega
  · refine wp_iconst dL_act_650 ?_
    refine wp_goto 655 dL_act_651 (by decide) ?_
    refine wp_zret dL_act_655 rfl (by omega) ?_
    exact q
theorem act_add (I : INV9 G h N S st K) {t : Nat} (ht : (t : Int) < max 1 (S 13 0 0)) (hQ : ∀ (h1 : AH) (N1 : Nat) (S1 : ST) (st1 : Int) (K1 : KTup), INV9 G h1 N1 S1 st1 K1 → Q (some (JV 1)) h1 N1) : WP G mL_act Q X 2 10 h N 88 [some (.ref (cB G)), some (.int x), some (.ref (cB G + 169)), some (.ref (cB G + 210)), some (.ref (cB G + 211)), some (JV (S 13 0 0)), some (JV (t : Int)), none, none, none, none, none] [] := by
  have sp := I.sp
  have w := I.wf
  have wT := w.nT
  have wL := w.nL
  have n9 := I.n9
  refine wp_iload dL_act_88 rfl ?_
  refine wp_bipush dL_act_90 rfl ?_
  refine wp_icmp_le 98 dL_act_92 (by decide) ⟨by omega, by omega⟩ ⟨by omega, by omega⟩ (fun c_92 => ?_) (fun c_92 => ?_)
  · refine wp_aload_n dL_act_98 rfl ?_
    refine wp_iload_n dL_act_99 rfl ?_
    refine wp_iconst dL_act_100 ?_
    refine wp_ishrR dL_act_101 ?_
    refine wp_iconst dL_act_102 ?_
    refine wp_s2p (c_below (N := N) (x := sh x 4) (m := 5) ⟨by omega, by omega⟩) csL_49 dL_act_103 ⟨Nat.le_of_ble_eq_true rfl, Nat.le_of_ble_eq_true rfl⟩ (Nat.le_of_ble_eq_true rfl) ?_
    refine wp_iload_n dL_act_106 rfl ?_
    refine wp_bipush dL_act_107 rfl ?_
    refine wp_ishrR dL_act_109 ?_
    refine wp_iconst dL_act_110 ?_
    refine wp_s2p (c_below (N := N) (x := sh x 7) (m := 2) ⟨by omega, by omega⟩) csL_49 dL_act_111 ⟨Nat.le_of_ble_eq_true rfl, Nat.le_of_ble_eq_true rfl⟩ (Nat.le_of_ble_eq_true rfl) ?_
    obtain ⟨u1, eu1, hu1⟩ := bw_n (sh x 4) (m := 5) (by omega)
    rw [eu1]
    obtain ⟨u2, eu2, hu2⟩ := bw_n (sh x 7) (m := 2) (by omega)
    rw [eu2]
    refine wp_v2 2 10 (c_addTask (N := N) sp (t := u2) (x := (u1 : Int)) (by omega) ⟨by omega, by omega⟩ (by omega)) cvL_52 dL_act_114 ⟨Nat.le_of_ble_eq_true rfl, Nat.le_of_ble_eq_true rfl⟩ (Nat.le_of_ble_eq_true rfl) sp.1 rfl rfl (by omega) (by omega) (fun r_114 h_114 N_114 q_114 => ?_)
    obtain ⟨hN_114, rfl, S_114, sp_114, e_114, e13_114, -⟩ := q_114
    rw [hN_114]
    change WP G mL_act _ _ _ _ h_114 N 117 [some (.ref (cB G)), some (.int x), some (.ref (cB G + 169)), some (.ref (cB G + 210)), some (.ref (cB G + 211)), some (JV (S 13 0 0)), some (JV (t : Int)), none, none, none, none, none] [JV (S 13 0 0)]
    refine wp_iload dL_act_117 rfl ?_
    refine wp_icmp_ne 126 dL_act_119 (by decide) ⟨by omega, by omega⟩ ⟨by omega, by omega⟩ (fun c_119 => ?_) (fun c_119 => ?_)
    · exfalso
      omega
    · refine wp_iconst dL_act_122 ?_
      refine wp_goto 127 dL_act_123 (by decide) ?_
      refine wp_zret dL_act_127 rfl (by omega) ?_
      exact hQ _ _ _ _ _ (I.add sp_114 e_114 e13_114 (by omega))
  · refine wp_goto 619 dL_act_95 (by decide) ?_
    exact a619 (hQ _ _ _ _ _ I)
theorem holdF_r {b e inn : Nat → Int} (t : Nat) : -1 ≤ holdF S b e inn t ∧ holdF S b e inn t ≤ 2 := by
  unfold holdF
  split
  · split
    · omega
    · split <;> omega
  · omega
theorem act_need (I : INV9 G h N S st K) {t : Nat} (ht : (t : Int) < max 1 (S 13 0 0)) (hQ : ∀ (h1 : AH) (N1 : Nat) (S1 : ST) (st1 : Int) (K1 : KTup), INV9 G h1 N1 S1 st1 K1 → Q (some (JV 1)) h1 N1) : WP G mL_act Q X 2 10 h N 282 [some (.ref (cB G)), some (.int x), some (.ref (cB G + 169)), some (.ref (cB G + 210)), some (.ref (cB G + 211)), some (JV (S 13 0 0)), some (JV (t : Int)), none, none, none, none, none] [] := by
  have sp := I.sp
  have w := I.wf
  have wT := w.nT
  have wL := w.nL
  have n9 := I.n9
  refine wp_iload_n dL_act_282 rfl ?_
  refine wp_bipush dL_act_283 rfl ?_
  refine wp_ishrR dL_act_285 ?_
  refine wp_iconst dL_act_286 ?_
  refine wp_s2p (c_below (N := N) (x := sh x 9) (m := 3) ⟨by omega, by omega⟩) csL_49 dL_act_287 ⟨Nat.le_of_ble_eq_true rfl, Nat.le_of_ble_eq_true rfl⟩ (Nat.le_of_ble_eq_true rfl) ?_
  obtain ⟨u1, eu1, hu1⟩ := bw_n (sh x 9) (m := 3) (by omega)
  rw [eu1]
  refine wp_if_ne 319 dL_act_290 (by decide) ⟨by omega, by omega⟩ (fun c_290 => ?_) (fun c_290 => ?_)
  · refine wp_aload_n dL_act_319 rfl ?_
    refine wp_iload dL_act_320 rfl ?_
    refine wp_iload_n dL_act_322 rfl ?_
    refine wp_bipush dL_act_323 rfl ?_
    refine wp_ishrR dL_act_325 ?_
    refine wp_iconst dL_act_326 ?_
    refine wp_s2p (c_below (N := N) (x := sh x 6) (m := 3) ⟨by omega, by omega⟩) csL_49 dL_act_327 ⟨Nat.le_of_ble_eq_true rfl, Nat.le_of_ble_eq_true rfl⟩ (Nat.le_of_ble_eq_true rfl) ?_
    refine wp_iload_n dL_act_330 rfl ?_
    refine wp_bipush dL_act_331 rfl ?_
    refine wp_ishrR dL_act_333 ?_
    refine wp_iconst dL_act_334 ?_
    refine wp_s2p (c_below (N := N) (x := sh x 8) (m := 4) ⟨by omega, by omega⟩) csL_49 dL_act_335 ⟨Nat.le_of_ble_eq_true rfl, Nat.le_of_ble_eq_true rfl⟩ (Nat.le_of_ble_eq_true rfl) ?_
    obtain ⟨u2, eu2, hu2⟩ := bw_n (sh x 6) (m := 3) (by omega)
    rw [eu2]
    obtain ⟨u3, eu3, hu3⟩ := bw_n (sh x 8) (m := 4) (by omega)
    rw [eu3]
    by_cases hx0 : ¬ ((t : Int) < S 13 0 0)
    · refine wp_callVx (k2 := 1) (n2 := 4) (x_setNeed0 (N := N) sp (t := (t : Int)) ⟨by omega, by omega⟩ (y := (u2 : Int)) ⟨by omega, by omega⟩ (x := (u3 : Int)) ⟨by omega, by omega⟩ (by omega)) cvL_73 dL_act_338 ⟨Nat.le_of_ble_eq_true rfl, Nat.le_of_ble_eq_true rfl⟩ (Nat.le_of_ble_eq_true rfl) sp.1 rfl rfl rfl rfl (by omega) (by omega) (fun r h1 N1 q => q.elim) (fun E h1 N1 q => ?_)
      obtain ⟨rfl, rfl, hN1⟩ := q
      refine VX_catch2 [⟨20, 127, 622, 111⟩, ⟨128, 226, 622, 111⟩, ⟨227, 318, 622, 111⟩] ⟨319, 379, 622, 111⟩ [⟨380, 527, 622, 111⟩, ⟨528, 618, 622, 111⟩, ⟨20, 127, 639, 113⟩, ⟨128, 226, 639, 113⟩, ⟨227, 318, 639, 113⟩, ⟨319, 379, 639, 113⟩, ⟨380, 527, 639, 113⟩, ⟨528, 618, 639, 113⟩] rfl (fun z hz => Or.inl (by revert z hz; decide)) (by decide) (by decide) clL_111 (by decide) (fun q9 => ?_)
      exact a622 sp rfl (hQ _ _ _ _ _ (I.up hN1))
    have hn0 : (t : Int) < S 13 0 0 := by omega
    refine wp_v3 2 10 (c_setNeed (N := N) sp (c := u2) (x := (u3 : Int)) hn0 (by omega) ⟨by omega, by omega⟩) cvL_73 dL_act_338 ⟨Nat.le_of_ble_eq_true rfl, Nat.le_of_ble_eq_true rfl⟩ (Nat.le_of_ble_eq_true rfl) sp.1 rfl rfl (by omega) (by omega) (fun r_338 h_338 N_338 q_338 => ?_)
    obtain ⟨hN_338, rfl, S_338, sp_338, e_338⟩ := q_338
    rw [hN_338]
    change WP G mL_act _ _ _ _ h_338 N 341 [some (.ref (cB G)), some (.int x), some (.ref (cB G + 169)), some (.ref (cB G + 210)), some (.ref (cB G + 211)), some (JV (S 13 0 0)), some (JV (t : Int)), none, none, none, none, none] [JV (S 12 t u2)]
    refine wp_pop9 dL_act_341 rfl ?_
    refine wp_goto 619 dL_act_342 (by decide) ?_
    exact a619 (hQ _ _ _ _ _ (I.mv sp_338 rfl (Nat.le_refl _) (fun f hf => by rw [e_338, su_f (by omega)])))
  · refine wp_aload_n dL_act_293 rfl ?_
    refine wp_iload dL_act_294 rfl ?_
    by_cases hx0 : ¬ ((t : Int) < S 13 0 0)
    · refine wp_callVx (k2 := 1) (n2 := 4) (x_reopen0 (N := N) sp (t := (t : Int)) ⟨by omega, by omega⟩ (by omega)) cvL_66 dL_act_296 ⟨Nat.le_of_ble_eq_true rfl, Nat.le_of_ble_eq_true rfl⟩ (Nat.le_of_ble_eq_true rfl) sp.1 rfl rfl rfl rfl (by omega) (by omega) (fun r h1 N1 q => q.elim) (fun E h1 N1 q => ?_)
      obtain ⟨rfl, rfl, hN1⟩ := q
      refine VX_catch2 [⟨20, 127, 622, 111⟩, ⟨128, 226, 622, 111⟩] ⟨227, 318, 622, 111⟩ [⟨319, 379, 622, 111⟩, ⟨380, 527, 622, 111⟩, ⟨528, 618, 622, 111⟩, ⟨20, 127, 639, 113⟩, ⟨128, 226, 639, 113⟩, ⟨227, 318, 639, 113⟩, ⟨319, 379, 639, 113⟩, ⟨380, 527, 639, 113⟩, ⟨528, 618, 639, 113⟩] rfl (fun z hz => Or.inl (by revert z hz; decide)) (by decide) (by decide) clL_111 (by decide) (fun q9 => ?_)
      exact a622 sp rfl (hQ _ _ _ _ _ (I.up hN1))
    have hn0 : (t : Int) < S 13 0 0 := by omega
    refine wp_v1 2 10 (c_reopen (N := N) sp hn0) cvL_66 dL_act_296 ⟨Nat.le_of_ble_eq_true rfl, Nat.le_of_ble_eq_true rfl⟩ (Nat.le_of_ble_eq_true rfl) sp.1 rfl rfl (by omega) (by omega) (fun r_296 h_296 N_296 q_296 => ?_)
    obtain ⟨hN_296, rfl, S_296, sp_296, e_296⟩ := q_296
    rw [hN_296]
    change WP G mL_act _ _ _ _ h_296 N 299 [some (.ref (cB G)), some (.int x), some (.ref (cB G + 169)), some (.ref (cB G + 210)), some (.ref (cB G + 211)), some (JV (S 13 0 0)), some (JV (t : Int)), none, none, none, none, none] [JV (S 9 t 0)]
    have wt := (w.task (t := t) (by omega)).2.2.2.2.1
    refine wp_if_ne 313 dL_act_299 (by decide) ⟨by omega, by omega⟩ (fun c_299 => ?_) (fun c_299 => ?_)
    · refine wp_iconst dL_act_313 ?_
      refine wp_goto 318 dL_act_314 (by decide) ?_
      refine wp_zret dL_act_318 rfl (by omega) ?_
      exact hQ _ _ _ _ _ (I.reopen sp_296 e_296)
    · refine wp_aload_n dL_act_302 rfl ?_
      refine wp_iload dL_act_303 rfl ?_
      have e13 : S_296 13 0 0 = S 13 0 0 := by rw [e_296, su_f (by decide)]
      refine wp_v1 2 10 (c_holds (N := N) sp_296 (t := t) (by omega)) cvL_70 dL_act_305 ⟨Nat.le_of_ble_eq_true rfl, Nat.le_of_ble_eq_true rfl⟩ (Nat.le_of_ble_eq_true rfl) sp_296.1 rfl rfl (by omega) (by omega) (fun r_305 h_305 N_305 q_305 => ?_)
      obtain ⟨hN_305, sp_305, v, rfl, eb, ee, lb, le, rm, ld, od, fv, ev⟩ := q_305
      rw [hN_305]
      have hv := holdF_r (S := S_296) (b := (lvAll S_296 lb rm (S_296 15 0 0) od).1) (e := (lvAll S_296 lb rm (S_296 15 0 0) od).2.1) (inn := (lvAll S_296 lb rm (S_296 15 0 0) od).2.2.1) t
      rw [← ev] at hv
      clear ev fv
      change WP G mL_act _ _ _ _ h_305 N 308 [some (.ref (cB G)), some (.int x), some (.ref (cB G + 169)), some (.ref (cB G + 210)), some (.ref (cB G + 211)), some (JV (S 13 0 0)), some (JV (t : Int)), none, none, none, none, none] [JV v]
      refine wp_bipush dL_act_308 rfl ?_
      refine wp_icmp_le 317 dL_act_310 (by decide) ⟨by omega, by omega⟩ ⟨by omega, by omega⟩ (fun c_310 => ?_) (fun c_310 => ?_)
      · exfalso
        omega
      · refine wp_iconst dL_act_313 ?_
        refine wp_goto 318 dL_act_314 (by decide) ?_
        refine wp_zret dL_act_318 rfl (by omega) ?_
        exact hQ _ _ _ _ _ ((I.reopen sp_296 e_296).q sp_305)
theorem act_finish (I : INV9 G h N S st K) {t : Nat} (ht : (t : Int) < max 1 (S 13 0 0)) (hQ : ∀ (h1 : AH) (N1 : Nat) (S1 : ST) (st1 : Int) (K1 : KTup), INV9 G h1 N1 S1 st1 K1 → Q (some (JV 1)) h1 N1) : WP G mL_act Q X 2 10 h N 398 [some (.ref (cB G)), some (.int x), some (.ref (cB G + 169)), some (.ref (cB G + 210)), some (.ref (cB G + 211)), some (JV (S 13 0 0)), some (JV (t : Int)), none, none, none, none, none] [] := by
  have sp := I.sp
  have w := I.wf
  have wT := w.nT
  have wL := w.nL
  have n9 := I.n9
  refine wp_iload_n dL_act_398 rfl ?_
  refine wp_bipush dL_act_399 rfl ?_
  refine wp_ishrR dL_act_401 ?_
  refine wp_iconst dL_act_402 ?_
  refine wp_s2p (c_below (N := N) (x := sh x 9) (m := 2) ⟨by omega, by omega⟩) csL_49 dL_act_403 ⟨Nat.le_of_ble_eq_true rfl, Nat.le_of_ble_eq_true rfl⟩ (Nat.le_of_ble_eq_true rfl) ?_
  obtain ⟨u1, eu1, hu1⟩ := bw_n (sh x 9) (m := 2) (by omega)
  rw [eu1]
  refine wp_if_ne 438 dL_act_406 (by decide) ⟨by omega, by omega⟩ (fun c_406 => ?_) (fun c_406 => ?_)
  · refine wp_aload_n dL_act_438 rfl ?_
    refine wp_iload dL_act_439 rfl ?_
    refine wp_iload_n dL_act_441 rfl ?_
    refine wp_bipush dL_act_442 rfl ?_
    refine wp_ishrR dL_act_444 ?_
    refine wp_bipush dL_act_445 rfl ?_
    refine wp_s2p (c_below (N := N) (x := sh x 6) (m := 6) ⟨by omega, by omega⟩) csL_49 dL_act_447 ⟨Nat.le_of_ble_eq_true rfl, Nat.le_of_ble_eq_true rfl⟩ (Nat.le_of_ble_eq_true rfl) ?_
    obtain ⟨u2, eu2, hu2⟩ := bw_n (sh x 6) (m := 6) (by omega)
    rw [eu2]
    by_cases hx0 : ¬ ((t : Int) < S 13 0 0)
    · refine wp_callVx (k2 := 1) (n2 := 4) (x_setLength0 (N := N) sp (t := (t : Int)) ⟨by omega, by omega⟩ (x := (u2 : Int)) ⟨by omega, by omega⟩ (by omega)) cvL_84 dL_act_450 ⟨Nat.le_of_ble_eq_true rfl, Nat.le_of_ble_eq_true rfl⟩ (Nat.le_of_ble_eq_true rfl) sp.1 rfl rfl rfl rfl (by omega) (by omega) (fun r h1 N1 q => q.elim) (fun E h1 N1 q => ?_)
      obtain ⟨rfl, rfl, hN1⟩ := q
      refine VX_catch2 [⟨20, 127, 622, 111⟩, ⟨128, 226, 622, 111⟩, ⟨227, 318, 622, 111⟩, ⟨319, 379, 622, 111⟩] ⟨380, 527, 622, 111⟩ [⟨528, 618, 622, 111⟩, ⟨20, 127, 639, 113⟩, ⟨128, 226, 639, 113⟩, ⟨227, 318, 639, 113⟩, ⟨319, 379, 639, 113⟩, ⟨380, 527, 639, 113⟩, ⟨528, 618, 639, 113⟩] rfl (fun z hz => Or.inl (by revert z hz; decide)) (by decide) (by decide) clL_111 (by decide) (fun q9 => ?_)
      exact a622 sp rfl (hQ _ _ _ _ _ (I.up hN1))
    have hn0 : (t : Int) < S 13 0 0 := by omega
    refine wp_v2 2 10 (c_setLength (N := N) sp (x := (u2 : Int)) hn0 ⟨by omega, by omega⟩) cvL_84 dL_act_450 ⟨Nat.le_of_ble_eq_true rfl, Nat.le_of_ble_eq_true rfl⟩ (Nat.le_of_ble_eq_true rfl) sp.1 rfl rfl (by omega) (by omega) (fun r_450 h_450 N_450 q_450 => ?_)
    obtain ⟨hN_450, rfl, S_450, sp_450, e_450⟩ := q_450
    rw [hN_450]
    change WP G mL_act _ _ _ _ h_450 N 453 [some (.ref (cB G)), some (.int x), some (.ref (cB G + 169)), some (.ref (cB G + 210)), some (.ref (cB G + 211)), some (JV (S 13 0 0)), some (JV (t : Int)), none, none, none, none, none] [JV (S 5 t 0)]
    refine wp_pop9 dL_act_453 rfl ?_
    refine wp_goto 619 dL_act_454 (by decide) ?_
    exact a619 (hQ _ _ _ _ _ (I.mv sp_450 rfl (Nat.le_refl _) (fun f hf => by rw [e_450, su_f (by omega)])))
  · refine wp_aload_n dL_act_409 rfl ?_
    refine wp_iload dL_act_410 rfl ?_
    refine wp_iload_n dL_act_412 rfl ?_
    refine wp_iconst dL_act_413 ?_
    refine wp_ishrR dL_act_414 ?_
    refine wp_bipush dL_act_415 rfl ?_
    refine wp_s2p (c_below (N := N) (x := sh x 5) (m := 8) ⟨by omega, by omega⟩) csL_49 dL_act_417 ⟨Nat.le_of_ble_eq_true rfl, Nat.le_of_ble_eq_true rfl⟩ (Nat.le_of_ble_eq_true rfl) ?_
    refine wp_bipush dL_act_420 rfl ?_
    refine wp_iload_n dL_act_422 rfl ?_
    refine wp_bipush dL_act_423 rfl ?_
    refine wp_ishrR dL_act_425 ?_
    refine wp_iconst dL_act_426 ?_
    refine wp_s2p (c_below (N := N) (x := sh x 7) (m := 4) ⟨by omega, by omega⟩) csL_49 dL_act_427 ⟨Nat.le_of_ble_eq_true rfl, Nat.le_of_ble_eq_true rfl⟩ (Nat.le_of_ble_eq_true rfl) ?_
    refine wp_iadd dL_act_430 ?_
    obtain ⟨u3, eu3, hu3⟩ := bw_n (sh x 5) (m := 8) (by omega)
    rw [eu3]
    obtain ⟨u4, eu4, hu4⟩ := bw_n (sh x 7) (m := 4) (by omega)
    rw [eu4]
    by_cases hx0 : ¬ ((t : Int) < S 13 0 0)
    · refine wp_callVx (k2 := 1) (n2 := 4) (x_finish0 (N := N) sp (t := (t : Int)) ⟨by omega, by omega⟩ (x := (u3 : Int)) ⟨by omega, by omega⟩ (y := 8 + ((u4 : Int))) ⟨by omega, by omega⟩ (by omega)) cvL_80 dL_act_431 ⟨Nat.le_of_ble_eq_true rfl, Nat.le_of_ble_eq_true rfl⟩ (Nat.le_of_ble_eq_true rfl) sp.1 rfl rfl rfl rfl (by omega) (by omega) (fun r h1 N1 q => q.elim) (fun E h1 N1 q => ?_)
      obtain ⟨rfl, rfl, hN1⟩ := q
      refine VX_catch2 [⟨20, 127, 622, 111⟩, ⟨128, 226, 622, 111⟩, ⟨227, 318, 622, 111⟩, ⟨319, 379, 622, 111⟩] ⟨380, 527, 622, 111⟩ [⟨528, 618, 622, 111⟩, ⟨20, 127, 639, 113⟩, ⟨128, 226, 639, 113⟩, ⟨227, 318, 639, 113⟩, ⟨319, 379, 639, 113⟩, ⟨380, 527, 639, 113⟩, ⟨528, 618, 639, 113⟩] rfl (fun z hz => Or.inl (by revert z hz; decide)) (by decide) (by decide) clL_111 (by decide) (fun q9 => ?_)
      exact a622 sp rfl (hQ _ _ _ _ _ (I.up hN1))
    have hn0 : (t : Int) < S 13 0 0 := by omega
    refine wp_v3 2 10 (c_finish (N := N) sp (x := (u3 : Int)) (y := 8 + ((u4 : Int))) hn0 ⟨by omega, by omega⟩ ⟨by omega, by omega⟩ (by omega)) cvL_80 dL_act_431 ⟨Nat.le_of_ble_eq_true rfl, Nat.le_of_ble_eq_true rfl⟩ (Nat.le_of_ble_eq_true rfl) sp.1 rfl rfl (by omega) (by omega) (fun r_431 h_431 N_431 q_431 => ?_)
    obtain ⟨hN_431, rfl, S_431, sp_431, e_431⟩ := q_431
    rw [hN_431]
    change WP G mL_act _ _ _ _ h_431 N 434 [some (.ref (cB G)), some (.int x), some (.ref (cB G + 169)), some (.ref (cB G + 210)), some (.ref (cB G + 211)), some (JV (S 13 0 0)), some (JV (t : Int)), none, none, none, none, none] [JV (S 9 t 0)]
    refine wp_pop9 dL_act_434 rfl ?_
    refine wp_goto 619 dL_act_435 (by decide) ?_
    exact a619 (hQ _ _ _ _ _ (I.finish sp_431 e_431 (by omega)))
theorem act_week (I : INV9 G h N S st K) {t : Nat} (ht : (t : Int) < max 1 (S 13 0 0)) (hQ : ∀ (h1 : AH) (N1 : Nat) (S1 : ST) (st1 : Int) (K1 : KTup), INV9 G h1 N1 S1 st1 K1 → Q (some (JV 1)) h1 N1) : WP G mL_act Q X 2 10 h N 528 [some (.ref (cB G)), some (.int x), some (.ref (cB G + 169)), some (.ref (cB G + 210)), some (.ref (cB G + 211)), some (JV (S 13 0 0)), some (JV (t : Int)), none, none, none, none, none] [] := by
  have sp := I.sp
  have w := I.wf
  have wT := w.nT
  have wL := w.nL
  have n9 := I.n9
  refine wp_aload_n dL_act_528 rfl ?_
  refine wp_iload_n dL_act_529 rfl ?_
  refine wp_iconst dL_act_530 ?_
  refine wp_ishrR dL_act_531 ?_
  refine wp_iconst dL_act_532 ?_
  refine wp_s2p (c_below (N := N) (x := sh x 4) (m := 2) ⟨by omega, by omega⟩) csL_49 dL_act_533 ⟨Nat.le_of_ble_eq_true rfl, Nat.le_of_ble_eq_true rfl⟩ (Nat.le_of_ble_eq_true rfl) ?_
  refine wp_iconst dL_act_536 ?_
  refine wp_iload_n dL_act_537 rfl ?_
  refine wp_iconst dL_act_538 ?_
  refine wp_ishrR dL_act_539 ?_
  refine wp_bipush dL_act_540 rfl ?_
  refine wp_s2p (c_below (N := N) (x := sh x 5) (m := 127) ⟨by omega, by omega⟩) csL_49 dL_act_542 ⟨Nat.le_of_ble_eq_true rfl, Nat.le_of_ble_eq_true rfl⟩ (Nat.le_of_ble_eq_true rfl) ?_
  refine wp_iadd dL_act_545 ?_
  obtain ⟨u1, eu1, hu1⟩ := bw_n (sh x 4) (m := 2) (by omega)
  rw [eu1]
  obtain ⟨u2, eu2, hu2⟩ := bw_n (sh x 5) (m := 127) (by omega)
  rw [eu2]
  refine wp_v2 2 10 (c_setWeek (N := N) sp (t := u1) (x := 1 + ((u2 : Int))) (by omega) ⟨by omega, by omega⟩) cvL_90 dL_act_546 ⟨Nat.le_of_ble_eq_true rfl, Nat.le_of_ble_eq_true rfl⟩ (Nat.le_of_ble_eq_true rfl) sp.1 rfl rfl (by omega) (by omega) (fun r_546 h_546 N_546 q_546 => ?_)
  obtain ⟨hN_546, rfl, S_546, sp_546, e_546⟩ := q_546
  rw [hN_546]
  change WP G mL_act _ _ _ _ h_546 N 549 [some (.ref (cB G)), some (.int x), some (.ref (cB G + 169)), some (.ref (cB G + 210)), some (.ref (cB G + 211)), some (JV (S 13 0 0)), some (JV (t : Int)), none, none, none, none, none] [JV (S 0 u1 0)]
  refine wp_pop9 dL_act_549 rfl ?_
  refine wp_aload_n dL_act_550 rfl ?_
  refine wp_iload_n dL_act_551 rfl ?_
  refine wp_bipush dL_act_552 rfl ?_
  refine wp_ishrR dL_act_554 ?_
  refine wp_iconst dL_act_555 ?_
  refine wp_s2p (c_below (N := N) (x := sh x 9) (m := 4) ⟨by omega, by omega⟩) csL_49 dL_act_556 ⟨Nat.le_of_ble_eq_true rfl, Nat.le_of_ble_eq_true rfl⟩ (Nat.le_of_ble_eq_true rfl) ?_
  obtain ⟨u3, eu3, hu3⟩ := bw_n (sh x 9) (m := 4) (by omega)
  rw [eu3]
  refine wp_v1 2 10 (c_setRule (N := N) (t := 0) sp_546 (x := (u3 : Int)) ⟨by omega, by omega⟩) cvL_93 dL_act_559 ⟨Nat.le_of_ble_eq_true rfl, Nat.le_of_ble_eq_true rfl⟩ (Nat.le_of_ble_eq_true rfl) sp_546.1 rfl rfl (by omega) (by omega) (fun r_559 h_559 N_559 q_559 => ?_)
  obtain ⟨hN_559, rfl, S_559, sp_559, e_559⟩ := q_559
  rw [hN_559]
  change WP G mL_act _ _ _ _ h_559 N 562 [some (.ref (cB G)), some (.int x), some (.ref (cB G + 169)), some (.ref (cB G + 210)), some (.ref (cB G + 211)), some (JV (S 13 0 0)), some (JV (t : Int)), none, none, none, none, none] [JV (S_546 15 0 0)]
  refine wp_pop9 dL_act_562 rfl ?_
  refine wp_goto 619 dL_act_563 (by decide) ?_
  exact a619 (hQ _ _ _ _ _ (I.mv sp_559 rfl (Nat.le_refl _) (fun f hf => by rw [e_559, su_f (by omega), e_546, su_f (by omega)])))
theorem act_terms (I : INV9 G h N S st K) {t : Nat} (ht : (t : Int) < max 1 (S 13 0 0)) (hQ : ∀ (h1 : AH) (N1 : Nat) (S1 : ST) (st1 : Int) (K1 : KTup), INV9 G h1 N1 S1 st1 K1 → Q (some (JV 1)) h1 N1) : WP G mL_act Q X 2 10 h N 345 [some (.ref (cB G)), some (.int x), some (.ref (cB G + 169)), some (.ref (cB G + 210)), some (.ref (cB G + 211)), some (JV (S 13 0 0)), some (JV (t : Int)), none, none, none, none, none] [] := by
  have sp := I.sp
  have w := I.wf
  have wT := w.nT
  have wL := w.nL
  have n9 := I.n9
  obtain ⟨-, -, f, hf, hft⟩ := I.lw.1
  refine wp_aload_n dL_act_345 rfl ?_
  refine wp_iload dL_act_346 rfl ?_
  refine wp_iload_n dL_act_348 rfl ?_
  refine wp_bipush dL_act_349 rfl ?_
  refine wp_ishrR dL_act_351 ?_
  refine wp_bipush dL_act_352 rfl ?_
  refine wp_s2p (c_below (N := N) (x := sh x 6) (m := 10) ⟨by omega, by omega⟩) csL_49 dL_act_354 ⟨Nat.le_of_ble_eq_true rfl, Nat.le_of_ble_eq_true rfl⟩ (Nat.le_of_ble_eq_true rfl) ?_
  refine wp_iload_n dL_act_357 rfl ?_
  refine wp_bipush dL_act_358 rfl ?_
  refine wp_ishrR dL_act_360 ?_
  refine wp_iconst dL_act_361 ?_
  refine wp_s2p (c_below (N := N) (x := sh x 9) (m := 4) ⟨by omega, by omega⟩) csL_49 dL_act_362 ⟨Nat.le_of_ble_eq_true rfl, Nat.le_of_ble_eq_true rfl⟩ (Nat.le_of_ble_eq_true rfl) ?_
  refine wp_iconst dL_act_365 ?_
  refine wp_imul dL_act_366 ?_
  obtain ⟨u1, eu1, hu1⟩ := bw_n (sh x 6) (m := 10) (by omega)
  rw [eu1]
  obtain ⟨u2, eu2, hu2⟩ := bw_n (sh x 9) (m := 4) (by omega)
  rw [eu2]
  by_cases hx0 : ¬ ((t : Int) < S 13 0 0)
  · refine wp_callVx (k2 := 1) (n2 := 4) (x_setTerms0 (N := N) sp (t := (t : Int)) ⟨by omega, by omega⟩ (x := (u1 : Int)) ⟨by omega, by omega⟩ (y := ((u2 : Int)) * 3) ⟨by omega, by omega⟩ (by omega)) cvL_77 dL_act_367 ⟨Nat.le_of_ble_eq_true rfl, Nat.le_of_ble_eq_true rfl⟩ (Nat.le_of_ble_eq_true rfl) sp.1 rfl rfl rfl rfl (by omega) (by omega) (fun r h1 N1 q => q.elim) (fun E h1 N1 q => ?_)
    obtain ⟨rfl, rfl, hN1⟩ := q
    refine VX_catch2 [⟨20, 127, 622, 111⟩, ⟨128, 226, 622, 111⟩, ⟨227, 318, 622, 111⟩] ⟨319, 379, 622, 111⟩ [⟨380, 527, 622, 111⟩, ⟨528, 618, 622, 111⟩, ⟨20, 127, 639, 113⟩, ⟨128, 226, 639, 113⟩, ⟨227, 318, 639, 113⟩, ⟨319, 379, 639, 113⟩, ⟨380, 527, 639, 113⟩, ⟨528, 618, 639, 113⟩] rfl (fun z hz => Or.inl (by revert z hz; decide)) (by decide) (by decide) clL_111 (by decide) (fun q9 => ?_)
    exact a622 sp rfl (hQ _ _ _ _ _ (I.up hN1))
  have hn0 : (t : Int) < S 13 0 0 := by omega
  refine wp_v3 2 10 (c_setTerms (N := N) sp (x := (u1 : Int)) (y := ((u2 : Int)) * 3) hn0 ⟨by omega, by omega⟩ ⟨by omega, by omega⟩) cvL_77 dL_act_367 ⟨Nat.le_of_ble_eq_true rfl, Nat.le_of_ble_eq_true rfl⟩ (Nat.le_of_ble_eq_true rfl) sp.1 rfl rfl (by omega) (by omega) (fun r_367 h_367 N_367 q_367 => ?_)
  obtain ⟨hN_367, rfl, S_367, sp_367, e_367⟩ := q_367
  rw [hN_367]
  change WP G mL_act _ _ _ _ h_367 N 370 [some (.ref (cB G)), some (.int x), some (.ref (cB G + 169)), some (.ref (cB G + 210)), some (.ref (cB G + 211)), some (JV (S 13 0 0)), some (JV (t : Int)), none, none, none, none, none] [JV (S 8 t 0)]
  have hf9 := (sp.gg sp_367 rfl _ (by omega)).trans hf
  have wt := w.task (t := t) (by omega)
  refine wp_aload dL_act_370 rfl ?_
  refine wp_iload dL_act_372 rfl ?_
  refine wp_iaload dL_act_374 hf9 (by omega) (by omega) (by omega) ?_
  change WP G mL_act _ _ _ _ h_367 N 375 [some (.ref (cB G)), some (.int x), some (.ref (cB G + 169)), some (.ref (cB G + 210)), some (.ref (cB G + 211)), some (JV (S 13 0 0)), some (JV (t : Int)), none, none, none, none, none] [JV (f t), JV (S 8 t 0)]
  rw [hft t (by omega)]
  refine wp_icmp_eq 380 dL_act_375 (by decide) ⟨by omega, by omega⟩ ⟨by omega, by omega⟩ (fun c_375 => ?_) (fun c_375 => ?_)
  · refine wp_aload dL_act_380 rfl ?_
    refine wp_iload dL_act_382 rfl ?_
    refine wp_iload_n dL_act_384 rfl ?_
    refine wp_bipush dL_act_385 rfl ?_
    refine wp_ishrR dL_act_387 ?_
    refine wp_iconst dL_act_388 ?_
    refine wp_s2p (c_below (N := N) (x := sh x 9) (m := 4) ⟨by omega, by omega⟩) csL_49 dL_act_389 ⟨Nat.le_of_ble_eq_true rfl, Nat.le_of_ble_eq_true rfl⟩ (Nat.le_of_ble_eq_true rfl) ?_
    refine wp_iconst dL_act_392 ?_
    refine wp_imul dL_act_393 ?_
    rw [eu2]
    refine wp_iastore dL_act_394 hf9 (by omega) (by omega) (by omega) ?_
    obtain ⟨h_1, eh_1⟩ : ∃ hh9 : AH, hh9 = hup h_367 (cB G + 211) (eI G 24 (fup f t (((u2 : Int)) * 3))) := ⟨_, rfl⟩
    refine WP.heq eh_1 ?_
    have c1_0 : h_1 (cB G + 211) = some (eI G 24 (fup f t (((u2 : Int)) * 3))) := by rw [eh_1]; exact hup_self _ _ _
    refine wp_goto 619 dL_act_395 (by decide) ?_
    exact a619 (hQ _ _ _ _ _ (I.terms sp_367 e_367 hf hft eh_1))
  · exfalso
    omega
theorem act_crew (I : INV9 G h N S st K) {t : Nat} (ht : (t : Int) < max 1 (S 13 0 0)) (hQ : ∀ (h1 : AH) (N1 : Nat) (S1 : ST) (st1 : Int) (K1 : KTup), INV9 G h1 N1 S1 st1 K1 → Q (some (JV 1)) h1 N1) : WP G mL_act Q X 2 10 h N 457 [some (.ref (cB G)), some (.int x), some (.ref (cB G + 169)), some (.ref (cB G + 210)), some (.ref (cB G + 211)), some (JV (S 13 0 0)), some (JV (t : Int)), none, none, none, none, none] [] := by
  have sp := I.sp
  have w := I.wf
  have wT := w.nT
  have wL := w.nL
  have n9 := I.n9
  obtain ⟨-, ⟨g, hg, hgs⟩, -⟩ := I.lw.1
  refine wp_aload_n dL_act_457 rfl ?_
  refine wp_iload_n dL_act_458 rfl ?_
  refine wp_iconst dL_act_459 ?_
  refine wp_ishrR dL_act_460 ?_
  refine wp_iconst dL_act_461 ?_
  refine wp_s2p (c_below (N := N) (x := sh x 4) (m := 3) ⟨by omega, by omega⟩) csL_49 dL_act_462 ⟨Nat.le_of_ble_eq_true rfl, Nat.le_of_ble_eq_true rfl⟩ (Nat.le_of_ble_eq_true rfl) ?_
  obtain ⟨u1, eu1, hu1⟩ := bw_n (sh x 4) (m := 3) (by omega)
  rw [eu1]
  refine wp_iaload dL_act_465 hg (by omega) (by omega) (by omega) ?_
  change WP G mL_act _ _ _ _ h N 466 [some (.ref (cB G)), some (.int x), some (.ref (cB G + 169)), some (.ref (cB G + 210)), some (.ref (cB G + 211)), some (JV (S 13 0 0)), some (JV (t : Int)), none, none, none, none, none] [JV (g u1)]
  have wc := w.crew (c := u1) (by omega)
  rw [hgs u1 (by omega)]
  refine wp_istore dL_act_466 (Nat.le_of_ble_eq_true rfl) rfl ?_
  change WP G mL_act _ _ _ _ h N 468 [some (.ref (cB G)), some (.int x), some (.ref (cB G + 169)), some (.ref (cB G + 210)), some (.ref (cB G + 211)), some (JV (S 13 0 0)), some (JV (t : Int)), none, none, none, none, some (JV (S 3 u1 0))] []
  refine wp_aload_n dL_act_468 rfl ?_
  refine wp_iload_n dL_act_469 rfl ?_
  refine wp_iconst dL_act_470 ?_
  refine wp_ishrR dL_act_471 ?_
  refine wp_iconst dL_act_472 ?_
  refine wp_s2p (c_below (N := N) (x := sh x 4) (m := 3) ⟨by omega, by omega⟩) csL_49 dL_act_473 ⟨Nat.le_of_ble_eq_true rfl, Nat.le_of_ble_eq_true rfl⟩ (Nat.le_of_ble_eq_true rfl) ?_
  refine wp_iconst dL_act_476 ?_
  refine wp_iload_n dL_act_477 rfl ?_
  refine wp_bipush dL_act_478 rfl ?_
  refine wp_ishrR dL_act_480 ?_
  refine wp_iconst dL_act_481 ?_
  refine wp_s2p (c_below (N := N) (x := sh x 6) (m := 4) ⟨by omega, by omega⟩) csL_49 dL_act_482 ⟨Nat.le_of_ble_eq_true rfl, Nat.le_of_ble_eq_true rfl⟩ (Nat.le_of_ble_eq_true rfl) ?_
  refine wp_iadd dL_act_485 ?_
  rw [eu1]
  obtain ⟨u2, eu2, hu2⟩ := bw_n (sh x 6) (m := 4) (by omega)
  rw [eu2]
  refine wp_iastore dL_act_486 hg (by omega) (by omega) (by omega) ?_
  obtain ⟨h_1, eh_1⟩ : ∃ hh9 : AH, hh9 = hup h (cB G + 210) (eI G 3 (fup g u1 (1 + ((u2 : Int))))) := ⟨_, rfl⟩
  refine WP.heq eh_1 ?_
  have c1_0 : h_1 (cB G + 210) = some (eI G 3 (fup g u1 (1 + ((u2 : Int))))) := by rw [eh_1]; exact hup_self _ _ _
  refine wp_aload_n dL_act_487 rfl ?_
  refine wp_iload_n dL_act_488 rfl ?_
  refine wp_iconst dL_act_489 ?_
  refine wp_ishrR dL_act_490 ?_
  refine wp_iconst dL_act_491 ?_
  refine wp_s2p (c_below (N := N) (x := sh x 4) (m := 3) ⟨by omega, by omega⟩) csL_49 dL_act_492 ⟨Nat.le_of_ble_eq_true rfl, Nat.le_of_ble_eq_true rfl⟩ (Nat.le_of_ble_eq_true rfl) ?_
  refine wp_iconst dL_act_495 ?_
  refine wp_iload_n dL_act_496 rfl ?_
  refine wp_bipush dL_act_497 rfl ?_
  refine wp_ishrR dL_act_499 ?_
  refine wp_iconst dL_act_500 ?_
  refine wp_s2p (c_below (N := N) (x := sh x 6) (m := 4) ⟨by omega, by omega⟩) csL_49 dL_act_501 ⟨Nat.le_of_ble_eq_true rfl, Nat.le_of_ble_eq_true rfl⟩ (Nat.le_of_ble_eq_true rfl) ?_
  refine wp_iadd dL_act_504 ?_
  refine wp_iload_n dL_act_505 rfl ?_
  refine wp_bipush dL_act_506 rfl ?_
  refine wp_ishrR dL_act_508 ?_
  refine wp_bipush dL_act_509 rfl ?_
  refine wp_s2p (c_below (N := N) (x := sh x 8) (m := 9) ⟨by omega, by omega⟩) csL_49 dL_act_511 ⟨Nat.le_of_ble_eq_true rfl, Nat.le_of_ble_eq_true rfl⟩ (Nat.le_of_ble_eq_true rfl) ?_
  have sp_k := sp.reghost (h' := h_1) (fun q hq => hup_at eh_1 (by omega))
  rw [eu1]
  rw [eu2]
  obtain ⟨u3, eu3, hu3⟩ := bw_n (sh x 8) (m := 9) (by omega)
  rw [eu3]
  refine wp_v3 2 10 (c_setCrew (N := N) sp_k (t := u1) (x := 1 + ((u2 : Int))) (y := (u3 : Int)) (by omega) ⟨by omega, by omega⟩ ⟨by omega, by omega⟩) cvL_87 dL_act_514 ⟨Nat.le_of_ble_eq_true rfl, Nat.le_of_ble_eq_true rfl⟩ (Nat.le_of_ble_eq_true rfl) sp_k.1 rfl rfl (by omega) (by omega) (fun r_514 h_514 N_514 q_514 => ?_)
  obtain ⟨hN_514, rfl, S_514, sp_514, e_514⟩ := q_514
  rw [hN_514]
  change WP G mL_act _ _ _ _ h_514 N 517 [some (.ref (cB G)), some (.int x), some (.ref (cB G + 169)), some (.ref (cB G + 210)), some (.ref (cB G + 211)), some (JV (S 13 0 0)), some (JV (t : Int)), none, none, none, none, some (JV (S 3 u1 0))] [JV (S 3 u1 0)]
  refine wp_iload dL_act_517 rfl ?_
  refine wp_icmp_ne 526 dL_act_519 (by decide) ⟨by omega, by omega⟩ ⟨by omega, by omega⟩ (fun c_519 => ?_) (fun c_519 => ?_)
  · exfalso
    omega
  · refine wp_iconst dL_act_522 ?_
    refine wp_goto 527 dL_act_523 (by decide) ?_
    refine wp_zret dL_act_527 rfl (by omega) ?_
    exact hQ _ _ _ _ _ (I.crew hg hgs eh_1 sp_514 e_514)
theorem act_keep (I : INV9 G h N S st K) {t : Nat} (ht : (t : Int) < max 1 (S 13 0 0)) (hQ : ∀ (h1 : AH) (N1 : Nat) (S1 : ST) (st1 : Int) (K1 : KTup), INV9 G h1 N1 S1 st1 K1 → Q (some (JV 1)) h1 N1) : WP G mL_act Q X 2 10 h N 566 [some (.ref (cB G)), some (.int x), some (.ref (cB G + 169)), some (.ref (cB G + 210)), some (.ref (cB G + 211)), some (JV (S 13 0 0)), some (JV (t : Int)), none, none, none, none, none] [] := by
  have sp := I.sp
  have w := I.wf
  have wT := w.nT
  have wL := w.nL
  have n9 := I.n9
  refine wp_aload_n dL_act_566 rfl ?_
  refine wp_v0 2 10 (c_keep (N := N) sp) cvL_96 dL_act_567 ⟨Nat.le_of_ble_eq_true rfl, Nat.le_of_ble_eq_true rfl⟩ (Nat.le_of_ble_eq_true rfl) sp.1 rfl rfl (by omega) (by omega) (fun r_567 h_567 N_567 q_567 => ?_)
  obtain ⟨hN_567, K1, eK, sp_567, v, rfl, eb, ee, lb, le, rm, ld, od, fv, ev, kp⟩ := q_567
  rw [hN_567, ev]
  have pl : PL S eb ee lb le rm ld (lvAll S lb rm (S 15 0 0) od) := ⟨od, fv, rfl⟩
  have gf := (pl.gf w I.tp).2.2.1
  clear fv ev
  generalize lvAll S lb rm (S 15 0 0) od = s at *
  have kr := sp_567.2.2.2.2.2.2.1.2
  have r1 := planF_r (S := S) (kw := K1.2.2.2.2.2.1) (kr := K1.2.2.2.2.2.2.2) kr 9999 (S 13 0 0).toNat 0 (by omega)
  have r3 := earn_r (S := S) kr (S 13 0 0).toNat 0 (by omega)
  have r4 := wor_r w (S 13 0 0).toNat 0 (by omega)
  have r5 := earn_le w kp (S 13 0 0).toNat 0 (by omega)
  change WP G mL_act _ _ _ _ h_567 N 570 [some (.ref (cB G)), some (.int x), some (.ref (cB G + 169)), some (.ref (cB G + 210)), some (.ref (cB G + 211)), some (JV (S 13 0 0)), some (JV (t : Int)), none, none, none, none, none] [JV s.2.2.2.2.1]
  refine wp_iload dL_act_570 rfl ?_
  refine wp_aload_n dL_act_572 rfl ?_
  refine wp_v0 2 10 (g_stuck (N := N) pl sp_567) cvL_99 dL_act_573 ⟨Nat.le_of_ble_eq_true rfl, Nat.le_of_ble_eq_true rfl⟩ (Nat.le_of_ble_eq_true rfl) sp_567.1 rfl rfl (by omega) (by omega) (fun r_573 h_573 N_573 hq_573 => ?_)
  obtain ⟨rfl, hN_573, sp_573⟩ := hq_573
  rw [hN_573]
  change WP G mL_act _ _ _ _ h_573 N 576 [some (.ref (cB G)), some (.int x), some (.ref (cB G + 169)), some (.ref (cB G + 210)), some (.ref (cB G + 211)), some (JV (S 13 0 0)), some (JV (t : Int)), none, none, none, none, none] [JV (S 13 0 0 - s.2.2.2.2.1), JV (S 13 0 0), JV s.2.2.2.2.1]
  refine wp_isub dL_act_576 ?_
  refine wp_icmp_ne 617 dL_act_577 (by decide) ⟨by omega, by omega⟩ ⟨by omega, by omega⟩ (fun c_577 => ?_) (fun c_577 => ?_)
  · exfalso
    omega
  · refine wp_aload_n dL_act_580 rfl ?_
    refine wp_sipush dL_act_581 rfl ?_
    refine wp_v1p (c_planned (N := N) sp_573 (d := 9999) ⟨by omega, by omega⟩) cvL_102 dL_act_584 ⟨Nat.le_of_ble_eq_true rfl, Nat.le_of_ble_eq_true rfl⟩ (Nat.le_of_ble_eq_true rfl) sp_573.1 rfl rfl ?_
    refine wp_aload_n dL_act_587 rfl ?_
    refine wp_iload_n dL_act_588 rfl ?_
    refine wp_iconst dL_act_589 ?_
    refine wp_ishrR dL_act_590 ?_
    refine wp_bipush dL_act_591 rfl ?_
    refine wp_s2p (c_below (N := N) (x := sh x 4) (m := 30) ⟨by omega, by omega⟩) csL_49 dL_act_593 ⟨Nat.le_of_ble_eq_true rfl, Nat.le_of_ble_eq_true rfl⟩ (Nat.le_of_ble_eq_true rfl) ?_
    obtain ⟨u1, eu1, hu1⟩ := bw_n (sh x 4) (m := 30) (by omega)
    rw [eu1]
    have r2 := planF_r (S := S) (kw := K1.2.2.2.2.2.1) (kr := K1.2.2.2.2.2.2.2) kr (u1 : Int) (S 13 0 0).toNat 0 (by omega)
    have r6 := planF_m (S := S) (kw := K1.2.2.2.2.2.1) (kr := K1.2.2.2.2.2.2.2) kr (d := (u1 : Int)) (d' := 9999) (by omega) (S 13 0 0).toNat 0 (by omega)
    refine wp_v1p (c_planned (N := N) sp_573 (d := (u1 : Int)) ⟨by omega, by omega⟩) cvL_102 dL_act_596 ⟨Nat.le_of_ble_eq_true rfl, Nat.le_of_ble_eq_true rfl⟩ (Nat.le_of_ble_eq_true rfl) sp_573.1 rfl rfl ?_
    refine wp_icmp_lt 617 dL_act_599 (by decide) ⟨by omega, by omega⟩ ⟨by omega, by omega⟩ (fun c_599 => ?_) (fun c_599 => ?_)
    · exfalso
      omega
    · refine wp_aload_n dL_act_602 rfl ?_
      refine wp_v0p (c_earned (N := N) sp_573) cvL_105 dL_act_603 ⟨Nat.le_of_ble_eq_true rfl, Nat.le_of_ble_eq_true rfl⟩ (Nat.le_of_ble_eq_true rfl) sp_573.1 rfl rfl ?_
      refine wp_aload_n dL_act_606 rfl ?_
      refine wp_v0p (c_worth (N := N) sp_573) cvL_108 dL_act_607 ⟨Nat.le_of_ble_eq_true rfl, Nat.le_of_ble_eq_true rfl⟩ (Nat.le_of_ble_eq_true rfl) sp_573.1 rfl rfl ?_
      refine wp_icmp_gt 617 dL_act_610 (by decide) ⟨by omega, by omega⟩ ⟨by omega, by omega⟩ (fun c_610 => ?_) (fun c_610 => ?_)
      · exfalso
        omega
      · refine wp_iconst dL_act_613 ?_
        refine wp_goto 618 dL_act_614 (by decide) ?_
        refine wp_zret dL_act_618 rfl (by omega) ?_
        exact hQ _ _ _ _ _ (I.mv sp_573 eK (Nat.le_refl _) (fun _ _ => rfl))
end Act

/-! ===== the law: links told and dropped; an act ===== -/
section Act2
variable {G : Ctx} {h : AH} {N : Nat} {S : ST} {st : Int} {K : KTup} {Q : PQ} {X : PX} {k9 n9 : Nat} {x : Int32}
theorem act_row (I : INV9 G h N S st K) {t v : Nat} (hn : S 14 0 0 < 40) {S1 : ST} {h1 : AH} (sp1 : SPI G h1 S1 1 K) (al : ALx S (t : Int) (v : Int) (bw (sh x 3) 3) (bw (sh x 9) 4) S1) (hQ : ∀ (h1 : AH) (N1 : Nat) (S1 : ST) (st1 : Int) (K1 : KTup), INV9 G h1 N1 S1 st1 K1 → Q (some (JV 1)) h1 N1) : WP G mL_act Q X 2 10 h1 N 166 [some (.ref (cB G)), some (.int x), some (.ref (cB G + 169)), some (.ref (cB G + 210)), some (.ref (cB G + 211)), some (JV (S 13 0 0)), some (JV (t : Int)), some (JV (v : Int)), none, none, none, none] [JV (S 14 0 0)] := by
  have w := I.wf
  have wL := w.nL
  have dN := I.lw.2
  obtain ⟨L, hp⟩ := I.lw.1.1
  have g := I.sp.gg sp1 rfl
  refine wp_istore dL_act_166 (Nat.le_of_ble_eq_true rfl) rfl ?_
  refine wp_iconst dL_act_168 ?_
  refine wp_newI (m := 4) (k2 := 1) (n2 := 6) dL_act_169 ar_int rfl (by decide) (by omega) (by omega) ?_
  obtain ⟨h2, eh2⟩ : ∃ h2 : AH, h2 = hup h1 N (eI G 4 (fun _ => 0)) := ⟨_, rfl⟩
  refine WP.heq eh2 ?_
  have c2 : h2 N = some (eI G 4 (fun _ => 0)) := by rw [eh2]; exact hup_self _ _ _
  change WP G mL_act _ _ 1 6 h2 (N + 1) 171 [some (.ref (cB G)), some (.int x), some (.ref (cB G + 169)), some (.ref (cB G + 210)), some (.ref (cB G + 211)), some (JV (S 13 0 0)), some (JV (t : Int)), some (JV (v : Int)), some (JV (S 14 0 0)), none, none, none] [.ref N]
  refine wp_dup dL_act_171 rfl ?_
  refine wp_iconst dL_act_172 ?_
  refine wp_iload dL_act_173 rfl ?_
  refine wp_iastore dL_act_175 c2 (by omega) (by omega) (by omega) ?_
  obtain ⟨h3, eh3⟩ : ∃ h3 : AH, h3 = hup h2 N (eI G 4 (fup (fun _ => 0) 0 (t : Int))) := ⟨_, rfl⟩
  refine WP.heq eh3 ?_
  have c3 : h3 N = some (eI G 4 (fup (fun _ => 0) 0 (t : Int))) := by rw [eh3]; exact hup_self _ _ _
  refine wp_dup dL_act_176 rfl ?_
  refine wp_iconst dL_act_177 ?_
  refine wp_iload dL_act_178 rfl ?_
  refine wp_iastore dL_act_180 c3 (by omega) (by omega) (by omega) ?_
  obtain ⟨h4, eh4⟩ : ∃ h4 : AH, h4 = hup h3 N (eI G 4 (fup (fup (fun _ => 0) 0 (t : Int)) 1 (v : Int))) := ⟨_, rfl⟩
  refine WP.heq eh4 ?_
  have c4 : h4 N = some (eI G 4 (fup (fup (fun _ => 0) 0 (t : Int)) 1 (v : Int))) := by rw [eh4]; exact hup_self _ _ _
  refine wp_dup dL_act_181 rfl ?_
  refine wp_iconst dL_act_182 ?_
  refine wp_iload_n dL_act_183 rfl ?_
  refine wp_iconst dL_act_184 ?_
  refine wp_ishrR dL_act_185 ?_
  refine wp_iconst dL_act_186 ?_
  refine wp_s2p (c_below (N := N + 1) (x := sh x 3) (m := 3) ⟨by omega, by omega⟩) csL_49 dL_act_187 ⟨Nat.le_of_ble_eq_true rfl, Nat.le_of_ble_eq_true rfl⟩ (Nat.le_of_ble_eq_true rfl) ?_
  refine wp_iastore dL_act_190 c4 (by omega) (by omega) (by omega) ?_
  obtain ⟨h5, eh5⟩ : ∃ h5 : AH, h5 = hup h4 N (eI G 4 (fup (fup (fup (fun _ => 0) 0 (t : Int)) 1 (v : Int)) 2 (bw (sh x 3) 3))) := ⟨_, rfl⟩
  refine WP.heq eh5 ?_
  have c5 : h5 N = some (eI G 4 (fup (fup (fup (fun _ => 0) 0 (t : Int)) 1 (v : Int)) 2 (bw (sh x 3) 3))) := by rw [eh5]; exact hup_self _ _ _
  refine wp_dup dL_act_191 rfl ?_
  refine wp_iconst dL_act_192 ?_
  refine wp_iload_n dL_act_193 rfl ?_
  refine wp_bipush dL_act_194 rfl ?_
  refine wp_ishrR dL_act_196 ?_
  refine wp_iconst dL_act_197 ?_
  refine wp_s2p (c_below (N := N + 1) (x := sh x 9) (m := 4) ⟨by omega, by omega⟩) csL_49 dL_act_198 ⟨Nat.le_of_ble_eq_true rfl, Nat.le_of_ble_eq_true rfl⟩ (Nat.le_of_ble_eq_true rfl) ?_
  refine wp_iastore dL_act_201 c5 (by omega) (by omega) (by omega) ?_
  obtain ⟨r, er⟩ : ∃ r : Nat → Int, r = fup (fup (fup (fup (fun _ => 0) 0 (t : Int)) 1 (v : Int)) 2 (bw (sh x 3) 3)) 3 (bw (sh x 9) 4) := ⟨_, rfl⟩
  obtain ⟨h6, eh6⟩ : ∃ h6 : AH, h6 = hup h5 N (eI G 4 r) := ⟨_, rfl⟩
  have eh6' : h6 = hup h5 N (eI G 4 (fup (fup (fup (fup (fun _ => 0) 0 (t : Int)) 1 (v : Int)) 2 (bw (sh x 3) 3)) 3 (bw (sh x 9) 4))) := by rw [eh6, er]
  refine WP.heq eh6' ?_
  have e6 : h6 = hup h1 N (eI G 4 r) := by rw [eh6, eh5, eh4, eh3, eh2, hup_hup, hup_hup, hup_hup, hup_hup]
  have c6 : h6 N = some (eI G 4 r) := by rw [eh6]; exact hup_self _ _ _
  have o6 : h6 (cB G + 169) = some (eQ G 4 40 (fun i => if i < 40 then some (L i) else none)) := (hup_at e6 (by omega)).trans ((g _ (by omega)).trans hp.1)
  change WP G mL_act _ _ 1 6 h6 (N + 1) 202 [some (.ref (cB G)), some (.int x), some (.ref (cB G + 169)), some (.ref (cB G + 210)), some (.ref (cB G + 211)), some (JV (S 13 0 0)), some (JV (t : Int)), some (JV (v : Int)), some (JV (S 14 0 0)), none, none, none] [.ref N]
  refine wp_astore dL_act_202 (Nat.le_of_ble_eq_true rfl) rfl ?_
  refine wp_aload_n dL_act_204 rfl ?_
  refine wp_iload dL_act_205 rfl ?_
  refine wp_aload dL_act_207 rfl ?_
  refine wp_aastoreI dL_act_209 o6 c6 (by omega) (by omega) (by omega) ?_
  obtain ⟨h7, eh7⟩ : ∃ h7 : AH, h7 = hup h6 (cB G + 169) (eQ G 4 40 (fup (fun i => if i < 40 then some (L i) else none) (S 14 0 0).toNat (some N))) := ⟨_, rfl⟩
  refine WP.heq eh7 ?_
  have I2 := I.link sp1 al hn e6 (Nat.le_refl _) (by rw [er]; rfl) (by rw [er]; rfl) (by rw [er]; rfl) (by rw [er]; rfl) hp eh7
  have e14 := al.2.1
  change WP G mL_act _ _ 1 6 h7 (N + 1) 210 [some (.ref (cB G)), some (.int x), some (.ref (cB G + 169)), some (.ref (cB G + 210)), some (.ref (cB G + 211)), some (JV (S 13 0 0)), some (JV (t : Int)), some (JV (v : Int)), some (JV (S 14 0 0)), some (.ref N), none, none] []
  refine wp_iload dL_act_210 rfl ?_
  refine wp_aload_n dL_act_212 rfl ?_
  refine wp_v0p (c_links (N := N + 1) I2.sp) cvL_59 dL_act_213 ⟨Nat.le_of_ble_eq_true rfl, Nat.le_of_ble_eq_true rfl⟩ (Nat.le_of_ble_eq_true rfl) I2.sp.1 rfl rfl ?_
  refine wp_iconst dL_act_216 ?_
  refine wp_isub dL_act_217 ?_
  refine wp_icmp_ne 225 dL_act_218 (by decide) ⟨by omega, by omega⟩ ⟨by omega, by omega⟩ (fun c_218 => ?_) (fun c_218 => ?_)
  · exfalso
    omega
  · refine wp_iconst dL_act_221 ?_
    refine wp_goto 226 dL_act_222 (by decide) ?_
    refine wp_zret dL_act_226 rfl (Or.inr rfl) ?_
    exact hQ _ _ _ _ _ I2
theorem act_link (I : INV9 G h N S st K) {t : Nat} (ht : (t : Int) < max 1 (S 13 0 0)) (hQ : ∀ (h1 : AH) (N1 : Nat) (S1 : ST) (st1 : Int) (K1 : KTup), INV9 G h1 N1 S1 st1 K1 → Q (some (JV 1)) h1 N1) : WP G mL_act Q X 2 10 h N 128 [some (.ref (cB G)), some (.int x), some (.ref (cB G + 169)), some (.ref (cB G + 210)), some (.ref (cB G + 211)), some (JV (S 13 0 0)), some (JV (t : Int)), none, none, none, none, none] [] := by
  have sp := I.sp
  have w := I.wf
  have wT := w.nT
  have wL := w.nL
  have n9 := I.n9
  refine wp_iload_n dL_act_128 rfl ?_
  refine wp_bipush dL_act_129 rfl ?_
  refine wp_ishrR dL_act_131 ?_
  refine wp_iconst dL_act_132 ?_
  refine wp_iload dL_act_133 rfl ?_
  refine wp_max dL_act_135 maL_43 w_max (Nat.le_of_ble_eq_true rfl) (Nat.le_of_ble_eq_true rfl) ⟨by omega, by omega⟩ ⟨by omega, by omega⟩ ?_
  refine wp_s2p (c_below (N := N) (x := sh x 7) (m := max 1 (S 13 0 0)) ⟨by omega, by omega⟩) csL_49 dL_act_138 ⟨Nat.le_of_ble_eq_true rfl, Nat.le_of_ble_eq_true rfl⟩ (Nat.le_of_ble_eq_true rfl) ?_
  obtain ⟨u1, eu1, hu1⟩ := bw_n (sh x 7) (m := (max 1 (S 13 0 0))) (by omega)
  rw [eu1]
  refine wp_istore dL_act_141 (Nat.le_of_ble_eq_true rfl) rfl ?_
  change WP G mL_act _ _ _ _ h N 143 [some (.ref (cB G)), some (.int x), some (.ref (cB G + 169)), some (.ref (cB G + 210)), some (.ref (cB G + 211)), some (JV (S 13 0 0)), some (JV (t : Int)), some (JV (u1 : Int)), none, none, none, none] []
  refine wp_aload_n dL_act_143 rfl ?_
  refine wp_iload dL_act_144 rfl ?_
  refine wp_iload dL_act_146 rfl ?_
  refine wp_iload_n dL_act_148 rfl ?_
  refine wp_iconst dL_act_149 ?_
  refine wp_ishrR dL_act_150 ?_
  refine wp_iconst dL_act_151 ?_
  refine wp_s2p (c_below (N := N) (x := sh x 3) (m := 3) ⟨by omega, by omega⟩) csL_49 dL_act_152 ⟨Nat.le_of_ble_eq_true rfl, Nat.le_of_ble_eq_true rfl⟩ (Nat.le_of_ble_eq_true rfl) ?_
  refine wp_iload_n dL_act_155 rfl ?_
  refine wp_bipush dL_act_156 rfl ?_
  refine wp_ishrR dL_act_158 ?_
  refine wp_iconst dL_act_159 ?_
  refine wp_s2p (c_below (N := N) (x := sh x 9) (m := 4) ⟨by omega, by omega⟩) csL_49 dL_act_160 ⟨Nat.le_of_ble_eq_true rfl, Nat.le_of_ble_eq_true rfl⟩ (Nat.le_of_ble_eq_true rfl) ?_
  have k1 := bw_r (sh x 3) (m := 3) (by omega)
  have k2 := bw_r (sh x 9) (m := 4) (by omega)
  by_cases hx0 : ¬ ((t : Int) < S 13 0 0)
  · refine wp_callVx (k2 := 1) (n2 := 4) (x_link0 (N := N) sp (t := (t : Int)) ⟨by omega, by omega⟩ (y := (u1 : Int)) ⟨by omega, by omega⟩ (x := bw (sh x 3) 3) ⟨by omega, by omega⟩ (z := bw (sh x 9) 4) ⟨by omega, by omega⟩ (by omega)) cvL_55 dL_act_163 ⟨Nat.le_of_ble_eq_true rfl, Nat.le_of_ble_eq_true rfl⟩ (Nat.le_of_ble_eq_true rfl) sp.1 rfl rfl rfl rfl (by omega) (by omega) (fun r h1 N1 q => q.elim) (fun E h1 N1 q => ?_)
    obtain ⟨rfl, rfl, hN1⟩ := q
    refine VX_catch2 [⟨20, 127, 622, 111⟩] ⟨128, 226, 622, 111⟩ [⟨227, 318, 622, 111⟩, ⟨319, 379, 622, 111⟩, ⟨380, 527, 622, 111⟩, ⟨528, 618, 622, 111⟩, ⟨20, 127, 639, 113⟩, ⟨128, 226, 639, 113⟩, ⟨227, 318, 639, 113⟩, ⟨319, 379, 639, 113⟩, ⟨380, 527, 639, 113⟩, ⟨528, 618, 639, 113⟩] rfl (fun z hz => Or.inl (by revert z hz; decide)) (by decide) (by decide) clL_111 (by decide) (fun q9 => ?_)
    exact a622 sp rfl (hQ _ _ _ _ _ (I.up hN1))
  have hn0 : (t : Int) < S 13 0 0 := by omega
  have hv : (u1 : Int) < S 13 0 0 := by omega
  by_cases hx1 : ¬ (S 14 0 0 < 40)
  · refine wp_callVx (k2 := 1) (n2 := 4) (x_link3 (N := N) sp (t := (t : Int)) ⟨by omega, by omega⟩ (y := (u1 : Int)) ⟨by omega, by omega⟩ (x := bw (sh x 3) 3) ⟨by omega, by omega⟩ (z := bw (sh x 9) 4) ⟨by omega, by omega⟩ ⟨by omega, by omega⟩ ⟨by omega, by omega⟩ ⟨⟨by omega, by omega⟩, by omega, by omega⟩ hx1) cvL_55 dL_act_163 ⟨Nat.le_of_ble_eq_true rfl, Nat.le_of_ble_eq_true rfl⟩ (Nat.le_of_ble_eq_true rfl) sp.1 rfl rfl rfl rfl (by omega) (by omega) (fun r h1 N1 q => q.elim) (fun E h1 N1 q => ?_)
    obtain ⟨rfl, rfl, hN1⟩ := q
    refine VX_catch2 [⟨20, 127, 622, 111⟩, ⟨128, 226, 622, 111⟩, ⟨227, 318, 622, 111⟩, ⟨319, 379, 622, 111⟩, ⟨380, 527, 622, 111⟩, ⟨528, 618, 622, 111⟩, ⟨20, 127, 639, 113⟩] ⟨128, 226, 639, 113⟩ [⟨227, 318, 639, 113⟩, ⟨319, 379, 639, 113⟩, ⟨380, 527, 639, 113⟩, ⟨528, 618, 639, 113⟩] rfl (fun z hz => by
        by_cases hz9 : z = ⟨128, 226, 622, 111⟩
        · exact Or.inr ⟨by rw [hz9]; decide, x_ioobe, by rw [hz9]; exact clL_111, by decide⟩
        · exact Or.inl (by revert z hz hz9; decide)) (by decide) (by decide) clL_113 (by decide) (fun q9 => ?_)
    exact a639 sp rfl (hQ _ _ _ _ _ (I.up hN1))
  have hn1 : S 14 0 0 < 40 := by omega
  by_cases hr : Rch S u1 t
  · refine wp_callVx (k2 := 1) (n2 := 4) (x_link4 (N := N) sp (t := (t : Int)) ⟨by omega, by omega⟩ (y := (u1 : Int)) ⟨by omega, by omega⟩ (x := bw (sh x 3) 3) ⟨by omega, by omega⟩ (z := bw (sh x 9) 4) ⟨by omega, by omega⟩ ⟨by omega, by omega⟩ ⟨by omega, by omega⟩ ⟨⟨by omega, by omega⟩, by omega, by omega⟩ hn1 (by rw [Int.toNat_natCast, Int.toNat_natCast]; exact hr)) cvL_55 dL_act_163 ⟨Nat.le_of_ble_eq_true rfl, Nat.le_of_ble_eq_true rfl⟩ (Nat.le_of_ble_eq_true rfl) sp.1 rfl rfl rfl rfl (by omega) (by omega) (fun r h1 N1 q => q.elim) (fun E h1 N1 q => ?_)
    obtain ⟨rfl, hN1, S1, sp1, e1⟩ := q
    refine VX_catch2 [⟨20, 127, 622, 111⟩, ⟨128, 226, 622, 111⟩, ⟨227, 318, 622, 111⟩, ⟨319, 379, 622, 111⟩, ⟨380, 527, 622, 111⟩, ⟨528, 618, 622, 111⟩, ⟨20, 127, 639, 113⟩] ⟨128, 226, 639, 113⟩ [⟨227, 318, 639, 113⟩, ⟨319, 379, 639, 113⟩, ⟨380, 527, 639, 113⟩, ⟨528, 618, 639, 113⟩] rfl (fun z hz => by
        by_cases hz9 : z = ⟨128, 226, 622, 111⟩
        · exact Or.inr ⟨by rw [hz9]; decide, x_ioobe, by rw [hz9]; exact clL_111, by decide⟩
        · exact Or.inl (by revert z hz hz9; decide)) (by decide) (by decide) clL_113 (by decide) (fun q9 => ?_)
    exact a639 sp1 (by rw [e1 13 (by decide)]) (hQ _ _ _ _ _ (I.mv sp1 rfl hN1 (fun f hf => e1 f (by omega))))
  · refine wp_v4 2 10 (c_link (N := N) sp I.xi (fr := t) (to := u1) (ki := bw (sh x 3) 3) (lg := bw (sh x 9) 4) hn0 hv ⟨by omega, by omega⟩ ⟨by omega, by omega⟩ hn1 hr) cvL_55 dL_act_163 ⟨Nat.le_of_ble_eq_true rfl, Nat.le_of_ble_eq_true rfl⟩ (Nat.le_of_ble_eq_true rfl) sp.1 rfl rfl (by omega) (by omega) (fun r h1 N1 q => ?_)
    obtain ⟨hN1, rfl, S1, sp1, al⟩ := q
    rw [hN1]
    exact act_row I hn1 sp1 al hQ
theorem act_rows (I : INV9 G h N S st K) {l n : Nat} (hl : l < n) (hn : S 14 0 0 = (n : Int)) {S1 : ST} {h1 : AH} (sp1 : SPI G h1 S1 1 K) (e0 : ∀ f, f ≠ 14 → f ≠ 18 → S1 f = S f) (e14 : S1 14 0 0 = (n : Int) - 1) (e18 : ∀ i, S1 18 i 0 = tkO (fun i => S 18 i 0) l n i) {t : Nat} {L : Nat → Nat} (hp : LNK G h N S L) (hQ : ∀ (h1 : AH) (N1 : Nat) (S1 : ST) (st1 : Int) (K1 : KTup), INV9 G h1 N1 S1 st1 K1 → Q (some (JV 1)) h1 N1) : ∀ (m j : Nat) (h2 : AH), n - 1 - j = m → l ≤ j → j + 1 ≤ n → (∀ q, q ≠ cB G + 169 → h2 q = h1 q) → h2 (cB G + 169) = some (eQ G 4 40 (fun i => if i < 40 then some (if l ≤ i ∧ i < j then L (i + 1) else L i) else none)) → WP G mL_act Q X k9 n9 h2 N 254 [some (.ref (cB G)), some (.int x), some (.ref (cB G + 169)), some (.ref (cB G + 210)), some (.ref (cB G + 211)), some (JV (S 13 0 0)), some (JV (t : Int)), none, none, none, some (JV (l : Int)), some (JV (j : Int))] [] := by
  have w := I.wf
  have wL := w.nL
  have dN := I.lw.2
  have g := I.sp.gg sp1 rfl
  intro m
  induction m with
  | zero =>
    intro j h2 hm hlj hjn e2 e9
    have sp2 := sp1.reghost (h' := h2) (fun q hq => e2 q (by omega))
    refine wp_iload dL_act_254 rfl ?_
    refine wp_aload_n dL_act_256 rfl ?_
    refine wp_v0p (c_links (N := N) sp2) cvL_59 dL_act_257 ⟨Nat.le_of_ble_eq_true rfl, Nat.le_of_ble_eq_true rfl⟩ (Nat.le_of_ble_eq_true rfl) sp2.1 rfl rfl ?_
    refine wp_icmp_ge 279 dL_act_260 (by decide) ⟨by omega, by omega⟩ ⟨by omega, by omega⟩ (fun c_260 => ?_) (fun c_260 => ?_)
    · refine wp_goto 619 dL_act_279 (by decide) ?_
      refine a619 (hQ _ _ _ _ _ (I.drop hl hn sp1 e0 e14 e18 hp (L2 := fun i => if l ≤ i ∧ i < j then L (i + 1) else L i) e2 e9 (fun i => ?_)))
      have ej : j = n - 1 := by omega
      by_cases hc : l ≤ i ∧ i < j
      · rw [if_pos hc, if_pos (by omega)]
      · rw [if_neg hc, if_neg (by omega)]
    · exfalso; omega
  | succ m ih =>
    intro j h2 hm hlj hjn e2 e9
    have sp2 := sp1.reghost (h' := h2) (fun q hq => e2 q (by omega))
    obtain ⟨⟨b1, b2, b3⟩, f, f1, f2⟩ := hp.2 (j + 1) (by omega)
    have c9 : h2 (L (j + 1)) = some (eI G 4 f) := (e2 _ (by omega)).trans ((g _ (by omega)).trans f1)
    refine wp_iload dL_act_254 rfl ?_
    refine wp_aload_n dL_act_256 rfl ?_
    refine wp_v0p (c_links (N := N) sp2) cvL_59 dL_act_257 ⟨Nat.le_of_ble_eq_true rfl, Nat.le_of_ble_eq_true rfl⟩ (Nat.le_of_ble_eq_true rfl) sp2.1 rfl rfl ?_
    refine wp_icmp_ge 279 dL_act_260 (by decide) ⟨by omega, by omega⟩ ⟨by omega, by omega⟩ (fun c_260 => ?_) (fun c_260 => ?_)
    · exfalso; omega
    · refine wp_aload_n dL_act_263 rfl ?_
      refine wp_iload dL_act_264 rfl ?_
      refine wp_aload_n dL_act_266 rfl ?_
      refine wp_iload dL_act_267 rfl ?_
      refine wp_iconst dL_act_269 ?_
      refine wp_iadd dL_act_270 ?_
      refine wp_aaload (b := L (j + 1)) dL_act_271 e9 rfl rfl (by omega) (by omega) (by omega) (by
        rw [show ((j : Int) + 1).toNat = j + 1 by omega]
        show (if j + 1 < 40 then some (if l ≤ j + 1 ∧ j + 1 < j then L (j + 1 + 1) else L (j + 1)) else none) = some (L (j + 1))
        rw [if_pos (by omega), if_neg (by omega)]) ?_
      refine wp_aastoreI dL_act_272 e9 c9 (by omega) (by omega) (by omega) ?_
      obtain ⟨h3, eh3⟩ : ∃ h3 : AH, h3 = hup h2 (cB G + 169) (eQ G 4 40 (fup (fun i => if i < 40 then some (if l ≤ i ∧ i < j then L (i + 1) else L i) else none) ((j : Int)).toNat (some (L (j + 1))))) := ⟨_, rfl⟩
      refine WP.heq eh3 ?_
      change WP G mL_act _ _ _ _ h3 N 273 [some (.ref (cB G)), some (.int x), some (.ref (cB G + 169)), some (.ref (cB G + 210)), some (.ref (cB G + 211)), some (JV (S 13 0 0)), some (JV (t : Int)), none, none, none, some (JV (l : Int)), some (JV (j : Int))] []
      refine wp_iinc dL_act_273 rfl (Nat.le_of_ble_eq_true rfl) rfl ?_
      change WP G mL_act _ _ _ _ h3 N 276 [some (.ref (cB G)), some (.int x), some (.ref (cB G + 169)), some (.ref (cB G + 210)), some (.ref (cB G + 211)), some (JV (S 13 0 0)), some (JV (t : Int)), none, none, none, some (JV (l : Int)), some (JV ((j : Int) + 1))] []
      refine wp_goto 254 dL_act_276 (by decide) ?_
      refine ih (j + 1) h3 (by omega) (by omega) (by omega) (fun q hq => (hup_at eh3 hq).trans (e2 q hq)) ?_
      rw [eh3, hup_self]
      have e : fup (fun i => if i < 40 then some (if l ≤ i ∧ i < j then L (i + 1) else L i) else none) ((j : Int)).toNat (some (L (j + 1))) = fun i => if i < 40 then some (if l ≤ i ∧ i < j + 1 then L (i + 1) else L i) else none := by
        funext i
        unfold fup
        rw [Int.toNat_natCast]
        by_cases hi : i = j
        · rw [if_pos hi, if_pos (by omega), if_pos (by omega), hi]
        · rw [if_neg hi]
          show (if i < 40 then some (if l ≤ i ∧ i < j then L (i + 1) else L i) else none) = if i < 40 then some (if l ≤ i ∧ i < j + 1 then L (i + 1) else L i) else none
          by_cases h40 : i < 40
          · rw [if_pos h40, if_pos h40]
            by_cases hc : l ≤ i ∧ i < j
            · rw [if_pos hc, if_pos (by omega)]
            · rw [if_neg hc, if_neg (by omega)]
          · rw [if_neg h40, if_neg h40]
      rw [e]
theorem act_drop (I : INV9 G h N S st K) {t : Nat} (ht : (t : Int) < max 1 (S 13 0 0)) (hQ : ∀ (h1 : AH) (N1 : Nat) (S1 : ST) (st1 : Int) (K1 : KTup), INV9 G h1 N1 S1 st1 K1 → Q (some (JV 1)) h1 N1) : WP G mL_act Q X 2 10 h N 227 [some (.ref (cB G)), some (.int x), some (.ref (cB G + 169)), some (.ref (cB G + 210)), some (.ref (cB G + 211)), some (JV (S 13 0 0)), some (JV (t : Int)), none, none, none, none, none] [] := by
  have sp := I.sp
  have w := I.wf
  have wT := w.nT
  have wL := w.nL
  have n9 := I.n9
  refine wp_iload_n dL_act_227 rfl ?_
  refine wp_iconst dL_act_228 ?_
  refine wp_ishrR dL_act_229 ?_
  refine wp_iconst dL_act_230 ?_
  refine wp_aload_n dL_act_231 rfl ?_
  refine wp_v0p (c_links (N := N) sp) cvL_59 dL_act_232 ⟨Nat.le_of_ble_eq_true rfl, Nat.le_of_ble_eq_true rfl⟩ (Nat.le_of_ble_eq_true rfl) sp.1 rfl rfl ?_
  refine wp_max dL_act_235 maL_43 w_max (Nat.le_of_ble_eq_true rfl) (Nat.le_of_ble_eq_true rfl) ⟨by omega, by omega⟩ ⟨by omega, by omega⟩ ?_
  refine wp_s2p (c_below (N := N) (x := sh x 4) (m := max 1 (S 14 0 0)) ⟨by omega, by omega⟩) csL_49 dL_act_238 ⟨Nat.le_of_ble_eq_true rfl, Nat.le_of_ble_eq_true rfl⟩ (Nat.le_of_ble_eq_true rfl) ?_
  obtain ⟨u1, eu1, hu1⟩ := bw_n (sh x 4) (m := (max 1 (S 14 0 0))) (by omega)
  rw [eu1]
  refine wp_istore dL_act_241 (Nat.le_of_ble_eq_true rfl) rfl ?_
  change WP G mL_act _ _ _ _ h N 243 [some (.ref (cB G)), some (.int x), some (.ref (cB G + 169)), some (.ref (cB G + 210)), some (.ref (cB G + 211)), some (JV (S 13 0 0)), some (JV (t : Int)), none, none, none, some (JV (u1 : Int)), none] []
  refine wp_aload_n dL_act_243 rfl ?_
  refine wp_iload dL_act_244 rfl ?_
  by_cases hx0 : ¬ ((u1 : Int) < S 14 0 0)
  · refine wp_callVx (k2 := 1) (n2 := 4) (x_drop0 (N := N) sp (t := (u1 : Int)) ⟨by omega, by omega⟩ (by omega)) cvL_62 dL_act_246 ⟨Nat.le_of_ble_eq_true rfl, Nat.le_of_ble_eq_true rfl⟩ (Nat.le_of_ble_eq_true rfl) sp.1 rfl rfl rfl rfl (by omega) (by omega) (fun r h1 N1 q => q.elim) (fun E h1 N1 q => ?_)
    obtain ⟨rfl, rfl, hN1⟩ := q
    refine VX_catch2 [⟨20, 127, 622, 111⟩, ⟨128, 226, 622, 111⟩] ⟨227, 318, 622, 111⟩ [⟨319, 379, 622, 111⟩, ⟨380, 527, 622, 111⟩, ⟨528, 618, 622, 111⟩, ⟨20, 127, 639, 113⟩, ⟨128, 226, 639, 113⟩, ⟨227, 318, 639, 113⟩, ⟨319, 379, 639, 113⟩, ⟨380, 527, 639, 113⟩, ⟨528, 618, 639, 113⟩] rfl (fun z hz => Or.inl (by revert z hz; decide)) (by decide) (by decide) clL_111 (by decide) (fun q9 => ?_)
    exact a622 sp rfl (hQ _ _ _ _ _ (I.up hN1))
  obtain ⟨n, en⟩ : ∃ n : Nat, S 14 0 0 = (n : Int) := ⟨(S 14 0 0).toNat, by omega⟩
  refine wp_v1 2 10 (c_drop (N := N) sp (l := u1) (n := n) (by omega) en) cvL_62 dL_act_246 ⟨Nat.le_of_ble_eq_true rfl, Nat.le_of_ble_eq_true rfl⟩ (Nat.le_of_ble_eq_true rfl) sp.1 rfl rfl (by omega) (by omega) (fun r h1 N1 q => ?_)
  obtain ⟨hN1, rfl, S1, sp1, e0, e14, e18⟩ := q
  rw [hN1]
  obtain ⟨L, hp⟩ := I.lw.1.1
  have g := I.sp.gg sp1 rfl
  change WP G mL_act _ _ 2 10 h1 N 249 [some (.ref (cB G)), some (.int x), some (.ref (cB G + 169)), some (.ref (cB G + 210)), some (.ref (cB G + 211)), some (JV (S 13 0 0)), some (JV (t : Int)), none, none, none, some (JV (u1 : Int)), none] [JV ((n : Int) - 1)]
  refine wp_pop9 dL_act_249 rfl ?_
  refine wp_iload dL_act_250 rfl ?_
  refine wp_istore dL_act_252 (Nat.le_of_ble_eq_true rfl) rfl ?_
  change WP G mL_act _ _ 2 10 h1 N 254 [some (.ref (cB G)), some (.int x), some (.ref (cB G + 169)), some (.ref (cB G + 210)), some (.ref (cB G + 211)), some (JV (S 13 0 0)), some (JV (t : Int)), none, none, none, some (JV (u1 : Int)), some (JV (u1 : Int))] []
  refine act_rows I (by omega) en sp1 e0 e14 e18 hp hQ (n - 1 - u1) u1 h1 rfl (Nat.le_refl _) (by omega) (fun q _ => rfl) ?_
  rw [g _ (by omega), hp.1]
  have e : (fun i => if i < 40 then some (L i) else none) = fun i => if i < 40 then some (if u1 ≤ i ∧ i < u1 then L (i + 1) else L i) else none := by
    funext i
    rw [if_neg (show ¬ (u1 ≤ i ∧ i < u1) by omega)]
  rw [e]
theorem act_sw (I : INV9 G h N S st K) {t : Nat} (ht : (t : Int) < max 1 (S 13 0 0)) (hQ : ∀ (h1 : AH) (N1 : Nat) (S1 : ST) (st1 : Int) (K1 : KTup), INV9 G h1 N1 S1 st1 K1 → Q (some (JV 1)) h1 N1) {j : Nat} (hj : j < 13) : WP G mL_act Q X 2 10 h N 26 [some (.ref (cB G)), some (.int x), some (.ref (cB G + 169)), some (.ref (cB G + 210)), some (.ref (cB G + 211)), some (JV (S 13 0 0)), some (JV (t : Int)), none, none, none, none, none] [JV (j : Int)] := by
  by_cases e0 : j = 0
  · subst e0
    exact wp_tsIn (off := 62) 88 dL_act_26 ⟨by omega, by omega⟩ (by omega) (by omega) (by decide) (by decide) (act_add I ht hQ)
  by_cases e1 : j = 1
  · subst e1
    exact wp_tsIn (off := 62) 88 dL_act_26 ⟨by omega, by omega⟩ (by omega) (by omega) (by decide) (by decide) (act_add I ht hQ)
  by_cases e2 : j = 2
  · subst e2
    exact wp_tsIn (off := 62) 88 dL_act_26 ⟨by omega, by omega⟩ (by omega) (by omega) (by decide) (by decide) (act_add I ht hQ)
  by_cases e3 : j = 3
  · subst e3
    exact wp_tsIn (off := 102) 128 dL_act_26 ⟨by omega, by omega⟩ (by omega) (by omega) (by decide) (by decide) (act_link I ht hQ)
  by_cases e4 : j = 4
  · subst e4
    exact wp_tsIn (off := 102) 128 dL_act_26 ⟨by omega, by omega⟩ (by omega) (by omega) (by decide) (by decide) (act_link I ht hQ)
  by_cases e5 : j = 5
  · subst e5
    exact wp_tsIn (off := 102) 128 dL_act_26 ⟨by omega, by omega⟩ (by omega) (by omega) (by decide) (by decide) (act_link I ht hQ)
  by_cases e6 : j = 6
  · subst e6
    exact wp_tsIn (off := 201) 227 dL_act_26 ⟨by omega, by omega⟩ (by omega) (by omega) (by decide) (by decide) (act_drop I ht hQ)
  by_cases e7 : j = 7
  · subst e7
    exact wp_tsIn (off := 256) 282 dL_act_26 ⟨by omega, by omega⟩ (by omega) (by omega) (by decide) (by decide) (act_need I ht hQ)
  by_cases e8 : j = 8
  · subst e8
    exact wp_tsIn (off := 319) 345 dL_act_26 ⟨by omega, by omega⟩ (by omega) (by omega) (by decide) (by decide) (act_terms I ht hQ)
  by_cases e9 : j = 9
  · subst e9
    exact wp_tsIn (off := 372) 398 dL_act_26 ⟨by omega, by omega⟩ (by omega) (by omega) (by decide) (by decide) (act_finish I ht hQ)
  by_cases e10 : j = 10
  · subst e10
    exact wp_tsIn (off := 431) 457 dL_act_26 ⟨by omega, by omega⟩ (by omega) (by omega) (by decide) (by decide) (act_crew I ht hQ)
  by_cases e11 : j = 11
  · subst e11
    exact wp_tsIn (off := 502) 528 dL_act_26 ⟨by omega, by omega⟩ (by omega) (by omega) (by decide) (by decide) (act_week I ht hQ)
  exact wp_tsOut 566 dL_act_26 ⟨by omega, by omega⟩ (by omega) (by decide) (act_keep I ht hQ)
theorem L_act (I : INV9 G h N S st K) : CH G mL_act [.ref (cB G), .int x, .ref (cB G + 169), .ref (cB G + 210), .ref (cB G + 211)] h N 2 10 (fun r h' N' => r = some (JV 1) ∧ ∃ S' st' K', INV9 G h' N' S' st' K') := by
  have sp := I.sp
  have w := I.wf
  have wT := w.nT
  have wL := w.nL
  have n9 := I.n9
  refine CH_of (by decide +kernel) (by simp [Value.category]) (Nat.le_of_ble_eq_true rfl) ?_
  change WP G mL_act _ noX 2 10 h N 0 [some (.ref (cB G)), some (.int x), some (.ref (cB G + 169)), some (.ref (cB G + 210)), some (.ref (cB G + 211)), none, none, none, none, none, none, none] []
  refine wp_aload_n dL_act_0 rfl ?_
  refine wp_v0p (c_tasks (N := N) sp) cvL_39 dL_act_1 ⟨Nat.le_of_ble_eq_true rfl, Nat.le_of_ble_eq_true rfl⟩ (Nat.le_of_ble_eq_true rfl) sp.1 rfl rfl ?_
  refine wp_istore dL_act_4 (Nat.le_of_ble_eq_true rfl) rfl ?_
  change WP G mL_act _ _ _ _ h N 6 [some (.ref (cB G)), some (.int x), some (.ref (cB G + 169)), some (.ref (cB G + 210)), some (.ref (cB G + 211)), some (JV (S 13 0 0)), none, none, none, none, none, none] []
  refine wp_iload_n dL_act_6 rfl ?_
  refine wp_iconst dL_act_7 ?_
  refine wp_ishrR dL_act_8 ?_
  refine wp_iconst dL_act_9 ?_
  refine wp_iload dL_act_10 rfl ?_
  refine wp_max dL_act_12 maL_43 w_max (Nat.le_of_ble_eq_true rfl) (Nat.le_of_ble_eq_true rfl) ⟨by omega, by omega⟩ ⟨by omega, by omega⟩ ?_
  refine wp_s2p (c_below (N := N) (x := sh x 4) (m := max 1 (S 13 0 0)) ⟨by omega, by omega⟩) csL_49 dL_act_15 ⟨Nat.le_of_ble_eq_true rfl, Nat.le_of_ble_eq_true rfl⟩ (Nat.le_of_ble_eq_true rfl) ?_
  obtain ⟨u1, eu1, hu1⟩ := bw_n (sh x 4) (m := (max 1 (S 13 0 0))) (by omega)
  rw [eu1]
  refine wp_istore dL_act_18 (Nat.le_of_ble_eq_true rfl) rfl ?_
  change WP G mL_act _ _ _ _ h N 20 [some (.ref (cB G)), some (.int x), some (.ref (cB G + 169)), some (.ref (cB G + 210)), some (.ref (cB G + 211)), some (JV (S 13 0 0)), some (JV (u1 : Int)), none, none, none, none, none] []
  refine wp_iload_n dL_act_20 rfl ?_
  refine wp_bipush dL_act_21 rfl ?_
  refine wp_s2p (c_below (N := N) (x := x) (m := 13) ⟨by omega, by omega⟩) csL_49 dL_act_23 ⟨Nat.le_of_ble_eq_true rfl, Nat.le_of_ble_eq_true rfl⟩ (Nat.le_of_ble_eq_true rfl) ?_
  obtain ⟨u2, eu2, hu2⟩ := bw_n x (m := 13) (by omega)
  rw [eu2]
  exact act_sw I hu1 (fun h1 N1 S1 st1 K1 I1 => ⟨rfl, S1, st1, K1, I1⟩) (by omega)
end Act2

/-! ===== the project written ===== -/
theorem oL_fup {b i : Nat} {g : Nat → Int} {v : Int} (hi : i < 40) : fup (oLinks b g) i (some (b + 68 + v.toNat)) = oLinks b (fup g i v) := by
  funext x
  by_cases hx : x = i
  · subst hx; simp [fup, hi]
  · show fup _ _ _ x = (if x < 40 then some (b + 68 + (fup g i v x).toNat) else none)
    simp only [fup, if_neg hx]
theorem HP_18a {G : Ctx} {S : ST} {h h1 : AH} {i : Nat} {v : Int} (hi : i < 40) (H : HP G S h) (e : h1 = hup h (cB G + 5) (eQ G 8 40 (fup (oLinks (cB G) (fun i => S 18 i 0)) i (some (cB G + 68 + v.toNat))))) : HP G (su S 18 i 0 v) h1 := HP_18 H (by rw [e, oL_fup hi])
section Wr
variable {G : Ctx} {N : Nat} {S : ST} {h : AH}
theorem c_appendTask {le ca : Int} (H : HP G S h) (hn : 0 ≤ S 13 0 0 ∧ S 13 0 0 < 24) : CT G mX8_appendTask [.ref (cB G + 1), JV le, JV ca] h N 0 0 (fun r h' N' => N' = N ∧ r = some (JV (S 13 0 0)) ∧ ∃ S', HP G S' h' ∧ (∀ f, f ≠ 5 → f ≠ 6 → f ≠ 13 → f ≠ 16 → S' f = S f) ∧ S' 13 0 0 = S 13 0 0 + 1 ∧ (∀ i, S' 5 i 0 = if i = (S 13 0 0).toNat then le else S 5 i 0) ∧ (∀ i, S' 6 i 0 = if i = (S 13 0 0).toNat then ca else S 6 i 0) ∧ (∀ i, S' 16 i 0 = if i = (S 13 0 0).toNat then S 13 0 0 else S 16 i 0) ∧ FR (cB G + 1) (cB G + 68) h h') := by
  refine CT_of (by decide +kernel) rfl (by simp [Value.category]) (Nat.le_of_ble_eq_true rfl) ?_
  change WP G mX8_appendTask _ noX _ _ h N 0 [some (.ref (cB G + 1)), some (JV le), some (JV ca), none] []
  refine wp_aload_n dX8_appendTask_0 rfl ?_
  refine wp_get fkX8_60 dX8_appendTask_1 H.1 rfl ?_
  refine wp_istore_n dX8_appendTask_4 (Nat.le_of_ble_eq_true rfl) rfl ?_
  change WP G mX8_appendTask _ _ _ _ h N 5 [some (.ref (cB G + 1)), some (JV le), some (JV ca), some (JV (S 13 0 0))] []
  refine wp_aload_n dX8_appendTask_5 rfl ?_
  refine wp_get fkX8_25 dX8_appendTask_6 H.1 rfl ?_
  refine wp_iload_n dX8_appendTask_9 rfl ?_
  refine wp_aaload dX8_appendTask_10 H.2.2.2.1 rfl rfl (by omega) (by omega) (by omega) (if_pos (by omega)) ?_
  refine wp_iload_n dX8_appendTask_11 rfl ?_
  refine wp_put fkX8_57 dX8_appendTask_12 (H.2.2.2.2.2.2.2.2.2.2.1 (S 13 0 0).toNat (by omega)) rfl rfl (Nat.le_of_ble_eq_true rfl) ?_
  obtain ⟨h_1, eh_1⟩ : ∃ hh9 : AH, hh9 = hup h (cB G + 20 + 2 * (S 13 0 0).toNat) (eO 9 [JV le, JV (S 6 (S 13 0 0).toNat 0), JV (S 7 (S 13 0 0).toNat 0), JV (S 8 (S 13 0 0).toNat 0), JV (S 9 (S 13 0 0).toNat 0), JV (S 10 (S 13 0 0).toNat 0), JV (S 11 (S 13 0 0).toNat 0), .ref (cB G + 20 + 2 * (S 13 0 0).toNat + 1)]) := ⟨_, rfl⟩
  refine WP.heq eh_1 ?_
  obtain ⟨S_1, eS_1⟩ : ∃ ss9 : ST, ss9 = su S 5 ((S 13 0 0).toNat) 0 le := ⟨_, rfl⟩
  have H_1 : HP G S_1 h_1 := by rw [eS_1]; exact HP_5 (i := (S 13 0 0).toNat) (v := le) (by omega) H (eh_1.trans (by simp [cCal, cCrew, cTask, cLink, su]))
  refine wp_aload_n dX8_appendTask_15 rfl ?_
  refine wp_get fkX8_25 dX8_appendTask_16 H_1.1 rfl ?_
  refine wp_iload_n dX8_appendTask_19 rfl ?_
  refine wp_aaload dX8_appendTask_20 H_1.2.2.2.1 rfl rfl (by omega) (by omega) (by omega) (if_pos (by omega)) ?_
  refine wp_iload_n dX8_appendTask_21 rfl ?_
  refine wp_put fkX8_47 dX8_appendTask_22 (H_1.2.2.2.2.2.2.2.2.2.2.1 (S 13 0 0).toNat (by omega)) rfl rfl (Nat.le_of_ble_eq_true rfl) ?_
  obtain ⟨h_2, eh_2⟩ : ∃ hh9 : AH, hh9 = hup h_1 (cB G + 20 + 2 * (S 13 0 0).toNat) (eO 9 [JV (S_1 5 (S 13 0 0).toNat 0), JV ca, JV (S_1 7 (S 13 0 0).toNat 0), JV (S_1 8 (S 13 0 0).toNat 0), JV (S_1 9 (S 13 0 0).toNat 0), JV (S_1 10 (S 13 0 0).toNat 0), JV (S_1 11 (S 13 0 0).toNat 0), .ref (cB G + 20 + 2 * (S 13 0 0).toNat + 1)]) := ⟨_, rfl⟩
  refine WP.heq eh_2 ?_
  obtain ⟨S_2, eS_2⟩ : ∃ ss9 : ST, ss9 = su S_1 6 ((S 13 0 0).toNat) 0 ca := ⟨_, rfl⟩
  have H_2 : HP G S_2 h_2 := by rw [eS_2]; exact HP_6 (i := (S 13 0 0).toNat) (v := ca) (by omega) H_1 (eh_2.trans (by simp [cCal, cCrew, cTask, cLink, su]))
  refine wp_aload_n dX8_appendTask_25 rfl ?_
  refine wp_get fkX8_35 dX8_appendTask_26 H_2.1 rfl ?_
  refine wp_iload_n dX8_appendTask_29 rfl ?_
  refine wp_iload_n dX8_appendTask_30 rfl ?_
  refine wp_iastore dX8_appendTask_31 H_2.2.2.2.2.2.1 (by omega) (by omega) (by omega) ?_
  obtain ⟨h_3, eh_3⟩ : ∃ hh9 : AH, hh9 = hup h_2 (cB G + 6) (eI G 24 (fup (fun i => S_2 16 i 0) (S 13 0 0).toNat (S 13 0 0))) := ⟨_, rfl⟩
  refine WP.heq eh_3 ?_
  obtain ⟨S_3, eS_3⟩ : ∃ ss9 : ST, ss9 = su S_2 16 ((S 13 0 0).toNat) 0 (S 13 0 0) := ⟨_, rfl⟩
  have H_3 : HP G S_3 h_3 := by rw [eS_3]; exact HP_16 (i := (S 13 0 0).toNat) (v := S 13 0 0)  H_2 eh_3
  refine wp_aload_n dX8_appendTask_32 rfl ?_
  refine wp_dup dX8_appendTask_33 rfl ?_
  refine wp_get fkX8_60 dX8_appendTask_34 H_3.1 rfl ?_
  refine wp_iconst dX8_appendTask_37 ?_
  refine wp_iadd dX8_appendTask_38 ?_
  refine wp_put fkX8_60 dX8_appendTask_39 H_3.1 rfl rfl (Nat.le_of_ble_eq_true rfl) ?_
  obtain ⟨h_4, eh_4⟩ : ∃ hh9 : AH, hh9 = hup h_3 (cB G + 1) (eO 8 [.ref (cB G + 2), .ref (cB G + 3), .ref (cB G + 4), .ref (cB G + 5), JV ((S_3 13 0 0) + 1), JV (S_3 14 0 0), JV (S_3 15 0 0), .ref (cB G + 6), .ref (cB G + 7)]) := ⟨_, rfl⟩
  refine WP.heq eh_4 ?_
  obtain ⟨S_4, eS_4⟩ : ∃ ss9 : ST, ss9 = su S_3 13 0 0 ((S_3 13 0 0) + 1) := ⟨_, rfl⟩
  have H_4 : HP G S_4 h_4 := by rw [eS_4]; exact HP_13 (v := (S_3 13 0 0) + 1)  H_3 eh_4
  refine wp_iload_n dX8_appendTask_42 rfl ?_
  refine wp_iret dX8_appendTask_43 rfl ?_
  refine ⟨rfl, rfl, S_4, H_4, fun f h5 h6 h13 h16 => by rw [eS_4, su_f h13, eS_3, su_f h16, eS_2, su_f h6, eS_1, su_f h5], ?_, fun i => ?_, fun i => ?_, fun i => ?_, ((((FR.rf.up eh_1 ⟨by omega, by omega⟩).up eh_2 ⟨by omega, by omega⟩).up eh_3 ⟨by omega, by omega⟩).up eh_4 ⟨by omega, by omega⟩)⟩
  · rw [eS_4, su_s, eS_3, su_f (by decide), eS_2, su_f (by decide), eS_1, su_f (by decide)]
  · rw [eS_4, su_f (by decide), eS_3, su_f (by decide), eS_2, su_f (by decide), eS_1]; simp only [su, true_and, and_true]
  · rw [eS_4, su_f (by decide), eS_3, su_f (by decide), eS_2]
    simp only [su, true_and, and_true]
    rw [eS_1, su_f (by decide)]
  · rw [eS_4, su_f (by decide), eS_3]
    simp only [su, true_and, and_true]
    rw [eS_2, su_f (by decide), eS_1, su_f (by decide)]

/-- the places of links when one is taken out, or put back -/
def tkO (g : Nat → Int) (l n : Nat) : Nat → Int := fun i => if l ≤ i ∧ i + 1 < n then g (i + 1) else if i + 1 = n then g l else g i
def ptB (g : Nat → Int) (l n : Nat) : Nat → Int := fun i => if i = l then g n else if l < i ∧ i ≤ n then g (i - 1) else g i
theorem l_takeOut {Q : PQ} {X : PX} {k9 n9 : Nat} {S0 : ST} {h0 : AH} {l n : Nat} (hp : ∀ i, i < 40 → 0 ≤ S0 18 i 0 ∧ S0 18 i 0 < 40) (hl : l < n) (hn : n ≤ 40) : ∀ (m : Nat) (x : Nat) (S : ST) (h : AH), ((n : Nat) - 1 - x = m) → (l ≤ x ∧ x + 1 ≤ n) → (HP G S h) → (∀ f, f ≠ 14 → f ≠ 18 → S f = S0 f) → (S 14 0 0 = (n : Int) - 1) → (∀ i, S 18 i 0 = if l ≤ i ∧ i < x then S0 18 (i + 1) 0 else S0 18 i 0) → (FR (cB G + 1) (cB G + 6) h0 h) → (∀ (S' : ST) (h' : AH), HP G S' h' → (∀ f, f ≠ 14 → f ≠ 18 → S' f = S0 f) → S' 14 0 0 = (n : Int) - 1 → (∀ i, S' 18 i 0 = tkO (fun i => S0 18 i 0) l n i) → FR (cB G + 1) (cB G + 6) h0 h' → Q none h' N) → WP G mX8_takeOut Q X k9 n9 h N 19 [some (.ref (cB G + 1)), some (JV (l : Int)), some (.ref (cB G + 68 + (S0 18 l 0).toNat)), some (JV (x : Int))] [] := by
  intro m
  induction m with
  | zero =>
    intro x S h hm hx H hf h14 h18 fr kk
    have hpl := hp l (by omega)
    refine wp_iload_n dX8_takeOut_19 rfl ?_
    refine wp_aload_n dX8_takeOut_20 rfl ?_
    refine wp_get fkX8_63 dX8_takeOut_21 H.1 rfl ?_
    refine wp_icmp_ge 47 dX8_takeOut_24 (by decide) ⟨by omega, by omega⟩ ⟨by omega, by omega⟩ (fun c_24 => ?_) (fun c_24 => ?_)
    · refine wp_aload_n dX8_takeOut_47 rfl ?_
      refine wp_get fkX8_31 dX8_takeOut_48 H.1 rfl ?_
      refine wp_aload_n dX8_takeOut_51 rfl ?_
      refine wp_get fkX8_63 dX8_takeOut_52 H.1 rfl ?_
      refine wp_aload_n dX8_takeOut_55 rfl ?_
      refine wp_aastore dX8_takeOut_56 H.2.2.2.2.1 (H.2.2.2.2.2.2.2.2.2.2.2.2 (S0 18 l 0).toNat (by omega)) rfl rfl (by omega) (by omega) (by omega) ?_
      obtain ⟨h_1, eh_1⟩ : ∃ hh9 : AH, hh9 = hup h (cB G + 5) (eQ G 8 40 (fup (oLinks (cB G) (fun i => S 18 i 0)) (S 14 0 0).toNat (some (cB G + 68 + (S0 18 l 0).toNat)))) := ⟨_, rfl⟩
      refine WP.heq eh_1 ?_
      obtain ⟨S_1, eS_1⟩ : ∃ ss9 : ST, ss9 = su S 18 ((S 14 0 0).toNat) 0 (S0 18 l 0) := ⟨_, rfl⟩
      have H_1 : HP G S_1 h_1 := by rw [eS_1]; exact HP_18a (i := (S 14 0 0).toNat) (v := (S0 18 l 0)) (by omega) H eh_1
      refine wp_vret dX8_takeOut_57 rfl ?_
      refine kk S_1 h_1 H_1 (fun f a b => by rw [eS_1, su_f b]; exact hf f a b) (by rw [eS_1, su_f (by decide)]; exact h14) (fun i => ?_) (fr.up eh_1 ⟨by omega, by omega⟩)
      have hn1 : (S 14 0 0).toNat = n - 1 := by omega
      rw [eS_1, hn1]
      simp only [su, true_and, and_true, tkO]
      by_cases hi : i = n - 1
      · rw [if_pos hi, if_neg (by omega), if_pos (by omega)]
      · rw [if_neg hi, h18]
        by_cases hc : l ≤ i ∧ i < x
        · rw [if_pos hc, if_pos (by omega)]
        · rw [if_neg hc, if_neg (by omega), if_neg (by omega)]
    · exact absurd c_24 (by omega)
  | succ m ih =>
    intro x S h hm hx H hf h14 h18 fr kk
    have hpl := hp l (by omega)
    have hs1 : S 18 ((x : Int) + 1).toNat 0 = S0 18 (x + 1) 0 := by rw [h18, if_neg (by omega)]; rfl
    have hp1 := hp (x + 1) (by omega)
    refine wp_iload_n dX8_takeOut_19 rfl ?_
    refine wp_aload_n dX8_takeOut_20 rfl ?_
    refine wp_get fkX8_63 dX8_takeOut_21 H.1 rfl ?_
    refine wp_icmp_ge 47 dX8_takeOut_24 (by decide) ⟨by omega, by omega⟩ ⟨by omega, by omega⟩ (fun c_24 => ?_) (fun c_24 => ?_)
    · exact absurd c_24 (by omega)
    · refine wp_aload_n dX8_takeOut_27 rfl ?_
      refine wp_get fkX8_31 dX8_takeOut_28 H.1 rfl ?_
      refine wp_iload_n dX8_takeOut_31 rfl ?_
      refine wp_aload_n dX8_takeOut_32 rfl ?_
      refine wp_get fkX8_31 dX8_takeOut_33 H.1 rfl ?_
      refine wp_iload_n dX8_takeOut_36 rfl ?_
      refine wp_iconst dX8_takeOut_37 ?_
      refine wp_iadd dX8_takeOut_38 ?_
      refine wp_aaload dX8_takeOut_39 H.2.2.2.2.1 rfl rfl (by omega) (by omega) (by omega) (if_pos (by omega)) ?_
      refine wp_aastore dX8_takeOut_40 H.2.2.2.2.1 (H.2.2.2.2.2.2.2.2.2.2.2.2 (S 18 ((x : Int) + 1).toNat 0).toNat (by omega)) rfl rfl (by omega) (by omega) (by omega) ?_
      obtain ⟨h_1, eh_1⟩ : ∃ hh9 : AH, hh9 = hup h (cB G + 5) (eQ G 8 40 (fup (oLinks (cB G) (fun i => S 18 i 0)) x (some (cB G + 68 + (S 18 ((x : Int) + 1).toNat 0).toNat)))) := ⟨_, rfl⟩
      refine WP.heq eh_1 ?_
      obtain ⟨S_1, eS_1⟩ : ∃ ss9 : ST, ss9 = su S 18 x 0 (S 18 ((x : Int) + 1).toNat 0) := ⟨_, rfl⟩
      have H_1 : HP G S_1 h_1 := by rw [eS_1]; exact HP_18a (i := x) (v := (S 18 ((x : Int) + 1).toNat 0)) (by omega) H eh_1
      refine wp_iinc dX8_takeOut_41 rfl (Nat.le_of_ble_eq_true rfl) rfl ?_
      change WP G mX8_takeOut _ _ _ _ h_1 N 44 [some (.ref (cB G + 1)), some (JV (l : Int)), some (.ref (cB G + 68 + (S0 18 l 0).toNat)), some (JV ((x : Int) + 1))] []
      refine wp_goto 19 dX8_takeOut_44 (by decide) ?_
      refine ih (x + 1) S_1 h_1 (by omega) (by omega) H_1 (fun f a b => by rw [eS_1, su_f b]; exact hf f a b) (by rw [eS_1, su_f (by decide)]; exact h14) (fun i => ?_) (fr.up eh_1 ⟨by omega, by omega⟩) kk
      rw [eS_1]
      simp only [su, true_and, and_true]
      by_cases hi : i = x
      · rw [if_pos hi, if_pos (by omega), hs1, hi]
      · rw [if_neg hi, h18]
        by_cases hc : l ≤ i ∧ i < x
        · rw [if_pos hc, if_pos (by omega)]
        · rw [if_neg hc, if_neg (by omega)]

theorem c_takeOut {l n : Nat} (H : HP G S h) (hp : ∀ i, i < 40 → 0 ≤ S 18 i 0 ∧ S 18 i 0 < 40) (hl : l < n) (hn : n ≤ 40) (h14 : S 14 0 0 = (n : Int)) : CT G mX8_takeOut [.ref (cB G + 1), JV (l : Int)] h N 0 0 (fun r h' N' => N' = N ∧ r = none ∧ ∃ S', HP G S' h' ∧ (∀ f, f ≠ 14 → f ≠ 18 → S' f = S f) ∧ S' 14 0 0 = (n : Int) - 1 ∧ (∀ i, S' 18 i 0 = tkO (fun i => S 18 i 0) l n i) ∧ FR (cB G + 1) (cB G + 6) h h') := by
  refine CT_of (by decide +kernel) rfl (by simp [Value.category]) (Nat.le_of_ble_eq_true rfl) ?_
  change WP G mX8_takeOut _ noX _ _ h N 0 [some (.ref (cB G + 1)), some (JV (l : Int)), none, none] []
  have hpl := hp l (by omega)
  refine wp_aload_n dX8_takeOut_0 rfl ?_
  refine wp_get fkX8_31 dX8_takeOut_1 H.1 rfl ?_
  refine wp_iload_n dX8_takeOut_4 rfl ?_
  refine wp_aaload dX8_takeOut_5 H.2.2.2.2.1 rfl rfl (by omega) (by omega) (by omega) (if_pos (by omega)) ?_
  change WP G mX8_takeOut _ _ _ _ h N 6 [some (.ref (cB G + 1)), some (JV (l : Int)), none, none] [.ref (cB G + 68 + (S 18 l 0).toNat)]
  refine wp_astore_n dX8_takeOut_6 (Nat.le_of_ble_eq_true rfl) rfl ?_
  change WP G mX8_takeOut _ _ _ _ h N 7 [some (.ref (cB G + 1)), some (JV (l : Int)), some (.ref (cB G + 68 + (S 18 l 0).toNat)), none] []
  refine wp_aload_n dX8_takeOut_7 rfl ?_
  refine wp_dup dX8_takeOut_8 rfl ?_
  refine wp_get fkX8_63 dX8_takeOut_9 H.1 rfl ?_
  refine wp_iconst dX8_takeOut_12 ?_
  refine wp_isub dX8_takeOut_13 ?_
  refine wp_put fkX8_63 dX8_takeOut_14 H.1 rfl rfl (Nat.le_of_ble_eq_true rfl) ?_
  obtain ⟨h_1, eh_1⟩ : ∃ hh9 : AH, hh9 = hup h (cB G + 1) (eO 8 [.ref (cB G + 2), .ref (cB G + 3), .ref (cB G + 4), .ref (cB G + 5), JV (S 13 0 0), JV ((S 14 0 0) - 1), JV (S 15 0 0), .ref (cB G + 6), .ref (cB G + 7)]) := ⟨_, rfl⟩
  refine WP.heq eh_1 ?_
  obtain ⟨S_1, eS_1⟩ : ∃ ss9 : ST, ss9 = su S 14 0 0 ((S 14 0 0) - 1) := ⟨_, rfl⟩
  have H_1 : HP G S_1 h_1 := by rw [eS_1]; exact HP_14 (v := (S 14 0 0) - 1)  H eh_1
  refine wp_iload_n dX8_takeOut_17 rfl ?_
  refine wp_istore_n dX8_takeOut_18 (Nat.le_of_ble_eq_true rfl) rfl ?_
  change WP G mX8_takeOut _ _ _ _ h_1 N 19 [some (.ref (cB G + 1)), some (JV (l : Int)), some (.ref (cB G + 68 + (S 18 l 0).toNat)), some (JV (l : Int))] []
  refine l_takeOut hp hl hn _ l S_1 h_1 rfl (by omega) H_1 (fun f a _ => by rw [eS_1, su_f a]) (by rw [eS_1, su_s, h14]) (fun i => by rw [eS_1, su_f (by decide), if_neg (by omega)]) (FR.rf.up eh_1 ⟨by omega, by omega⟩) (fun S' h' a b c d e => ⟨rfl, rfl, S', a, b, c, d, e⟩)

/-- a link laid behind the others -/
def AL (S : ST) (fr to ki lg : Int) (S' : ST) : Prop := (∀ f, f ≠ 14 → f ≠ 19 → f ≠ 20 → f ≠ 21 → f ≠ 22 → S' f = S f) ∧ S' 14 0 0 = S 14 0 0 + 1 ∧ (∀ i, S' 19 i 0 = if i = (S 18 (S 14 0 0).toNat 0).toNat then fr else S 19 i 0) ∧ (∀ i, S' 20 i 0 = if i = (S 18 (S 14 0 0).toNat 0).toNat then to else S 20 i 0) ∧ (∀ i, S' 21 i 0 = if i = (S 18 (S 14 0 0).toNat 0).toNat then ki else S 21 i 0) ∧ (∀ i, S' 22 i 0 = if i = (S 18 (S 14 0 0).toNat 0).toNat then lg else S 22 i 0)
theorem AL.wf {S S' : ST} {fr to ki lg : Int} (a : AL S fr to ki lg S') (w : WF S) (hn : 0 ≤ S 14 0 0 ∧ S 14 0 0 < 40) (h1 : 0 ≤ fr ∧ fr < 24) (h2 : 0 ≤ to ∧ to < 24) (h3 : 0 ≤ ki ∧ ki ≤ 2) (h4 : 0 ≤ lg ∧ lg ≤ 20) : WF S' := by
  obtain ⟨w1, w2, w3, w4, w5, w6, w7, w8, w9, w10, w11, w12, w13⟩ := w
  obtain ⟨a0, a1, a2, a3, a4, a5⟩ := a
  unfold WF
  simp only [a0 0 (by decide) (by decide) (by decide) (by decide) (by decide), a0 1 (by decide) (by decide) (by decide) (by decide) (by decide), a0 2 (by decide) (by decide) (by decide) (by decide) (by decide), a0 3 (by decide) (by decide) (by decide) (by decide) (by decide), a0 4 (by decide) (by decide) (by decide) (by decide) (by decide), a0 5 (by decide) (by decide) (by decide) (by decide) (by decide), a0 6 (by decide) (by decide) (by decide) (by decide) (by decide), a0 7 (by decide) (by decide) (by decide) (by decide) (by decide), a0 8 (by decide) (by decide) (by decide) (by decide) (by decide), a0 9 (by decide) (by decide) (by decide) (by decide) (by decide), a0 10 (by decide) (by decide) (by decide) (by decide) (by decide), a0 11 (by decide) (by decide) (by decide) (by decide) (by decide), a0 12 (by decide) (by decide) (by decide) (by decide) (by decide), a0 13 (by decide) (by decide) (by decide) (by decide) (by decide), a0 15 (by decide) (by decide) (by decide) (by decide) (by decide), a0 16 (by decide) (by decide) (by decide) (by decide) (by decide), a0 17 (by decide) (by decide) (by decide) (by decide) (by decide), a0 18 (by decide) (by decide) (by decide) (by decide) (by decide)]
  refine ⟨w1, w2, w3, w4, w5, w6, w7, by omega, w9, w10, w11, w12, fun x hx => ?_⟩
  have q := w13 x hx
  rw [a2, a3, a4, a5]
  by_cases hc : x = (S 18 (S 14 0 0).toNat 0).toNat
  · simp only [if_pos hc]
    exact ⟨h1, h2, h3, h4⟩
  · simp only [if_neg hc]
    exact q
theorem c_appendLink {fr to ki lg : Int} (H : HP G S h) (w : WF S) (hn : 0 ≤ S 14 0 0 ∧ S 14 0 0 < 40) (h1 : 0 ≤ fr ∧ fr < 24) (h2 : 0 ≤ to ∧ to < 24) (h3 : 0 ≤ ki ∧ ki ≤ 2) (h4 : 0 ≤ lg ∧ lg ≤ 20) (ac : ∀ S5, AL S fr to ki lg S5 → ACY S5) : CT G mX8_appendLink [.ref (cB G + 1), JV fr, JV to, JV ki, JV lg] h N 0 0 (fun r h' N' => N' = N ∧ r = some (JV (S 14 0 0)) ∧ ∃ S5 S', AL S fr to ki lg S5 ∧ WF S5 ∧ HP G S' h' ∧ (∀ f, f ≠ 16 → f ≠ 17 → S' f = S5 f) ∧ (∀ i, S' 17 i 0 = 0 ∨ S' 17 i 0 = 1) ∧ (∀ i, i < 24 → 0 ≤ S' 16 i 0 ∧ S' 16 i 0 < 24) ∧ TOP S' ∧ FR (cB G + 1) (cB G + 108) h h') := by
  refine CT_of (by decide +kernel) rfl (by simp [Value.category]) (Nat.le_of_ble_eq_true rfl) ?_
  change WP G mX8_appendLink _ noX _ _ h N 0 [some (.ref (cB G + 1)), some (JV fr), some (JV to), some (JV ki), some (JV lg), none] []
  have wp1 := w.perm (i := (S 14 0 0).toNat) (by omega)
  refine wp_aload_n dX8_appendLink_0 rfl ?_
  refine wp_get fkX8_31 dX8_appendLink_1 H.1 rfl ?_
  refine wp_aload_n dX8_appendLink_4 rfl ?_
  refine wp_get fkX8_63 dX8_appendLink_5 H.1 rfl ?_
  refine wp_aaload dX8_appendLink_8 H.2.2.2.2.1 rfl rfl (by omega) (by omega) (by omega) (if_pos (by omega)) ?_
  refine wp_astore dX8_appendLink_9 (Nat.le_of_ble_eq_true rfl) rfl ?_
  change WP G mX8_appendLink _ _ _ _ h N 11 [some (.ref (cB G + 1)), some (JV fr), some (JV to), some (JV ki), some (JV lg), some (.ref (cB G + 68 + (S 18 (S 14 0 0).toNat 0).toNat))] []
  refine wp_aload dX8_appendLink_11 rfl ?_
  refine wp_iload_n dX8_appendLink_13 rfl ?_
  refine wp_put fkX8_66 dX8_appendLink_14 (H.2.2.2.2.2.2.2.2.2.2.2.2 (S 18 (S 14 0 0).toNat 0).toNat (by omega)) rfl rfl (Nat.le_of_ble_eq_true rfl) ?_
  obtain ⟨h_1, eh_1⟩ : ∃ hh9 : AH, hh9 = hup h (cB G + 68 + (S 18 (S 14 0 0).toNat 0).toNat) (eO 4 [JV fr, JV (S 20 (S 18 (S 14 0 0).toNat 0).toNat 0), JV (S 21 (S 18 (S 14 0 0).toNat 0).toNat 0), JV (S 22 (S 18 (S 14 0 0).toNat 0).toNat 0)]) := ⟨_, rfl⟩
  refine WP.heq eh_1 ?_
  obtain ⟨S_1, eS_1⟩ : ∃ ss9 : ST, ss9 = su S 19 ((S 18 (S 14 0 0).toNat 0).toNat) 0 fr := ⟨_, rfl⟩
  have H_1 : HP G S_1 h_1 := by rw [eS_1]; exact HP_19 (i := (S 18 (S 14 0 0).toNat 0).toNat) (v := fr) (by omega) H (eh_1.trans (by simp [cCal, cCrew, cTask, cLink, su]))
  refine wp_aload dX8_appendLink_17 rfl ?_
  refine wp_iload_n dX8_appendLink_19 rfl ?_
  refine wp_put fkX8_69 dX8_appendLink_20 (H_1.2.2.2.2.2.2.2.2.2.2.2.2 (S 18 (S 14 0 0).toNat 0).toNat (by omega)) rfl rfl (Nat.le_of_ble_eq_true rfl) ?_
  obtain ⟨h_2, eh_2⟩ : ∃ hh9 : AH, hh9 = hup h_1 (cB G + 68 + (S 18 (S 14 0 0).toNat 0).toNat) (eO 4 [JV (S_1 19 (S 18 (S 14 0 0).toNat 0).toNat 0), JV to, JV (S_1 21 (S 18 (S 14 0 0).toNat 0).toNat 0), JV (S_1 22 (S 18 (S 14 0 0).toNat 0).toNat 0)]) := ⟨_, rfl⟩
  refine WP.heq eh_2 ?_
  obtain ⟨S_2, eS_2⟩ : ∃ ss9 : ST, ss9 = su S_1 20 ((S 18 (S 14 0 0).toNat 0).toNat) 0 to := ⟨_, rfl⟩
  have H_2 : HP G S_2 h_2 := by rw [eS_2]; exact HP_20 (i := (S 18 (S 14 0 0).toNat 0).toNat) (v := to) (by omega) H_1 (eh_2.trans (by simp [cCal, cCrew, cTask, cLink, su]))
  refine wp_aload dX8_appendLink_23 rfl ?_
  refine wp_iload_n dX8_appendLink_25 rfl ?_
  refine wp_put fkX8_72 dX8_appendLink_26 (H_2.2.2.2.2.2.2.2.2.2.2.2.2 (S 18 (S 14 0 0).toNat 0).toNat (by omega)) rfl rfl (Nat.le_of_ble_eq_true rfl) ?_
  obtain ⟨h_3, eh_3⟩ : ∃ hh9 : AH, hh9 = hup h_2 (cB G + 68 + (S 18 (S 14 0 0).toNat 0).toNat) (eO 4 [JV (S_2 19 (S 18 (S 14 0 0).toNat 0).toNat 0), JV (S_2 20 (S 18 (S 14 0 0).toNat 0).toNat 0), JV ki, JV (S_2 22 (S 18 (S 14 0 0).toNat 0).toNat 0)]) := ⟨_, rfl⟩
  refine WP.heq eh_3 ?_
  obtain ⟨S_3, eS_3⟩ : ∃ ss9 : ST, ss9 = su S_2 21 ((S 18 (S 14 0 0).toNat 0).toNat) 0 ki := ⟨_, rfl⟩
  have H_3 : HP G S_3 h_3 := by rw [eS_3]; exact HP_21 (i := (S 18 (S 14 0 0).toNat 0).toNat) (v := ki) (by omega) H_2 (eh_3.trans (by simp [cCal, cCrew, cTask, cLink, su]))
  refine wp_aload dX8_appendLink_29 rfl ?_
  refine wp_iload dX8_appendLink_31 rfl ?_
  refine wp_put fkX8_75 dX8_appendLink_33 (H_3.2.2.2.2.2.2.2.2.2.2.2.2 (S 18 (S 14 0 0).toNat 0).toNat (by omega)) rfl rfl (Nat.le_of_ble_eq_true rfl) ?_
  obtain ⟨h_4, eh_4⟩ : ∃ hh9 : AH, hh9 = hup h_3 (cB G + 68 + (S 18 (S 14 0 0).toNat 0).toNat) (eO 4 [JV (S_3 19 (S 18 (S 14 0 0).toNat 0).toNat 0), JV (S_3 20 (S 18 (S 14 0 0).toNat 0).toNat 0), JV (S_3 21 (S 18 (S 14 0 0).toNat 0).toNat 0), JV lg]) := ⟨_, rfl⟩
  refine WP.heq eh_4 ?_
  obtain ⟨S_4, eS_4⟩ : ∃ ss9 : ST, ss9 = su S_3 22 ((S 18 (S 14 0 0).toNat 0).toNat) 0 lg := ⟨_, rfl⟩
  have H_4 : HP G S_4 h_4 := by rw [eS_4]; exact HP_22 (i := (S 18 (S 14 0 0).toNat 0).toNat) (v := lg) (by omega) H_3 (eh_4.trans (by simp [cCal, cCrew, cTask, cLink, su]))
  refine wp_aload_n dX8_appendLink_36 rfl ?_
  refine wp_dup dX8_appendLink_37 rfl ?_
  refine wp_get fkX8_63 dX8_appendLink_38 H_4.1 rfl ?_
  refine wp_iconst dX8_appendLink_41 ?_
  refine wp_iadd dX8_appendLink_42 ?_
  refine wp_put fkX8_63 dX8_appendLink_43 H_4.1 rfl rfl (Nat.le_of_ble_eq_true rfl) ?_
  obtain ⟨h_5, eh_5⟩ : ∃ hh9 : AH, hh9 = hup h_4 (cB G + 1) (eO 8 [.ref (cB G + 2), .ref (cB G + 3), .ref (cB G + 4), .ref (cB G + 5), JV (S_4 13 0 0), JV ((S_4 14 0 0) + 1), JV (S_4 15 0 0), .ref (cB G + 6), .ref (cB G + 7)]) := ⟨_, rfl⟩
  refine WP.heq eh_5 ?_
  obtain ⟨S_5, eS_5⟩ : ∃ ss9 : ST, ss9 = su S_4 14 0 0 ((S_4 14 0 0) + 1) := ⟨_, rfl⟩
  have H_5 : HP G S_5 h_5 := by rw [eS_5]; exact HP_14 (v := (S_4 14 0 0) + 1)  H_4 eh_5
  refine wp_aload_n dX8_appendLink_46 rfl ?_
  have al : AL S fr to ki lg S_5 := by
    refine ⟨fun f a b c d e => by rw [eS_5, su_f a, eS_4, su_f e, eS_3, su_f d, eS_2, su_f c, eS_1, su_f b], by rw [eS_5, su_s, eS_4, su_f (by decide), eS_3, su_f (by decide), eS_2, su_f (by decide), eS_1, su_f (by decide)], fun i => ?_, fun i => ?_, fun i => ?_, fun i => ?_⟩
    · rw [eS_5, su_f (by decide), eS_4, su_f (by decide), eS_3, su_f (by decide), eS_2, su_f (by decide), eS_1]; simp only [su, true_and, and_true]
    · rw [eS_5, su_f (by decide), eS_4, su_f (by decide), eS_3, su_f (by decide), eS_2]; simp only [su, true_and, and_true]; rw [eS_1, su_f (by decide)]
    · rw [eS_5, su_f (by decide), eS_4, su_f (by decide), eS_3]; simp only [su, true_and, and_true]; rw [eS_2, su_f (by decide), eS_1, su_f (by decide)]
    · rw [eS_5, su_f (by decide), eS_4]; simp only [su, true_and, and_true]; rw [eS_3, su_f (by decide), eS_2, su_f (by decide), eS_1, su_f (by decide)]
  have w5 : WF S_5 := al.wf w hn h1 h2 h3 h4
  refine wp_v0 0 0 (c_sortTasks (N := N) H_5 w5 (ac _ al)) cvX8_78 dX8_appendLink_47 ⟨Nat.le_of_ble_eq_true rfl, Nat.le_of_ble_eq_true rfl⟩ (Nat.le_of_ble_eq_true rfl) H_5.1 rfl rfl (Nat.zero_le _) (Nat.zero_le _) (fun r h9 N9 hq => ?_)
  obtain ⟨rfl, hN9, S9, m9, p1⟩ := hq
  rw [hN9]
  have g14 : S9 14 0 0 = S 14 0 0 + 1 := by rw [m9.2.1 14 (by decide) (by decide)]; exact al.2.1
  change WP G mX8_appendLink _ _ _ _ h9 N 50 [some (.ref (cB G + 1)), some (JV fr), some (JV to), some (JV ki), some (JV lg), some (.ref (cB G + 68 + (S 18 (S 14 0 0).toNat 0).toNat))] []
  refine wp_aload_n dX8_appendLink_50 rfl ?_
  refine wp_get fkX8_63 dX8_appendLink_51 m9.1.1 rfl ?_
  refine wp_iconst dX8_appendLink_54 ?_
  refine wp_isub dX8_appendLink_55 ?_
  refine wp_iret dX8_appendLink_56 rfl ?_
  refine ⟨rfl, ?_, S_5, S9, al, w5, m9.1, m9.2.1, m9.2.2.1, m9.2.2.2.1, p1, (((((FR.rf.up eh_1 ⟨by omega, by omega⟩).up eh_2 ⟨by omega, by omega⟩).up eh_3 ⟨by omega, by omega⟩).up eh_4 ⟨by omega, by omega⟩).up eh_5 ⟨by omega, by omega⟩).tr (m9.2.2.2.2.mono (by omega) (by omega))⟩
  rw [show S9 14 0 0 - 1 = S 14 0 0 by omega]

theorem c_copyFrom {a b : Nat} {w0 f0 w fc : Int} {g f : Nat → Int} (hs : IsCal G h b w fc f) (hd1 : h a = some (eO 0 [JV w0, JV f0, .ref (a + 1)])) (hd2 : h (a + 1) = some (eZ G 1000 g)) (hg : ∀ d, g d = 0 ∨ g d = 1) (hne : a ≠ b ∧ a ≠ b + 1 ∧ a + 1 ≠ b) : CT G mX0_copyFrom [.ref a, .ref b] h N 0 0 (fun r h' N' => N' = N ∧ r = none ∧ ∃ f', IsCal G h' a w fc f' ∧ (∀ d, d < 1000 → f' d = f d) ∧ FR a (a + 2) h h') := by
  refine CT_of (by decide +kernel) rfl (by simp [Value.category]) (Nat.le_of_ble_eq_true rfl) ?_
  change WP G mX0_copyFrom _ noX _ _ h N 0 [some (.ref a), some (.ref b)] []
  refine wp_aload_n dX0_copyFrom_0 rfl ?_
  refine wp_aload_n dX0_copyFrom_1 rfl ?_
  refine wp_get fkX0_9 dX0_copyFrom_2 hs.1 rfl ?_
  refine wp_put fkX0_9 dX0_copyFrom_5 hd1 rfl rfl (Nat.le_of_ble_eq_true rfl) ?_
  obtain ⟨h_1, eh_1⟩ : ∃ hh9 : AH, hh9 = hup h a (eO 0 [JV w, JV f0, .ref (a + 1)]) := ⟨_, rfl⟩
  refine WP.heq eh_1 ?_
  have c1_0 := (hup_at eh_1 (by omega)).trans hs.1
  have c1_1 : h_1 a = some (eO 0 [JV w, JV f0, .ref (a + 1)]) := by rw [eh_1]; exact hup_self _ _ _
  have c1_2 := (hup_at eh_1 (by omega)).trans hd2
  have c1_3 := (hup_at eh_1 (by omega)).trans hs.2.1
  refine wp_aload_n dX0_copyFrom_8 rfl ?_
  refine wp_aload_n dX0_copyFrom_9 rfl ?_
  refine wp_get fkX0_19 dX0_copyFrom_10 c1_0 rfl ?_
  refine wp_put fkX0_19 dX0_copyFrom_13 c1_1 rfl rfl (Nat.le_of_ble_eq_true rfl) ?_
  obtain ⟨h_2, eh_2⟩ : ∃ hh9 : AH, hh9 = hup h_1 a (eO 0 [JV w, JV fc, .ref (a + 1)]) := ⟨_, rfl⟩
  refine WP.heq eh_2 ?_
  have c2_0 := (hup_at eh_2 (by omega)).trans c1_0
  have c2_1 : h_2 a = some (eO 0 [JV w, JV fc, .ref (a + 1)]) := by rw [eh_2]; exact hup_self _ _ _
  have c2_2 := (hup_at eh_2 (by omega)).trans c1_2
  have c2_3 := (hup_at eh_2 (by omega)).trans c1_3
  refine wp_aload_n dX0_copyFrom_16 rfl ?_
  refine wp_get fkX0_15 dX0_copyFrom_17 c2_0 rfl ?_
  refine wp_iconst dX0_copyFrom_20 ?_
  refine wp_aload_n dX0_copyFrom_21 rfl ?_
  refine wp_get fkX0_15 dX0_copyFrom_22 c2_1 rfl ?_
  refine wp_iconst dX0_copyFrom_25 ?_
  refine wp_sipush dX0_copyFrom_26 rfl ?_
  have hs5 := c2_3
  have hd5 := c2_2
  refine wp_copyI (g := g) dX0_copyFrom_29 acX0_22 w_arr (Nat.le_of_ble_eq_true rfl) (Nat.le_of_ble_eq_true rfl) 1 .boolean rfl (Or.inr ⟨rfl, fun i _ => hs.2.2.2.1 _⟩) hs5 hd5 (by decide) (by decide) (by decide) (by decide) (by decide) (by decide) (by decide) ?_
  refine wp_vret dX0_copyFrom_32 rfl ?_
  refine ⟨rfl, rfl, va_cpy f g 0 0 1000, ⟨(hup_ne (by omega)).trans c2_1, hup_self _ _ _, hs.2.2.1, fun d => ?_, hs.2.2.2.2⟩, fun d hd => ?_, ((FR.rf.up eh_1 ⟨by omega, by omega⟩).up eh_2 ⟨by omega, by omega⟩).up rfl ⟨by omega, by omega⟩⟩
  · unfold va_cpy
    split
    · exact hs.2.2.2.1 _
    · exact hg d
  · unfold va_cpy
    rw [if_pos (by omega)]
    congr 1
    omega

end Wr

/-! ===== the project's marks, and the order of its tasks ===== -/
/-- only marks were written -/
def MKd (G : Ctx) (S : ST) (h : AH) (S' : ST) (h' : AH) : Prop := HP G S' h' ∧ (∀ f, f ≠ 17 → S' f = S f) ∧ (∀ i, S' 17 i 0 = 0 ∨ S' 17 i 0 = 1) ∧ FR (cB G + 7) (cB G + 8) h h'
theorem MKd.tr {G : Ctx} {S S1 S2 : ST} {h h1 h2 : AH} (a : MKd G S h S1 h1) (b : MKd G S1 h1 S2 h2) : MKd G S h S2 h2 := ⟨b.1, fun f hf => (b.2.1 f hf).trans (a.2.1 f hf), b.2.2.1, a.2.2.2.tr b.2.2.2⟩
theorem MKd.up {G : Ctx} {S S1 : ST} {h h1 : AH} {i : Nat} {v : Int} {e : va_E} (w : ∀ i, S 17 i 0 = 0 ∨ S 17 i 0 = 1) (hv : v = 0 ∨ v = 1) (eS : S1 = su S 17 i 0 v) (H1 : HP G S1 h1) (eh : h1 = hup h (cB G + 7) e) : MKd G S h S1 h1 := by
  refine ⟨H1, fun f hf => by rw [eS]; exact su_f hf, fun j => ?_, FR.rf.up eh ⟨by omega, by omega⟩⟩
  rw [eS]
  by_cases hj : j = i
  · subst hj; rw [su_s]; exact hv
  · rw [su_i hj]; exact w j
theorem WF.mk {S S' : ST} (w : WF S) (a : ∀ f, f ≠ 17 → S' f = S f) (b : ∀ i, S' 17 i 0 = 0 ∨ S' 17 i 0 = 1) : WF S' := by
  obtain ⟨w1, w2, w3, w4, w5, w6, w7, w8, w9, w10, w11, w12, w13⟩ := w
  unfold WF
  simp only [a 0 (by decide), a 1 (by decide), a 2 (by decide), a 3 (by decide), a 4 (by decide), a 5 (by decide), a 6 (by decide), a 7 (by decide), a 8 (by decide), a 9 (by decide), a 10 (by decide), a 11 (by decide), a 12 (by decide), a 13 (by decide), a 14 (by decide), a 15 (by decide), a 16 (by decide), a 18 (by decide), a 19 (by decide), a 20 (by decide), a 21 (by decide), a 22 (by decide)]
  exact ⟨w1, w2, w3, w4, w5, w6, w7, w8, w9, w10, b, w12, w13⟩
theorem MKd.wf {G : Ctx} {S S' : ST} {h h' : AH} (m : MKd G S h S' h') (w : WF S) : WF S' := w.mk m.2.1 m.2.2.1
theorem lF_of {S S' : ST} (a : S' 18 = S 18) (b : S' 19 = S 19) (j : Nat) : lF S' j = lF S j := by unfold lF; rw [a, b]
theorem lT_of {S S' : ST} (a : S' 18 = S 18) (b : S' 20 = S 20) (j : Nat) : lT S' j = lT S j := by unfold lT; rw [a, b]
/-- b is among what is reached along links from a -/
def Rch (S : ST) (a b : Nat) : Prop := ∀ M : Nat → Prop, M a → (∀ j : Nat, (j : Int) < S 14 0 0 → M (lF S j).toNat → M (lT S j).toNat) → M b
/-- links between tasks that there are; the order has each task once, each link's start ahead of its goal -/
def TOP (S : ST) : Prop :=
  (∀ j : Nat, (j : Int) < S 14 0 0 → (0 ≤ lF S j ∧ lF S j < S 13 0 0) ∧ 0 ≤ lT S j ∧ lT S j < S 13 0 0) ∧
  (∀ k : Nat, (k : Int) < S 13 0 0 → 0 ≤ S 16 k 0 ∧ S 16 k 0 < S 13 0 0) ∧
  (∀ i k : Nat, (i : Int) < S 13 0 0 → (k : Int) < S 13 0 0 → S 16 i 0 = S 16 k 0 → i = k) ∧
  (∀ t : Int, 0 ≤ t → t < S 13 0 0 → ∃ k : Nat, (k : Int) < S 13 0 0 ∧ S 16 k 0 = t) ∧
  (∀ k j : Nat, (k : Int) < S 13 0 0 → (j : Int) < S 14 0 0 → lT S j = S 16 k 0 → ∃ i : Nat, i < k ∧ S 16 i 0 = lF S j)
section Marks
variable {G : Ctx} {N : Nat}
theorem l_clearMarks {Q : PQ} {X : PX} {k n : Nat}  : ∀ (m : Nat) (i : Nat) (S : ST) (h : AH), (24 - i = m) → (i ≤ 24) → (HP G S h) → (∀ i, S 17 i 0 = 0 ∨ S 17 i 0 = 1) → (∀ j, j < i → S 17 j 0 = 0) → (∀ (S' : ST) (h' : AH), MKd G S h S' h' → (∀ j, j < 24 → S' 17 j 0 = 0) → Q none h' N) → WP G mX8_clearMarks Q X k n h N 2 [some (.ref (cB G + 1)), some (JV (i : Int))] [] := by
  intro m
  induction m with
  | zero =>
    intro i S h hm hi H wm hz kk
    refine wp_iload_n dX8_clearMarks_2 rfl ?_
    refine wp_bipush dX8_clearMarks_3 rfl ?_
    refine wp_icmp_ge 21 dX8_clearMarks_5 (by decide) ⟨by omega, by omega⟩ ⟨by omega, by omega⟩ (fun c_5 => ?_) (fun c_5 => ?_)
    · refine wp_vret dX8_clearMarks_21 rfl ?_
      exact kk S h ⟨H, fun _ _ => rfl, wm, FR.rf⟩ (fun j hj => hz j (by omega))
    · exact absurd c_5 (by omega)
  | succ m ih =>
    intro i S h hm hi H wm hz kk
    refine wp_iload_n dX8_clearMarks_2 rfl ?_
    refine wp_bipush dX8_clearMarks_3 rfl ?_
    refine wp_icmp_ge 21 dX8_clearMarks_5 (by decide) ⟨by omega, by omega⟩ ⟨by omega, by omega⟩ (fun c_5 => ?_) (fun c_5 => ?_)
    · exact absurd c_5 (by omega)
    · refine wp_aload_n dX8_clearMarks_8 rfl ?_
      refine wp_get fkX8_39 dX8_clearMarks_9 H.1 rfl ?_
      refine wp_iload_n dX8_clearMarks_12 rfl ?_
      refine wp_iconst dX8_clearMarks_13 ?_
      refine wp_zastore dX8_clearMarks_14 H.2.2.2.2.2.2.1 (by omega) (by omega) (by omega) (Or.inl rfl) ?_
      obtain ⟨h_1, eh_1⟩ : ∃ hh9 : AH, hh9 = hup h (cB G + 7) (eZ G 24 (fup (fun i => S 17 i 0) i 0)) := ⟨_, rfl⟩
      refine WP.heq eh_1 ?_
      obtain ⟨S_1, eS_1⟩ : ∃ ss9 : ST, ss9 = su S 17 i 0 0 := ⟨_, rfl⟩
      have H_1 : HP G S_1 h_1 := by rw [eS_1]; exact HP_17 (i := i) (v := 0)  H eh_1
      refine wp_iinc dX8_clearMarks_15 rfl (Nat.le_of_ble_eq_true rfl) rfl ?_
      change WP G mX8_clearMarks _ _ _ _ h_1 N 18 [some (.ref (cB G + 1)), some (JV ((i : Int) + 1))] []
      refine wp_goto 2 dX8_clearMarks_18 (by decide) ?_
      have mk := MKd.up wm (Or.inl rfl) eS_1 H_1 eh_1
      refine ih (i + 1) S_1 h_1 (by omega) (by omega) H_1 mk.2.2.1 (fun j hj => ?_) (fun S' h' a b => kk S' h' (mk.tr a) b)
      rw [eS_1]
      by_cases hji : j = i
      · subst hji; exact su_s
      · rw [su_i hji]; exact hz j (by omega)

theorem c_clearMarks {S : ST} {h : AH} (H : HP G S h) (wm : ∀ i, S 17 i 0 = 0 ∨ S 17 i 0 = 1) : CT G mX8_clearMarks [.ref (cB G + 1)] h N 0 0 (fun r h' N' => r = none ∧ N' = N ∧ ∃ S', MKd G S h S' h' ∧ ∀ j, j < 24 → S' 17 j 0 = 0) := by
  refine CT_of (by decide +kernel) rfl (by simp [Value.category]) (Nat.le_of_ble_eq_true rfl) ?_
  change WP G mX8_clearMarks _ noX _ _ h N 0 [some (.ref (cB G + 1)), none] []
  refine wp_iconst dX8_clearMarks_0 ?_
  refine wp_istore_n dX8_clearMarks_1 (Nat.le_of_ble_eq_true rfl) rfl ?_
  change WP G mX8_clearMarks _ _ _ _ h N 2 [some (.ref (cB G + 1)), some (JV 0)] []
  exact l_clearMarks 24 0 S h rfl (by omega) H wm (fun j hj => absurd hj (by omega)) (fun S' h' a b => ⟨rfl, rfl, S', a, b⟩)

theorem l_markBehind {Q : PQ} {X : PX} {k n : Nat} {t : Int} (ht : 0 ≤ t ∧ t < 24) : ∀ (m : Nat) (i : Nat) (S : ST) (h : AH), ((S 14 0 0).toNat - i = m) → (i ≤ 40) → (HP G S h) → (WF S) → (∀ (S' : ST) (h' : AH), MKd G S h S' h' → (∀ j, i ≤ j → (j : Int) < S 14 0 0 → lF S j = t → S' 17 (lT S j).toNat 0 = 1) → (∀ x, S 17 x 0 = 1 → S' 17 x 0 = 1) → (∀ x, S' 17 x 0 = 1 → S 17 x 0 = 1 ∨ ∃ j : Nat, (j : Int) < S 14 0 0 ∧ lF S j = t ∧ (lT S j).toNat = x) → Q none h' N) → WP G mX8_markBehind Q X k n h N 2 [some (.ref (cB G + 1)), some (JV t), some (JV (i : Int))] [] := by
  intro m
  induction m with
  | zero =>
    intro i S h hm hi H w kk
    have wL := w.nL
    refine wp_iload_n dX8_markBehind_2 rfl ?_
    refine wp_aload_n dX8_markBehind_3 rfl ?_
    refine wp_get fkX8_63 dX8_markBehind_4 H.1 rfl ?_
    refine wp_icmp_ge 44 dX8_markBehind_7 (by decide) ⟨by omega, by omega⟩ ⟨by omega, by omega⟩ (fun c_7 => ?_) (fun c_7 => ?_)
    · refine wp_vret dX8_markBehind_44 rfl ?_
      exact kk S h ⟨H, fun _ _ => rfl, w.marks, FR.rf⟩ (fun j h1 h2 => absurd h2 (by omega)) (fun _ q => q) (fun _ q => Or.inl q)
    · exact absurd c_7 (by omega)
  | succ m ih =>
    intro i S h hm hi H w kk
    have wL := w.nL
    refine wp_iload_n dX8_markBehind_2 rfl ?_
    refine wp_aload_n dX8_markBehind_3 rfl ?_
    refine wp_get fkX8_63 dX8_markBehind_4 H.1 rfl ?_
    refine wp_icmp_ge 44 dX8_markBehind_7 (by decide) ⟨by omega, by omega⟩ ⟨by omega, by omega⟩ (fun c_7 => ?_) (fun c_7 => ?_)
    · exact absurd c_7 (by omega)
    · have wi := w.at (i := i) (by omega)
      refine wp_aload_n dX8_markBehind_10 rfl ?_
      refine wp_get fkX8_31 dX8_markBehind_11 H.1 rfl ?_
      refine wp_iload_n dX8_markBehind_14 rfl ?_
      refine wp_aaload dX8_markBehind_15 H.2.2.2.2.1 rfl rfl (by omega) (by omega) (by omega) (if_pos (by omega)) ?_
      change WP G mX8_markBehind _ _ _ _ h N 16 [some (.ref (cB G + 1)), some (JV t), some (JV (i : Int))] [.ref (cB G + 68 + (S 18 i 0).toNat)]
      refine wp_get fkX8_66 dX8_markBehind_16 (H.2.2.2.2.2.2.2.2.2.2.2.2 (S 18 i 0).toNat (by omega)) rfl ?_
      refine wp_iload_n dX8_markBehind_19 rfl ?_
      refine wp_icmp_ne 38 dX8_markBehind_20 (by decide) ⟨by omega, by omega⟩ ⟨by omega, by omega⟩ (fun c_20 => ?_) (fun c_20 => ?_)
      · refine wp_iinc dX8_markBehind_38 rfl (Nat.le_of_ble_eq_true rfl) rfl ?_
        change WP G mX8_markBehind _ _ _ _ h N 41 [some (.ref (cB G + 1)), some (JV t), some (JV ((i : Int) + 1))] []
        refine wp_goto 2 dX8_markBehind_41 (by decide) ?_
        refine ih (i + 1) S h (by omega) (by omega) H w (fun S' h' a b c d => kk S' h' a (fun j h1 h2 h3 => ?_) c d)
        by_cases hji : j = i
        · subst hji; exact absurd h3 c_20
        · exact b j (by omega) h2 h3
      · refine wp_aload_n dX8_markBehind_23 rfl ?_
        refine wp_get fkX8_39 dX8_markBehind_24 H.1 rfl ?_
        refine wp_aload_n dX8_markBehind_27 rfl ?_
        refine wp_get fkX8_31 dX8_markBehind_28 H.1 rfl ?_
        refine wp_iload_n dX8_markBehind_31 rfl ?_
        refine wp_aaload dX8_markBehind_32 H.2.2.2.2.1 rfl rfl (by omega) (by omega) (by omega) (if_pos (by omega)) ?_
        change WP G mX8_markBehind _ _ _ _ h N 33 [some (.ref (cB G + 1)), some (JV t), some (JV (i : Int))] [.ref (cB G + 68 + (S 18 i 0).toNat), .ref (cB G + 7)]
        refine wp_get fkX8_69 dX8_markBehind_33 (H.2.2.2.2.2.2.2.2.2.2.2.2 (S 18 i 0).toNat (by omega)) rfl ?_
        refine wp_iconst dX8_markBehind_36 ?_
        refine wp_zastore dX8_markBehind_37 H.2.2.2.2.2.2.1 (by omega) (by omega) (by omega) (Or.inr rfl) ?_
        obtain ⟨h_1, eh_1⟩ : ∃ hh9 : AH, hh9 = hup h (cB G + 7) (eZ G 24 (fup (fun i => S 17 i 0) (S 20 (S 18 i 0).toNat 0).toNat 1)) := ⟨_, rfl⟩
        refine WP.heq eh_1 ?_
        obtain ⟨S_1, eS_1⟩ : ∃ ss9 : ST, ss9 = su S 17 ((S 20 (S 18 i 0).toNat 0).toNat) 0 1 := ⟨_, rfl⟩
        have H_1 : HP G S_1 h_1 := by rw [eS_1]; exact HP_17 (i := (S 20 (S 18 i 0).toNat 0).toNat) (v := 1)  H eh_1
        refine wp_iinc dX8_markBehind_38 rfl (Nat.le_of_ble_eq_true rfl) rfl ?_
        change WP G mX8_markBehind _ _ _ _ h_1 N 41 [some (.ref (cB G + 1)), some (JV t), some (JV ((i : Int) + 1))] []
        refine wp_goto 2 dX8_markBehind_41 (by decide) ?_
        have mk := MKd.up w.marks (Or.inr rfl) eS_1 H_1 eh_1
        have q19 := mk.2.1 19 (by decide)
        have q20 := mk.2.1 20 (by decide)
        have q18 := mk.2.1 18 (by decide)
        have q14 := mk.2.1 14 (by decide)
        have hone : S_1 17 (lT S i).toNat 0 = 1 := by rw [eS_1]; exact su_s
        have hmon : ∀ x, S 17 x 0 = 1 → S_1 17 x 0 = 1 := by
          intro x hx
          rw [eS_1]
          by_cases hxi : x = (lT S i).toNat
          · rw [hxi]; exact su_s
          · rw [su_i hxi]; exact hx
        have horg : ∀ x, S_1 17 x 0 = 1 → S 17 x 0 = 1 ∨ x = (lT S i).toNat := by
          intro x hx
          by_cases hxi : x = (lT S i).toNat
          · exact Or.inr hxi
          · rw [eS_1, su_i hxi] at hx; exact Or.inl hx
        refine ih (i + 1) S_1 h_1 (by rw [q14]; omega) (by omega) H_1 (mk.wf w) (fun S' h' a b c d => kk S' h' (mk.tr a) (fun j h1 h2 h3 => ?_) (fun x hx => c x (hmon x hx)) (fun x hx => ?_))
        · by_cases hji : j = i
          · subst hji; exact c _ hone
          · have := b j (by omega) (by rw [q14]; exact h2) (by rw [lF_of q18 q19]; exact h3)
            rw [lT_of q18 q20] at this
            exact this
        · rcases d x hx with g | ⟨j, g1, g2, g3⟩
          · rcases horg x g with g | g
            · exact Or.inl g
            · exact Or.inr ⟨i, by omega, c_20, g.symm⟩
          · rw [q14] at g1
            rw [lF_of q18 q19] at g2
            rw [lT_of q18 q20] at g3
            exact Or.inr ⟨j, g1, g2, g3⟩

theorem c_markBehind {S : ST} {h : AH} {t : Int} (H : HP G S h) (w : WF S) (ht : 0 ≤ t ∧ t < 24) : CT G mX8_markBehind [.ref (cB G + 1), JV t] h N 0 0 (fun r h' N' => r = none ∧ N' = N ∧ ∃ S', MKd G S h S' h' ∧ (∀ j : Nat, (j : Int) < S 14 0 0 → lF S j = t → S' 17 (lT S j).toNat 0 = 1) ∧ (∀ x, S 17 x 0 = 1 → S' 17 x 0 = 1) ∧ (∀ x, S' 17 x 0 = 1 → S 17 x 0 = 1 ∨ ∃ j : Nat, (j : Int) < S 14 0 0 ∧ lF S j = t ∧ (lT S j).toNat = x)) := by
  refine CT_of (by decide +kernel) rfl (by simp [Value.category]) (Nat.le_of_ble_eq_true rfl) ?_
  change WP G mX8_markBehind _ noX _ _ h N 0 [some (.ref (cB G + 1)), some (JV t), none] []
  refine wp_iconst dX8_markBehind_0 ?_
  refine wp_istore_n dX8_markBehind_1 (Nat.le_of_ble_eq_true rfl) rfl ?_
  change WP G mX8_markBehind _ _ _ _ h N 2 [some (.ref (cB G + 1)), some (JV t), some (JV 0)] []
  exact l_markBehind ht _ 0 S h rfl (by omega) H w (fun S' h' a b c d => ⟨rfl, rfl, S', a, fun j => b j (by omega), c, d⟩)

theorem l_reaches {Q : PQ} {X : PX} {k9 n : Nat} {t gl : Int} {S0 : ST} {h0 : AH} (w0 : WF S0) (tp : TOP S0) (ht : 0 ≤ t ∧ t < 24) (hg : 0 ≤ gl ∧ gl < 24) : ∀ (m : Nat) (k : Nat) (S : ST) (h : AH), ((S0 13 0 0).toNat - k = m) → ((k : Int) ≤ S0 13 0 0) → (MKd G S0 h0 S h) → (S 17 t.toNat 0 = 1) → (∀ x, x < 24 → S 17 x 0 = 1 → Rch S0 t.toNat x) → (∀ j i : Nat, (j : Int) < S0 14 0 0 → i < k → lF S0 j = S0 16 i 0 → S 17 (lF S0 j).toNat 0 = 1 → S 17 (lT S0 j).toNat 0 = 1) → (∀ (S' : ST) (h' : AH) (v : Int), MKd G S0 h0 S' h' → (v = 0 ∨ v = 1) → (v = 1 ↔ Rch S0 t.toNat gl.toNat) → Q (some (JV v)) h' N) → WP G mX8_reaches Q X k9 n h N 13 [some (.ref (cB G + 1)), some (JV t), some (JV gl), some (JV (k : Int))] [] := by
  intro m
  induction m with
  | zero =>
    intro k S h hm hk mk h1 ho hcl kk
    have H := mk.1
    have w := mk.wf w0
    have wT := w0.nT
    have q13 := mk.2.1 13 (by decide)
    have q16 := mk.2.1 16 (by decide)
    have e13 : S 13 0 0 = S0 13 0 0 := by rw [q13]
    have e16 : S 16 k 0 = S0 16 k 0 := by rw [q16]
    refine wp_iload_n dX8_reaches_13 rfl ?_
    refine wp_aload_n dX8_reaches_14 rfl ?_
    refine wp_get fkX8_60 dX8_reaches_15 H.1 rfl ?_
    refine wp_icmp_ge 51 dX8_reaches_18 (by decide) ⟨by omega, by omega⟩ ⟨by omega, by omega⟩ (fun c_18 => ?_) (fun c_18 => ?_)
    · have hmg := w.marks gl.toNat
      refine wp_aload_n dX8_reaches_51 rfl ?_
      refine wp_get fkX8_39 dX8_reaches_52 H.1 rfl ?_
      refine wp_iload_n dX8_reaches_55 rfl ?_
      refine wp_zaload dX8_reaches_56 H.2.2.2.2.2.2.1 (by omega) (by omega) (by omega) ?_
      refine wp_zret dX8_reaches_57 rfl (by omega) ?_
      refine kk S h _ mk (w.marks _) ⟨fun q => ho _ (by omega) q, fun q => q (fun x => S 17 x 0 = 1) h1 fun j hj hx => ?_⟩
      obtain ⟨i, i1, i2⟩ := tp.2.2.2.1 (lF S0 j) (tp.1 j hj).1.1 (tp.1 j hj).1.2
      exact hcl j i hj (by omega) i2.symm hx
    · exact absurd c_18 (by omega)
  | succ m ih =>
    intro k S h hm hk mk h1 ho hcl kk
    have H := mk.1
    have w := mk.wf w0
    have wT := w0.nT
    have q13 := mk.2.1 13 (by decide)
    have q16 := mk.2.1 16 (by decide)
    have e13 : S 13 0 0 = S0 13 0 0 := by rw [q13]
    have e16 : S 16 k 0 = S0 16 k 0 := by rw [q16]
    refine wp_iload_n dX8_reaches_13 rfl ?_
    refine wp_aload_n dX8_reaches_14 rfl ?_
    refine wp_get fkX8_60 dX8_reaches_15 H.1 rfl ?_
    refine wp_icmp_ge 51 dX8_reaches_18 (by decide) ⟨by omega, by omega⟩ ⟨by omega, by omega⟩ (fun c_18 => ?_) (fun c_18 => ?_)
    · exact absurd c_18 (by omega)
    · have tk := tp.2.1 k (by omega)
      have hmk := w.marks (S 16 k 0).toNat
      refine wp_aload_n dX8_reaches_21 rfl ?_
      refine wp_get fkX8_39 dX8_reaches_22 H.1 rfl ?_
      refine wp_aload_n dX8_reaches_25 rfl ?_
      refine wp_get fkX8_35 dX8_reaches_26 H.1 rfl ?_
      refine wp_iload_n dX8_reaches_29 rfl ?_
      refine wp_iaload dX8_reaches_30 H.2.2.2.2.2.1 (by omega) (by omega) (by omega) ?_
      change WP G mX8_reaches _ _ _ _ h N 31 [some (.ref (cB G + 1)), some (JV t), some (JV gl), some (JV (k : Int))] [JV (S 16 k 0), .ref (cB G + 7)]
      refine wp_zaload dX8_reaches_31 H.2.2.2.2.2.2.1 (by omega) (by omega) (by omega) ?_
      refine wp_if_eq 45 dX8_reaches_32 (by decide) ⟨by omega, by omega⟩ (fun c_32 => ?_) (fun c_32 => ?_)
      · refine wp_iinc dX8_reaches_45 rfl (Nat.le_of_ble_eq_true rfl) rfl ?_
        change WP G mX8_reaches _ _ _ _ h N 48 [some (.ref (cB G + 1)), some (JV t), some (JV gl), some (JV ((k : Int) + 1))] []
        refine wp_goto 13 dX8_reaches_48 (by decide) ?_
        refine ih (k + 1) S h (by omega) (by omega) mk h1 ho (fun j i hj hi hs hx => ?_) kk
        by_cases hik : i = k
        · subst hik
          rw [hs, ← e16] at hx
          exact absurd hx (by omega)
        · exact hcl j i hj (by omega) hs hx
      · refine wp_aload_n dX8_reaches_35 rfl ?_
        refine wp_aload_n dX8_reaches_36 rfl ?_
        refine wp_get fkX8_35 dX8_reaches_37 H.1 rfl ?_
        refine wp_iload_n dX8_reaches_40 rfl ?_
        refine wp_iaload dX8_reaches_41 H.2.2.2.2.2.1 (by omega) (by omega) (by omega) ?_
        change WP G mX8_reaches _ _ _ _ h N 42 [some (.ref (cB G + 1)), some (JV t), some (JV gl), some (JV (k : Int))] [JV (S 16 k 0), .ref (cB G + 1)]
        refine wp_v1 k9 n (c_markBehind (N := N) H w (t := S 16 k 0) (by omega)) cvX8_84 dX8_reaches_42 ⟨Nat.le_of_ble_eq_true rfl, Nat.le_of_ble_eq_true rfl⟩ (Nat.le_of_ble_eq_true rfl) H.1 rfl rfl (by omega) (by omega) (fun r h9 N9 hq => ?_)
        obtain ⟨rfl, hN9, S9, m9, p1, p2, p3⟩ := hq
        rw [hN9]
        have m9' := mk.tr m9
        change WP G mX8_reaches _ _ _ _ h9 N 45 [some (.ref (cB G + 1)), some (JV t), some (JV gl), some (JV (k : Int))] []
        refine wp_iinc dX8_reaches_45 rfl (Nat.le_of_ble_eq_true rfl) rfl ?_
        change WP G mX8_reaches _ _ _ _ h9 N 48 [some (.ref (cB G + 1)), some (JV t), some (JV gl), some (JV ((k : Int) + 1))] []
        refine wp_goto 13 dX8_reaches_48 (by decide) ?_
        have q14 := mk.2.1 14 (by decide)
        have q18 := mk.2.1 18 (by decide)
        have q19 := mk.2.1 19 (by decide)
        have q20 := mk.2.1 20 (by decide)
        have hs1 : S 17 (S0 16 k 0).toNat 0 = 1 := by
          rw [← e16]
          rcases hmk with g | g
          · exact absurd g c_32
          · exact g
        refine ih (k + 1) S9 h9 (by omega) (by omega) m9' (p2 _ h1) (fun x hx24 hx => ?_) (fun j i hj hi hs hx => ?_) kk
        · rcases p3 x hx with g | ⟨j, g1, g2, g3⟩
          · exact ho x hx24 g
          · rw [q14] at g1
            rw [lF_of q18 q19] at g2
            rw [lT_of q18 q20] at g3
            rw [← g3]
            exact fun M ma mc => mc j g1 (by rw [g2, e16]; exact ho _ (by omega) hs1 M ma mc)
        · by_cases hik : i = k
          · subst hik
            have := p1 j (by rw [q14]; exact hj) (by rw [lF_of q18 q19, hs, e16])
            rw [lT_of q18 q20] at this
            exact this
          · rcases p3 _ hx with g | ⟨j9, g1, g2, g3⟩
            · exact p2 _ (hcl j i hj (by omega) hs g)
            · exfalso
              rw [q14] at g1
              rw [lF_of q18 q19, e16] at g2
              rw [lT_of q18 q20] at g3
              have r1 := tp.1 j9 g1
              have r2 := tp.1 j hj
              have g4 : lT S0 j9 = S0 16 i 0 := by rw [← hs]; omega
              obtain ⟨i9, i1, i2⟩ := tp.2.2.2.2 i j9 (by omega) g1 g4
              have := tp.2.2.1 i9 k (by omega) (by omega) (by rw [i2, g2])
              omega

theorem c_reaches {S : ST} {h : AH} {t gl : Int} (H : HP G S h) (w : WF S) (tp : TOP S) (ht : 0 ≤ t ∧ t < 24) (hg : 0 ≤ gl ∧ gl < 24) : CT G mX8_reaches [.ref (cB G + 1), JV t, JV gl] h N 0 0 (fun r h' N' => N' = N ∧ ∃ v : Int, r = some (JV v) ∧ ∃ S', MKd G S h S' h' ∧ (v = 0 ∨ v = 1) ∧ (v = 1 ↔ Rch S t.toNat gl.toNat)) := by
  refine CT_of (by decide +kernel) rfl (by simp [Value.category]) (Nat.le_of_ble_eq_true rfl) ?_
  change WP G mX8_reaches _ noX _ _ h N 0 [some (.ref (cB G + 1)), some (JV t), some (JV gl), none] []
  have wT := w.nT
  refine wp_aload_n dX8_reaches_0 rfl ?_
  refine wp_v0 0 0 (c_clearMarks (N := N) H w.marks) cvX8_81 dX8_reaches_1 ⟨Nat.le_of_ble_eq_true rfl, Nat.le_of_ble_eq_true rfl⟩ (Nat.le_of_ble_eq_true rfl) H.1 rfl rfl (Nat.zero_le _) (Nat.zero_le _) (fun r h9 N9 hq => ?_)
  obtain ⟨rfl, hN9, S9, m9, p1⟩ := hq
  rw [hN9]
  change WP G mX8_reaches _ _ _ _ h9 N 4 [some (.ref (cB G + 1)), some (JV t), some (JV gl), none] []
  refine wp_aload_n dX8_reaches_4 rfl ?_
  refine wp_get fkX8_39 dX8_reaches_5 m9.1.1 rfl ?_
  refine wp_iload_n dX8_reaches_8 rfl ?_
  refine wp_iconst dX8_reaches_9 ?_
  refine wp_zastore dX8_reaches_10 m9.1.2.2.2.2.2.2.1 (by omega) (by omega) (by omega) (Or.inr rfl) ?_
  obtain ⟨h_1, eh_1⟩ : ∃ hh9 : AH, hh9 = hup h9 (cB G + 7) (eZ G 24 (fup (fun i => S9 17 i 0) t.toNat 1)) := ⟨_, rfl⟩
  refine WP.heq eh_1 ?_
  obtain ⟨S_1, eS_1⟩ : ∃ ss9 : ST, ss9 = su S9 17 t.toNat 0 1 := ⟨_, rfl⟩
  have H_1 : HP G S_1 h_1 := by rw [eS_1]; exact HP_17 (i := t.toNat) (v := 1)  m9.1 eh_1
  refine wp_iconst dX8_reaches_11 ?_
  refine wp_istore_n dX8_reaches_12 (Nat.le_of_ble_eq_true rfl) rfl ?_
  change WP G mX8_reaches _ _ _ _ h_1 N 13 [some (.ref (cB G + 1)), some (JV t), some (JV gl), some (JV 0)] []
  have mk := m9.tr (MKd.up m9.2.2.1 (Or.inr rfl) eS_1 H_1 eh_1)
  refine l_reaches w tp ht hg _ 0 S_1 h_1 rfl (by omega) mk (by rw [eS_1]; exact su_s) (fun x hx24 hx => ?_) (fun j i hj hi => absurd hi (by omega)) (fun S' h' v a b c => ⟨rfl, v, rfl, S', a, b, c⟩)
  by_cases hxt : x = t.toNat
  · subst hxt; exact fun M ma mc => ma
  · rw [eS_1, su_i hxt] at hx
    exact absurd hx (by rw [p1 x hx24]; decide)

end Marks

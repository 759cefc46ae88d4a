/-! ===== the reference: what comes behind what ===== -/
section Mc
variable {G : Ctx} {h : AH} {N : Nat} {S M : ST} {L : Nat → Nat} {z : Int64} {K : KTup}
noncomputable def rchB (S : ST) (a b : Nat) : Bool := @decide (Rch S a b) (Classical.propDecidable _)
theorem rchB_iff {a b : Nat} : rchB S a b = true ↔ Rch S a b := by unfold rchB; exact @decide_eq_true_iff _ (Classical.propDecidable _)
theorem rchB_t {a b : Nat} (r : Rch S a b) : rchB S a b = true := rchB_iff.mpr r
theorem rchB_f {a b : Nat} (r : ¬ Rch S a b) : rchB S a b = false := Bool.eq_false_iff.mpr fun q => r (rchB_iff.mp q)
def CMI (S : ST) (a X : Nat) : Prop := X < 2 ^ 24 ∧ X.testBit a = true ∧ ∀ i, X.testBit i = true → Rch S a i
def CMC (S : ST) (X m : Nat) : Prop := ∀ j : Nat, j < m → X.testBit (lF S j).toNat = true → X.testBit (lT S j).toNat = true
theorem Rch_self {a : Nat} : Rch S a a := fun _ h _ => h
theorem Rch_step {a j : Nat} (r : Rch S a (lF S j).toNat) (hj : (j : Int) < S 14 0 0) : Rch S a (lT S j).toNat := fun M h c => c j hj (r M h c)
theorem CMI_0 {a : Nat} (ha : a < 24) : CMI S a (2 ^ a) := ⟨Nat.pow_lt_pow_right (by decide) ha, Nat.testBit_two_pow_self, fun i hi => by rw [Nat.testBit_two_pow] at hi; rw [← of_decide_eq_true hi]; exact Rch_self⟩
theorem CMI_or {a X j : Nat} (c : CMI S a X) (hj : (j : Int) < S 14 0 0) (hb : X.testBit (lF S j).toNat = true) (ht : (lT S j).toNat < 24) : CMI S a (X ||| 2 ^ (lT S j).toNat) := by
  refine ⟨Nat.or_lt_two_pow c.1 (Nat.pow_lt_pow_right (by decide) ht), by rw [Nat.testBit_or, c.2.1]; rfl, fun i hi => ?_⟩
  rw [Nat.testBit_or, Bool.or_eq_true, Nat.testBit_two_pow] at hi
  rcases hi with hi | hi
  · exact c.2.2 i hi
  · rw [← of_decide_eq_true hi]; exact Rch_step (c.2.2 _ hb) hj
theorem CMC_or {X y m : Nat} (c : X = y → CMC S y m) (hy : y ≤ X) : X ||| 2 ^ (lT S m).toNat = y → CMC S y (m + 1) := by
  intro q j hj hb
  have q1 : X ≤ X ||| 2 ^ (lT S m).toNat := Nat.left_le_or
  have q2 : X = y := by omega
  by_cases hjm : j = m
  · rw [hjm, ← q, Nat.testBit_or, Nat.testBit_two_pow_self, Bool.or_true]
  · exact c q2 j (by omega) hb
theorem CMC_no {X y m : Nat} (c : X = y → CMC S y m) (hb : X.testBit (lF S m).toNat = false) : X = y → CMC S y (m + 1) := by
  intro q j hj hx
  by_cases hjm : j = m
  · rw [hjm, ← q, hb] at hx; cases hx
  · exact c q j (by omega) hx
theorem tb_1 {X i : Nat} (e : ((X / 2 ^ i : Nat) : Int) % 2 ≠ 0) : X.testBit i = true := by
  rw [Nat.testBit_eq_decide_div_mod_eq]; exact decide_eq_true (by omega)
theorem tb_0 {X i : Nat} (e : ((X / 2 ^ i : Nat) : Int) % 2 = 0) : X.testBit i = false := by
  rw [Nat.testBit_eq_decide_div_mod_eq]; exact decide_eq_false (by omega)
theorem CM_end {a b X : Nat} (c : CMI S a X) (m : CMC S X (S 14 0 0).toNat) : X.testBit b = rchB S a b := by
  cases hb : X.testBit b
  · exact (rchB_f fun r => by
      have := r (fun i => X.testBit i = true) c.2.1 (fun j hj hx => m j (by omega) hx)
      rw [hb] at this; cases this).symm
  · exact (rchB_t (c.2.2 b hb)).symm
theorem CM_end2 {a b X y : Nat} (c : CMI S a X) (e : X = y) (m : X = y → CMC S y (S 14 0 0).toNat) : X.testBit b = rchB S a b := by subst e; exact CM_end c (m rfl)
theorem lm_comes1 {Q : PQ} {X : PX} {k9 n9 : Nat} (P : MP G N M L z h) (r : RS S M) (w : WF S) (tp : TOP S) {a b : Nat} (ha : a < 24) (hb : b < 24) {y : Nat} : ∀ (m : Nat) (i : Nat) (x : Nat), ((S 14 0 0).toNat - i = m) → ((i : Int) ≤ S 14 0 0) → (CMI S a x) → (y ≤ x) → (x = y → CMC S y i) → (∀ X' : Nat, CMI S a X' → y ≤ X' → (X' = y → CMC S y (S 14 0 0).toNat) → WP G mX11_comes Q X k9 n9 h N 7 [some (.ref (cB G + 169)), some (JV (a : Int)), some (JV (b : Int)), some (JV (X' : Int)), some (JV (y : Int)), some (JV (S 14 0 0))] []) → WP G mX11_comes Q X k9 n9 h N 19 [some (.ref (cB G + 169)), some (JV (a : Int)), some (JV (b : Int)), some (JV (x : Int)), some (JV (y : Int)), some (JV (i : Int))] [] := by
  intro m
  induction m with
  | zero =>
    intro i x hm hi hI hy hC kk
    have wL := w.nL
    have ei : S 14 0 0 = (i : Int) := by omega
    refine wp_iload dX11_comes_19 rfl ?_
    refine wp_aload_n dX11_comes_21 rfl ?_
    refine wp_get fkX11_99 dX11_comes_22 (P.s0 r) rfl ?_
    refine wp_icmp_ge 64 dX11_comes_25 (by decide) ⟨by omega, by omega⟩ ⟨by omega, by omega⟩ (fun c_25 => ?_) (fun c_25 => ?_)
    · refine wp_goto 7 dX11_comes_64 (by decide) ?_
      rw [← ei]
      exact kk x hI hy (fun q => by rw [show (S 14 0 0).toNat = i by omega]; exact hC q)
    · exact absurd c_25 (by omega)
  | succ m ih =>
    intro i x hm hi hI hy hC kk
    have wT := w.nT
    have wL := w.nL
    have tl : (0 ≤ S 19 (S 18 i 0).toNat 0 ∧ S 19 (S 18 i 0).toNat 0 < S 13 0 0) ∧ 0 ≤ S 20 (S 18 i 0).toNat 0 ∧ S 20 (S 18 i 0).toNat 0 < S 13 0 0 := tp.1 i (by omega)
    have x24 : x < 16777216 := hI.1
    refine wp_iload dX11_comes_19 rfl ?_
    refine wp_aload_n dX11_comes_21 rfl ?_
    refine wp_get fkX11_99 dX11_comes_22 (P.s0 r) rfl ?_
    refine wp_icmp_ge 64 dX11_comes_25 (by decide) ⟨by omega, by omega⟩ ⟨by omega, by omega⟩ (fun c_25 => ?_) (fun c_25 => ?_)
    · exact absurd c_25 (by omega)
    · have hk : (i : Int) < S 14 0 0 := by omega
      refine wp_iload_n dX11_comes_28 rfl ?_
      refine wp_aload_n dX11_comes_29 rfl ?_
      refine wp_get fkX11_49 dX11_comes_30 (P.s0 r) rfl ?_
      refine wp_iload dX11_comes_33 rfl ?_
      refine wp_aaload dX11_comes_35 P.qL rfl rfl (by omega) (by omega) (by omega) (if_pos (by omega)) ?_
      change WP G mX11_comes _ _ _ _ h N 36 [some (.ref (cB G + 169)), some (JV (a : Int)), some (JV (b : Int)), some (JV (x : Int)), some (JV (y : Int)), some (JV (i : Int))] [.ref (L i), JV (x : Int)]
      refine wp_iconst dX11_comes_36 ?_
      refine wp_iaload dX11_comes_37 (P.rL (i := i) (by omega)) (by omega) (by omega) (by omega) ?_
      change WP G mX11_comes _ _ _ _ h N 38 [some (.ref (cB G + 169)), some (JV (a : Int)), some (JV (b : Int)), some (JV (x : Int)), some (JV (y : Int)), some (JV (i : Int))] [JV (M 15 i 0), JV (x : Int)]
      rw [r.lF hk]
      refine wp_ishr dX11_comes_38 (by omega) (by omega) (by omega) (by omega) ?_
      have dv := Nat.div_le_self (x : Int).toNat (2 ^ (S 19 (S 18 i 0).toNat 0).toNat)
      have dv0 : 0 ≤ (((x : Int).toNat / 2 ^ (S 19 (S 18 i 0).toNat 0).toNat : Nat) : Int) := Int.natCast_nonneg _
      refine wp_iconst dX11_comes_39 ?_
      refine wp_and1 dX11_comes_40 (by omega) (by omega) ?_
      refine wp_if_eq 58 dX11_comes_41 (by decide) ⟨by omega, by omega⟩ (fun c_41 => ?_) (fun c_41 => ?_)
      · have tb := tb_0 (X := x) (i := (S 19 (S 18 i 0).toNat 0).toNat) c_41
        refine wp_iinc dX11_comes_58 rfl (Nat.le_of_ble_eq_true rfl) rfl ?_
        change WP G mX11_comes _ _ _ _ h N 61 [some (.ref (cB G + 169)), some (JV (a : Int)), some (JV (b : Int)), some (JV (x : Int)), some (JV (y : Int)), some (JV ((i : Int) + 1))] []
        refine wp_goto 19 dX11_comes_61 (by decide) ?_
        exact ih (i + 1) x (by omega) (by omega) hI hy (CMC_no hC tb) kk
      · have tb := tb_1 (X := x) (i := (S 19 (S 18 i 0).toNat 0).toNat) c_41
        refine wp_iload_n dX11_comes_44 rfl ?_
        refine wp_iconst dX11_comes_45 ?_
        refine wp_aload_n dX11_comes_46 rfl ?_
        refine wp_get fkX11_49 dX11_comes_47 (P.s0 r) rfl ?_
        refine wp_iload dX11_comes_50 rfl ?_
        refine wp_aaload dX11_comes_52 P.qL rfl rfl (by omega) (by omega) (by omega) (if_pos (by omega)) ?_
        change WP G mX11_comes _ _ _ _ h N 53 [some (.ref (cB G + 169)), some (JV (a : Int)), some (JV (b : Int)), some (JV (x : Int)), some (JV (y : Int)), some (JV (i : Int))] [.ref (L i), JV 1, JV (x : Int)]
        refine wp_iconst dX11_comes_53 ?_
        refine wp_iaload dX11_comes_54 (P.rL (i := i) (by omega)) (by omega) (by omega) (by omega) ?_
        change WP G mX11_comes _ _ _ _ h N 55 [some (.ref (cB G + 169)), some (JV (a : Int)), some (JV (b : Int)), some (JV (x : Int)), some (JV (y : Int)), some (JV (i : Int))] [JV (M 15 i 1), JV 1, JV (x : Int)]
        rw [r.lT hk]
        refine wp_ishl dX11_comes_55 (by omega) (by omega) (by omega) (by rw [show (1 : Int).toNat = 1 from rfl, Nat.one_mul]; exact Nat.lt_of_lt_of_le (Nat.pow_lt_pow_right (by decide) (show (S 20 (S 18 i 0).toNat 0).toNat < 24 by omega)) (by decide)) ?_
        rw [show (1 : Int).toNat = 1 from rfl, Nat.one_mul]
        refine wp_ior dX11_comes_56 ?_
        refine wp_istore_n dX11_comes_57 (Nat.le_of_ble_eq_true rfl) rfl ?_
        change WP G mX11_comes _ _ _ _ h N 58 [some (.ref (cB G + 169)), some (JV (a : Int)), some (JV (b : Int)), some (JV ((x ||| 2 ^ (S 20 (S 18 i 0).toNat 0).toNat : Nat) : Int)), some (JV (y : Int)), some (JV (i : Int))] []
        refine wp_iinc dX11_comes_58 rfl (Nat.le_of_ble_eq_true rfl) rfl ?_
        change WP G mX11_comes _ _ _ _ h N 61 [some (.ref (cB G + 169)), some (JV (a : Int)), some (JV (b : Int)), some (JV ((x ||| 2 ^ (S 20 (S 18 i 0).toNat 0).toNat : Nat) : Int)), some (JV (y : Int)), some (JV ((i : Int) + 1))] []
        refine wp_goto 19 dX11_comes_61 (by decide) ?_
        exact ih (i + 1) (x ||| 2 ^ (S 20 (S 18 i 0).toNat 0).toNat) (by omega) (by omega) (CMI_or hI (by omega) tb (show (S 20 (S 18 i 0).toNat 0).toNat < 24 by omega)) (Nat.le_trans hy Nat.left_le_or) (CMC_or hC hy) kk

theorem lm_comes2 {Q : PQ} {X : PX} {k9 n9 : Nat} (P : MP G N M L z h) (r : RS S M) (w : WF S) (tp : TOP S) {a b : Nat} (ha : a < 24) (hb : b < 24) : ∀ (m : Nat) (x : Nat) (y : Nat) (u : Option Value), (16777216 ≤ y + m) → (CMI S a x) → (y ≤ x) → (x = y → CMC S y (S 14 0 0).toNat) → (Q (some (JV (bI (rchB S a b)))) h N) → WP G mX11_comes Q X k9 n9 h N 7 [some (.ref (cB G + 169)), some (JV (a : Int)), some (JV (b : Int)), some (JV (x : Int)), some (JV (y : Int)), u] [] := by
  intro m
  induction m with
  | zero =>
    intro x y u hm hI hy hC kk
    have x24 : x < 16777216 := hI.1
    have x31 : (x : Int) < 2147483648 := by omega
    refine wp_iload_n dX11_comes_7 rfl ?_
    refine wp_iload dX11_comes_8 rfl ?_
    refine wp_icmp_eq 67 dX11_comes_10 (by decide) ⟨by omega, by omega⟩ ⟨by omega, by omega⟩ (fun c_10 => ?_) (fun c_10 => ?_)
    · refine wp_iload_n dX11_comes_67 rfl ?_
      refine wp_iload_n dX11_comes_68 rfl ?_
      refine wp_ishr dX11_comes_69 (by omega) (by omega) (by omega) (by omega) ?_
      have dv := Nat.div_le_self (x : Int).toNat (2 ^ (b : Int).toNat)
      have dv0 : 0 ≤ (((x : Int).toNat / 2 ^ (b : Int).toNat : Nat) : Int) := Int.natCast_nonneg _
      refine wp_iconst dX11_comes_70 ?_
      refine wp_and1 dX11_comes_71 (by omega) (by omega) ?_
      refine wp_if_eq 79 dX11_comes_72 (by decide) ⟨by omega, by omega⟩ (fun c_72 => ?_) (fun c_72 => ?_)
      · refine wp_iconst dX11_comes_79 ?_
        refine wp_zret dX11_comes_80 rfl (by omega) ?_
        rw [← CM_end2 (b := b) hI (by omega) hC, tb_0 (X := x) (i := b) c_72] at kk
        exact kk
      · refine wp_iconst dX11_comes_75 ?_
        refine wp_goto 80 dX11_comes_76 (by decide) ?_
        refine wp_zret dX11_comes_80 rfl (by omega) ?_
        rw [← CM_end2 (b := b) hI (by omega) hC, tb_1 (X := x) (i := b) c_72] at kk
        exact kk
    · exact absurd hm (by omega)
  | succ m ih =>
    intro x y u hm hI hy hC kk
    have x24 : x < 16777216 := hI.1
    have x31 : (x : Int) < 2147483648 := by omega
    refine wp_iload_n dX11_comes_7 rfl ?_
    refine wp_iload dX11_comes_8 rfl ?_
    refine wp_icmp_eq 67 dX11_comes_10 (by decide) ⟨by omega, by omega⟩ ⟨by omega, by omega⟩ (fun c_10 => ?_) (fun c_10 => ?_)
    · refine wp_iload_n dX11_comes_67 rfl ?_
      refine wp_iload_n dX11_comes_68 rfl ?_
      refine wp_ishr dX11_comes_69 (by omega) (by omega) (by omega) (by omega) ?_
      have dv := Nat.div_le_self (x : Int).toNat (2 ^ (b : Int).toNat)
      have dv0 : 0 ≤ (((x : Int).toNat / 2 ^ (b : Int).toNat : Nat) : Int) := Int.natCast_nonneg _
      refine wp_iconst dX11_comes_70 ?_
      refine wp_and1 dX11_comes_71 (by omega) (by omega) ?_
      refine wp_if_eq 79 dX11_comes_72 (by decide) ⟨by omega, by omega⟩ (fun c_72 => ?_) (fun c_72 => ?_)
      · refine wp_iconst dX11_comes_79 ?_
        refine wp_zret dX11_comes_80 rfl (by omega) ?_
        rw [← CM_end2 (b := b) hI (by omega) hC, tb_0 (X := x) (i := b) c_72] at kk
        exact kk
      · refine wp_iconst dX11_comes_75 ?_
        refine wp_goto 80 dX11_comes_76 (by decide) ?_
        refine wp_zret dX11_comes_80 rfl (by omega) ?_
        rw [← CM_end2 (b := b) hI (by omega) hC, tb_1 (X := x) (i := b) c_72] at kk
        exact kk
    · refine wp_iload_n dX11_comes_13 rfl ?_
      refine wp_istore dX11_comes_14 (Nat.le_of_ble_eq_true rfl) rfl ?_
      change WP G mX11_comes _ _ _ _ h N 16 [some (.ref (cB G + 169)), some (JV (a : Int)), some (JV (b : Int)), some (JV (x : Int)), some (JV (x : Int)), u] []
      refine wp_iconst dX11_comes_16 ?_
      refine wp_istore dX11_comes_17 (Nat.le_of_ble_eq_true rfl) rfl ?_
      change WP G mX11_comes _ _ _ _ h N 19 [some (.ref (cB G + 169)), some (JV (a : Int)), some (JV (b : Int)), some (JV (x : Int)), some (JV (x : Int)), some (JV 0)] []
      refine lm_comes1 P r w tp ha hb _ 0 x rfl (by have := w.nL; omega) hI (Nat.le_refl _) (fun _ j hj => absurd hj (by omega)) (fun X' i' y' c' => ?_)
      exact ih X' x (some (JV (S 14 0 0))) (by omega) i' y' c' kk

theorem m_comes (P : MP G N M L z h) (r : RS S M) (w : WF S) (tp : TOP S) {a b : Nat} (ha : a < 24) (hb : b < 24) : CT G mX11_comes [.ref (cB G + 169), JV (a : Int), JV (b : Int)] h N 0 0 (PV (JV (bI (rchB S a b))) h N) := by
  refine CT_of (by decide +kernel) rfl (by simp [Value.category]) (Nat.le_of_ble_eq_true rfl) ?_
  change WP G mX11_comes _ noX _ _ h N 0 [some (.ref (cB G + 169)), some (JV (a : Int)), some (JV (b : Int)), none, none, none] []
  refine wp_iconst dX11_comes_0 ?_
  refine wp_iload_n dX11_comes_1 rfl ?_
  refine wp_ishl dX11_comes_2 (by omega) (by omega) (by omega) (by rw [show (1 : Int).toNat = 1 from rfl, Nat.one_mul]; exact Nat.lt_of_lt_of_le (Nat.pow_lt_pow_right (by decide) (show (a : Int).toNat < 24 by omega)) (by decide)) ?_
  rw [show (1 : Int).toNat = 1 from rfl, Nat.one_mul, show (a : Int).toNat = a from rfl]
  refine wp_istore_n dX11_comes_3 (Nat.le_of_ble_eq_true rfl) rfl ?_
  change WP G mX11_comes _ _ _ _ h N 4 [some (.ref (cB G + 169)), some (JV (a : Int)), some (JV (b : Int)), some (JV ((2 ^ a : Nat) : Int)), none, none] []
  refine wp_iconst dX11_comes_4 ?_
  refine wp_istore dX11_comes_5 (Nat.le_of_ble_eq_true rfl) rfl ?_
  change WP G mX11_comes _ _ _ _ h N 7 [some (.ref (cB G + 169)), some (JV (a : Int)), some (JV (b : Int)), some (JV ((2 ^ a : Nat) : Int)), some (JV 0), none] []
  refine lm_comes2 P r w tp ha hb 16777216 (2 ^ a) 0 none (by omega) (CMI_0 ha) (Nat.zero_le _) (fun q => absurd q (Nat.ne_of_gt (Nat.two_pow_pos a))) ?_
  exact ⟨rfl, rfl, rfl⟩

end Mc

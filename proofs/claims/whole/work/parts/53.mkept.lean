/-! ===== the reference: the plan kept ===== -/
section Mk
variable {G : Ctx} {h : AH} {N : Nat} {S M : ST} {L : Nat → Nat} {z : Int64} {K : KTup}
/-- the reference's kept plan is K -/
def KM (S : ST) (K : KTup) (M : ST) : Prop :=
  (0 ≤ M 28 0 0 ∧ M 28 0 0 ≤ S 13 0 0) ∧
  (∀ t : Nat, t < 24 → ((t : Int) < M 28 0 0 → K.2.1 t = M 29 0 t ∧ K.2.2.1 t = M 29 1 t ∧ K.2.2.2.2.1 t = M 30 t 0 ∧ ((M 29 0 t = -1 ∧ K.2.2.2.1 t = 0) ∨ ((0 ≤ M 29 0 t ∧ 0 ≤ M 29 1 t) ∧ K.2.2.2.1 t = 1))) ∧ (¬ (t : Int) < M 28 0 0 → K.2.2.2.1 t = 0)) ∧
  (0 < M 28 0 0 → ∀ c, c < 4 → K.2.2.2.2.2.1 c = M 31 c 0 ∧ (0 ≤ M 32 c 0 ∧ M 32 c 0 ≤ 12) ∧ (∀ k : Nat, (k : Int) < M 32 c 0 → (0 ≤ M 33 c k ∧ M 33 c k ≤ 999) ∧ K.2.2.2.2.2.2.2 c (M 33 c k).toNat = 1) ∧ ∀ d : Nat, d < 1000 → K.2.2.2.2.2.2.2 c d = 1 → ∃ k : Nat, (k : Int) < M 32 c 0 ∧ M 33 c k = (d : Int))
theorem KM.of {M' : ST} (k : KM S K M) (e : ∀ f ∈ [28, 29, 30, 31, 32, 33], M' f = M f) : KM S K M' := by
  unfold KM at *
  rw [e 28 (by decide), e 29 (by decide), e 30 (by decide), e 31 (by decide), e 32 (by decide), e 33 (by decide)]
  exact k
theorem KM.hE (k : KM S K M) : ∀ t : Nat, t < 24 → K.2.2.2.1 t = 1 → 0 ≤ K.2.2.1 t := fun t ht h1 => by
  have q := k.2.1 t ht
  by_cases hk : (t : Int) < M 28 0 0
  · have := q.1 hk; omega
  · have := q.2 hk; omega
/-- what else holds of a kept plan -/
def KC (K : KTup) : Prop := KR K.2.1 K.2.2.1 K.2.2.2.1 K.2.2.2.2.1 ∧ ∀ c, c < 4 → (0 ≤ K.2.2.2.2.2.1 c ∧ K.2.2.2.2.2.1 c < 128) ∧ ∀ d, K.2.2.2.2.2.2.2 c d = 0 ∨ K.2.2.2.2.2.2.2 c d = 1
theorem KPt.kc (k : KPt G h K) : KC K := ⟨k.2, fun c hc => ⟨(k.1.2.2.2.2.2 c hc).2.2.1, (k.1.2.2.2.2.2 c hc).2.2.2.1⟩⟩
theorem m_isKept (P : MP G N M L z h) (r : RS S M) (w : WF S) (km : KM S K M) (kc : KC K) {t : Nat} (ht : t < 24) : CT G mX11_isKept [.ref (cB G + 169), JV (t : Int)] h N 0 0 (PV (JV (bI (decide (K.2.2.2.1 t = 1)))) h N) := by
  refine CT_of (by decide +kernel) rfl (by simp [Value.category]) (Nat.le_of_ble_eq_true rfl) ?_
  change WP G mX11_isKept _ noX _ _ h N 0 [some (.ref (cB G + 169)), some (JV (t : Int))] []
  have wt := w.task ht
  have kt := km.2.1 t ht
  have k0 := km.1
  have kr := kc.1.2 t ht
  have ki := kc.1.1 t
  have wT := w.nT
  refine wp_iload_n dX11_isKept_0 rfl ?_
  refine wp_aload_n dX11_isKept_1 rfl ?_
  refine wp_get fkX11_248 dX11_isKept_2 (P.s0 r) rfl ?_
  refine wp_icmp_ge 24 dX11_isKept_5 (by decide) ⟨by omega, by omega⟩ ⟨by omega, by omega⟩ (fun c_5 => ?_) (fun c_5 => ?_)
  · refine wp_iconst dX11_isKept_24 ?_
    refine wp_zret dX11_isKept_25 rfl (by omega) ?_
    refine ⟨?_, rfl, rfl⟩
    rw [bI_np (by omega)]
  · refine wp_aload_n dX11_isKept_8 rfl ?_
    refine wp_get fkX11_73 dX11_isKept_9 (P.s0 r) rfl ?_
    refine wp_iconst dX11_isKept_12 ?_
    refine wp_aaload dX11_isKept_13 P.q29 rfl rfl (by omega) (by omega) (by omega) (if_pos (by omega)) ?_
    change WP G mX11_isKept _ _ _ _ h N 14 [some (.ref (cB G + 169)), some (JV (t : Int))] [.ref (cB G + 271 + 0)]
    refine wp_iload_n dX11_isKept_14 rfl ?_
    refine wp_iaload dX11_isKept_15 (P.r29 (i := 0) (by omega)) (by omega) (by omega) (by omega) ?_
    change WP G mX11_isKept _ _ _ _ h N 16 [some (.ref (cB G + 169)), some (JV (t : Int))] [JV (M 29 0 t)]
    refine wp_iconst dX11_isKept_16 ?_
    refine wp_icmp_eq 24 dX11_isKept_17 (by decide) ⟨by omega, by omega⟩ ⟨by omega, by omega⟩ (fun c_17 => ?_) (fun c_17 => ?_)
    · refine wp_iconst dX11_isKept_24 ?_
      refine wp_zret dX11_isKept_25 rfl (by omega) ?_
      refine ⟨?_, rfl, rfl⟩
      rw [bI_np (by omega)]
    · refine wp_iconst dX11_isKept_20 ?_
      refine wp_goto 25 dX11_isKept_21 (by decide) ?_
      refine wp_zret dX11_isKept_25 rfl (by omega) ?_
      refine ⟨?_, rfl, rfl⟩
      rw [bI_pp (by omega)]

theorem earn_0 {inn ws : Nat → Int} : ∀ m i, (∀ x, i ≤ x → x < 24 → inn x = 0) → i + m ≤ 24 → earnF S inn ws m i = 0
  | 0, _, _, _ => rfl
  | m + 1, i, h, hi => by
    rw [earnF, if_neg (fun q => by have := h i (Nat.le_refl _) (by omega); omega), earn_0 m (i + 1) (fun x h1 h2 => h x (by omega) h2) (by omega)]
    rfl
theorem plan_0 {b e inn ws kw : Nat → Int} {kr : Nat → Nat → Int} {d : Int} : ∀ m i, (∀ x, i ≤ x → x < 24 → inn x = 0) → i + m ≤ 24 → planF S b e inn ws kw kr d m i = 0
  | 0, _, _, _ => rfl
  | m + 1, i, h, hi => by
    rw [planF, if_pos (h i (Nat.le_refl _) (by omega)), plan_0 m (i + 1) (fun x h1 h2 => h x (by omega) h2) (by omega)]
    rfl
theorem lm_earnedNow {Q : PQ} {X : PX} {k9 n9 : Nat} (P : MP G N M L z h) (r : RS S M) (w : WF S) (km : KM S K M) (kc : KC K) : ∀ (m : Nat) (i : Nat) (y : Int), ((S 13 0 0).toNat - i = m) → ((i : Int) ≤ S 13 0 0) → (Q (some (JV (y + earnF S K.2.2.2.1 K.2.2.2.2.1 m i))) h N) → WP G mX11_earnedNow Q X k9 n9 h N 4 [some (.ref (cB G + 169)), some (JV y), some (JV (i : Int))] [] := by
  intro m
  induction m with
  | zero =>
    intro i y hm hi kk
    have wT := w.nT
    have k0 := km.1
    refine wp_iload_n dX11_earnedNow_4 rfl ?_
    refine wp_aload_n dX11_earnedNow_5 rfl ?_
    refine wp_get fkX11_248 dX11_earnedNow_6 (P.s0 r) rfl ?_
    refine wp_icmp_ge 48 dX11_earnedNow_9 (by decide) ⟨by omega, by omega⟩ ⟨by omega, by omega⟩ (fun c_9 => ?_) (fun c_9 => ?_)
    · rw [earn_0 _ _ (fun x h1 h2 => (km.2.1 x h2).2 (by omega)) (by omega), Int.add_zero] at kk
      refine wp_iload_n dX11_earnedNow_48 rfl ?_
      refine wp_iret dX11_earnedNow_49 rfl ?_
      exact kk
    · exact absurd c_9 (by omega)
  | succ m ih =>
    intro i y hm hi kk
    have wT := w.nT
    have k0 := km.1
    refine wp_iload_n dX11_earnedNow_4 rfl ?_
    refine wp_aload_n dX11_earnedNow_5 rfl ?_
    refine wp_get fkX11_248 dX11_earnedNow_6 (P.s0 r) rfl ?_
    refine wp_icmp_ge 48 dX11_earnedNow_9 (by decide) ⟨by omega, by omega⟩ ⟨by omega, by omega⟩ (fun c_9 => ?_) (fun c_9 => ?_)
    · rw [earn_0 _ _ (fun x h1 h2 => (km.2.1 x h2).2 (by omega)) (by omega), Int.add_zero] at kk
      refine wp_iload_n dX11_earnedNow_48 rfl ?_
      refine wp_iret dX11_earnedNow_49 rfl ?_
      exact kk
    · have wi := w.task (t := i) (by omega)
      refine wp_iload_n dX11_earnedNow_12 rfl ?_
      refine wp_aload_n dX11_earnedNow_13 rfl ?_
      refine wp_iload_n dX11_earnedNow_14 rfl ?_
      refine wp_v1p (m_isKept (N := N) P r w km kc (t := i) (by omega)) cvX11_254 dX11_earnedNow_15 ⟨Nat.le_of_ble_eq_true rfl, Nat.le_of_ble_eq_true rfl⟩ (Nat.le_of_ble_eq_true rfl) (P.s0 r) rfl rfl ?_
      refine wp_if_eq 39 dX11_earnedNow_18 (by decide) (bI_r _) (fun c_18 => ?_) (fun c_18 => ?_)
      · refine wp_iconst dX11_earnedNow_39 ?_
        refine wp_iadd dX11_earnedNow_40 ?_
        refine wp_istore_n dX11_earnedNow_41 (Nat.le_of_ble_eq_true rfl) rfl ?_
        change WP G mX11_earnedNow _ _ _ _ h N 42 [some (.ref (cB G + 169)), some (JV (y + 0)), some (JV (i : Int))] []
        refine wp_iinc dX11_earnedNow_42 rfl (Nat.le_of_ble_eq_true rfl) rfl ?_
        change WP G mX11_earnedNow _ _ _ _ h N 45 [some (.ref (cB G + 169)), some (JV (y + 0)), some (JV ((i : Int) + 1))] []
        refine wp_goto 4 dX11_earnedNow_45 (by decide) ?_
        rw [earnF, if_neg (fun q => by rw [decide_eq_true q.1] at c_18; exact absurd c_18 (by decide)), ← Int.add_assoc] at kk
        exact ih (i + 1) (y + 0) (by omega) (by omega) kk
      · refine wp_aload_n dX11_earnedNow_21 rfl ?_
        refine wp_get fkX11_42 dX11_earnedNow_22 (P.s0 r) rfl ?_
        refine wp_iload_n dX11_earnedNow_25 rfl ?_
        refine wp_zaload dX11_earnedNow_26 (P.s12 r) (by omega) (by omega) (by omega) ?_
        change WP G mX11_earnedNow _ _ _ _ h N 27 [some (.ref (cB G + 169)), some (JV y), some (JV (i : Int))] [JV (S 9 i 0), JV y]
        refine wp_if_eq 39 dX11_earnedNow_27 (by decide) ⟨by omega, by omega⟩ (fun c_27 => ?_) (fun c_27 => ?_)
        · refine wp_iconst dX11_earnedNow_39 ?_
          refine wp_iadd dX11_earnedNow_40 ?_
          refine wp_istore_n dX11_earnedNow_41 (Nat.le_of_ble_eq_true rfl) rfl ?_
          change WP G mX11_earnedNow _ _ _ _ h N 42 [some (.ref (cB G + 169)), some (JV (y + 0)), some (JV (i : Int))] []
          refine wp_iinc dX11_earnedNow_42 rfl (Nat.le_of_ble_eq_true rfl) rfl ?_
          change WP G mX11_earnedNow _ _ _ _ h N 45 [some (.ref (cB G + 169)), some (JV (y + 0)), some (JV ((i : Int) + 1))] []
          refine wp_goto 4 dX11_earnedNow_45 (by decide) ?_
          rw [earnF, if_neg (fun q => by omega), ← Int.add_assoc] at kk
          exact ih (i + 1) (y + 0) (by omega) (by omega) kk
        · have e30 : K.2.2.2.2.1 i = M 30 i 0 := ((km.2.1 i (by omega)).1 (by omega)).2.2.1
          refine wp_aload_n dX11_earnedNow_30 rfl ?_
          refine wp_get fkX11_76 dX11_earnedNow_31 (P.s0 r) rfl ?_
          refine wp_iload_n dX11_earnedNow_34 rfl ?_
          refine wp_iaload dX11_earnedNow_35 P.c30 (by omega) (by omega) (by omega) ?_
          change WP G mX11_earnedNow _ _ _ _ h N 36 [some (.ref (cB G + 169)), some (JV y), some (JV (i : Int))] [JV (M 30 i 0), JV y]
          refine wp_goto 40 dX11_earnedNow_36 (by decide) ?_
          refine wp_iadd dX11_earnedNow_40 ?_
          refine wp_istore_n dX11_earnedNow_41 (Nat.le_of_ble_eq_true rfl) rfl ?_
          change WP G mX11_earnedNow _ _ _ _ h N 42 [some (.ref (cB G + 169)), some (JV (y + (M 30 i 0))), some (JV (i : Int))] []
          refine wp_iinc dX11_earnedNow_42 rfl (Nat.le_of_ble_eq_true rfl) rfl ?_
          change WP G mX11_earnedNow _ _ _ _ h N 45 [some (.ref (cB G + 169)), some (JV (y + (M 30 i 0))), some (JV ((i : Int) + 1))] []
          refine wp_goto 4 dX11_earnedNow_45 (by decide) ?_
          rw [← e30]
          rw [earnF, if_pos ⟨bI_p c_18, by omega⟩, ← Int.add_assoc] at kk
          exact ih (i + 1) _ (by omega) (by omega) kk

theorem m_earnedNow (P : MP G N M L z h) (r : RS S M) (w : WF S) (km : KM S K M) (kc : KC K) : CT G mX11_earnedNow [.ref (cB G + 169)] h N 0 0 (PV (JV (earnF S K.2.2.2.1 K.2.2.2.2.1 (S 13 0 0).toNat 0)) h N) := by
  refine CT_of (by decide +kernel) rfl (by simp [Value.category]) (Nat.le_of_ble_eq_true rfl) ?_
  change WP G mX11_earnedNow _ noX _ _ h N 0 [some (.ref (cB G + 169)), none, none] []
  refine wp_iconst dX11_earnedNow_0 ?_
  refine wp_istore_n dX11_earnedNow_1 (Nat.le_of_ble_eq_true rfl) rfl ?_
  change WP G mX11_earnedNow _ _ _ _ h N 2 [some (.ref (cB G + 169)), some (JV 0), none] []
  refine wp_iconst dX11_earnedNow_2 ?_
  refine wp_istore_n dX11_earnedNow_3 (Nat.le_of_ble_eq_true rfl) rfl ?_
  change WP G mX11_earnedNow _ _ _ _ h N 4 [some (.ref (cB G + 169)), some (JV 0), some (JV 0)] []
  have wT := w.nT
  refine lm_earnedNow P r w km kc _ 0 0 rfl (by omega) ?_
  rw [Int.zero_add]
  exact ⟨rfl, rfl, rfl⟩

theorem l_worked {Q : PQ} {X : PX} {k9 n9 : Nat} (P : MP G N M L z h) (r : RS S M) (w : WF S) (km : KM S K M) (kc : KC K) (h28 : 0 < M 28 0 0) {c d : Nat} (hc : c < 4) (hd : d ≤ 100000) (hb : (M 31 c 0).toNat / 2 ^ (d % 7) % 2 = 1) : ∀ (m : Nat) (k : Nat), ((M 32 c 0).toNat - k = m) → (k ≤ 12) → (∀ j, j < k → M 33 c j ≠ (d : Int)) → (Q (some (JV (bI (wkd (K.2.2.2.2.2.1 c) (K.2.2.2.2.2.2.2 c) d)))) h N) → WP G mX11_worked Q X k9 n9 h N 20 [some (.ref (cB G + 169)), some (JV (c : Int)), some (JV (d : Int)), some (JV (k : Int))] [] := by
  intro m
  induction m with
  | zero =>
    intro k hm hk hn kk
    have k3 := km.2.2 h28 c hc
    have kcc := kc.2 c hc
    have krd := kcc.2 d
    refine wp_iload_n dX11_worked_20 rfl ?_
    refine wp_aload_n dX11_worked_21 rfl ?_
    refine wp_get fkX11_82 dX11_worked_22 (P.s0 r) rfl ?_
    refine wp_iload_n dX11_worked_25 rfl ?_
    refine wp_iaload dX11_worked_26 P.c32 (by omega) (by omega) (by omega) ?_
    change WP G mX11_worked _ _ _ _ h N 27 [some (.ref (cB G + 169)), some (JV (c : Int)), some (JV (d : Int)), some (JV (k : Int))] [JV (M 32 c 0), JV (k : Int)]
    refine wp_icmp_ge 50 dX11_worked_27 (by decide) ⟨by omega, by omega⟩ ⟨by omega, by omega⟩ (fun c_27 => ?_) (fun c_27 => ?_)
    · refine wp_iconst dX11_worked_50 ?_
      refine wp_zret dX11_worked_51 rfl (by omega) ?_
      have e : wkd (K.2.2.2.2.2.1 c) (K.2.2.2.2.2.2.2 c) d = true := by
        unfold wkd
        rw [k3.1, decide_eq_true hb, Bool.true_and, Bool.or_eq_true, decide_eq_true_eq, decide_eq_true_eq]
        rcases Nat.lt_or_ge d 1000 with q | q
        · rcases krd with q2 | q2
          · exact Or.inr q2
          · obtain ⟨k9, k91, k92⟩ := k3.2.2.2 d q q2
            exact absurd k92 (hn k9 (by omega))
        · exact Or.inl q
      rw [e] at kk
      exact kk
    · exact absurd c_27 (by omega)
  | succ m ih =>
    intro k hm hk hn kk
    have k3 := km.2.2 h28 c hc
    have kcc := kc.2 c hc
    have krd := kcc.2 d
    refine wp_iload_n dX11_worked_20 rfl ?_
    refine wp_aload_n dX11_worked_21 rfl ?_
    refine wp_get fkX11_82 dX11_worked_22 (P.s0 r) rfl ?_
    refine wp_iload_n dX11_worked_25 rfl ?_
    refine wp_iaload dX11_worked_26 P.c32 (by omega) (by omega) (by omega) ?_
    change WP G mX11_worked _ _ _ _ h N 27 [some (.ref (cB G + 169)), some (JV (c : Int)), some (JV (d : Int)), some (JV (k : Int))] [JV (M 32 c 0), JV (k : Int)]
    refine wp_icmp_ge 50 dX11_worked_27 (by decide) ⟨by omega, by omega⟩ ⟨by omega, by omega⟩ (fun c_27 => ?_) (fun c_27 => ?_)
    · exact absurd c_27 (by omega)
    · have k3k := k3.2.2.1 k (by omega)
      refine wp_aload_n dX11_worked_30 rfl ?_
      refine wp_get fkX11_85 dX11_worked_31 (P.s0 r) rfl ?_
      refine wp_iload_n dX11_worked_34 rfl ?_
      refine wp_aaload dX11_worked_35 P.q33 rfl rfl (by omega) (by omega) (by omega) (if_pos (by omega)) ?_
      change WP G mX11_worked _ _ _ _ h N 36 [some (.ref (cB G + 169)), some (JV (c : Int)), some (JV (d : Int)), some (JV (k : Int))] [.ref (cB G + 277 + c)]
      refine wp_iload_n dX11_worked_36 rfl ?_
      refine wp_iaload dX11_worked_37 (P.r33 (i := c) (by omega)) (by omega) (by omega) (by omega) ?_
      change WP G mX11_worked _ _ _ _ h N 38 [some (.ref (cB G + 169)), some (JV (c : Int)), some (JV (d : Int)), some (JV (k : Int))] [JV (M 33 c k)]
      refine wp_iload_n dX11_worked_38 rfl ?_
      refine wp_icmp_ne 44 dX11_worked_39 (by decide) ⟨by omega, by omega⟩ ⟨by omega, by omega⟩ (fun c_39 => ?_) (fun c_39 => ?_)
      · refine wp_iinc dX11_worked_44 rfl (Nat.le_of_ble_eq_true rfl) rfl ?_
        change WP G mX11_worked _ _ _ _ h N 47 [some (.ref (cB G + 169)), some (JV (c : Int)), some (JV (d : Int)), some (JV ((k : Int) + 1))] []
        refine wp_goto 20 dX11_worked_47 (by decide) ?_
        exact ih (k + 1) (by omega) (by omega) (fun j hj => by
          by_cases hjk : j = k
          · rw [hjk]; exact c_39
          · exact hn j (by omega)) kk
      · refine wp_iconst dX11_worked_42 ?_
        refine wp_zret dX11_worked_43 rfl (by omega) ?_
        have e : wkd (K.2.2.2.2.2.1 c) (K.2.2.2.2.2.2.2 c) d = false := by
          have k3k2 := k3k.2
          have c9 : M 33 c k = (d : Int) := c_39
          rw [c9, Int.toNat_natCast] at k3k2
          unfold wkd
          rw [decide_eq_false (show ¬ 1000 ≤ d by omega), decide_eq_false (show ¬ K.2.2.2.2.2.2.2 c d = 0 by omega)]
          simp
        rw [e] at kk
        exact kk

theorem m_worked (P : MP G N M L z h) (r : RS S M) (w : WF S) (km : KM S K M) (kc : KC K) (h28 : 0 < M 28 0 0) {c d : Nat} (hc : c < 4) (hd : d ≤ 100000) : CT G mX11_worked [.ref (cB G + 169), JV (c : Int), JV (d : Int)] h N 0 0 (PV (JV (bI (wkd (K.2.2.2.2.2.1 c) (K.2.2.2.2.2.2.2 c) d))) h N) := by
  refine CT_of (by decide +kernel) rfl (by simp [Value.category]) (Nat.le_of_ble_eq_true rfl) ?_
  change WP G mX11_worked _ noX _ _ h N 0 [some (.ref (cB G + 169)), some (JV (c : Int)), some (JV (d : Int)), none] []
  have k3 := km.2.2 h28 c hc
  have kcc := kc.2 c hc
  have krd := kcc.2 d
  have p7 : (M 31 c 0).toNat / 2 ^ ((d : Int) % 7).toNat ≤ 127 := Nat.le_trans (Nat.div_le_self _ _) (by omega)
  have p8 : (0 : Int) ≤ (((M 31 c 0).toNat / 2 ^ ((d : Int) % 7).toNat : Nat) : Int) := Int.natCast_nonneg _
  have p9 : (((M 31 c 0).toNat / 2 ^ ((d : Int) % 7).toNat : Nat) : Int) ≤ 127 := Int.ofNat_le.mpr p7
  have e7 : ((d : Int) % 7).toNat = d % 7 := by omega
  refine wp_aload_n dX11_worked_0 rfl ?_
  refine wp_get fkX11_79 dX11_worked_1 (P.s0 r) rfl ?_
  refine wp_iload_n dX11_worked_4 rfl ?_
  refine wp_iaload dX11_worked_5 P.c31 (by omega) (by omega) (by omega) ?_
  change WP G mX11_worked _ _ _ _ h N 6 [some (.ref (cB G + 169)), some (JV (c : Int)), some (JV (d : Int)), none] [JV (M 31 c 0)]
  refine wp_iload_n dX11_worked_6 rfl ?_
  refine wp_bipush dX11_worked_7 rfl ?_
  refine wp_irem dX11_worked_9 ⟨by omega, by omega⟩ (by omega) ⟨by omega, by omega⟩ (by omega) ?_
  refine wp_ishr dX11_worked_10 (by omega) (by omega) (by omega) (by omega) ?_
  refine wp_iconst dX11_worked_11 ?_
  refine wp_and1 dX11_worked_12 (by omega) (by omega) ?_
  refine wp_if_ne 18 dX11_worked_13 (by decide) ⟨by omega, by omega⟩ (fun c_13 => ?_) (fun c_13 => ?_)
  · refine wp_iconst dX11_worked_18 ?_
    refine wp_istore_n dX11_worked_19 (Nat.le_of_ble_eq_true rfl) rfl ?_
    change WP G mX11_worked _ _ _ _ h N 20 [some (.ref (cB G + 169)), some (JV (c : Int)), some (JV (d : Int)), some (JV 0)] []
    rw [e7] at c_13
    exact l_worked P r w km kc h28 hc hd (by omega) _ 0 rfl (Nat.zero_le _) (fun j hj => absurd hj (by omega)) ⟨rfl, rfl, rfl⟩
  · refine wp_iconst dX11_worked_16 ?_
    refine wp_zret dX11_worked_17 rfl (by omega) ?_
    refine ⟨?_, rfl, rfl⟩
    rw [e7] at c_13
    rw [show wkd (K.2.2.2.2.2.1 c) (K.2.2.2.2.2.2.2 c) d = false from by unfold wkd; rw [k3.1, decide_eq_false (by omega)]; rfl]
    rfl

theorem l_plan1 {Q : PQ} {X : PX} {k9 n9 : Nat} (P : MP G N M L z h) (r : RS S M) (w : WF S) (km : KM S K M) (kc : KC K) {t b e dd : Nat} {dl y : Int} (ht : t < 24) (hkt : (t : Int) < M 28 0 0) (hbe : K.2.1 t = (b : Int) ∧ K.2.2.1 t = (e : Int)) (hb9 : b ≤ 6000 ∧ e ≤ 6000) (hdl : dl = (dd : Int)) (hdd : dd ≤ 10000) : ∀ (m : Nat) (x : Nat), (max b e - x = m) → (b ≤ x ∧ x ≤ max b e) → (∀ x6 : Option Value, WP G mX11_plannedNow Q X k9 n9 h N 95 [some (.ref (cB G + 169)), some (JV dl), some (JV y), some (JV (t : Int)), some (JV ((Cn (wkd (K.2.2.2.2.2.1 (S 6 t 0).toNat) (K.2.2.2.2.2.2.2 (S 6 t 0).toNat)) (max b e) : Int) - (Cn (wkd (K.2.2.2.2.2.1 (S 6 t 0).toNat) (K.2.2.2.2.2.2.2 (S 6 t 0).toNat)) b : Int))), some (JV ((Cn (wkd (K.2.2.2.2.2.1 (S 6 t 0).toNat) (K.2.2.2.2.2.2.2 (S 6 t 0).toNat)) (max b (min (max b e) dd)) : Int) - (Cn (wkd (K.2.2.2.2.2.1 (S 6 t 0).toNat) (K.2.2.2.2.2.2.2 (S 6 t 0).toNat)) b : Int))), x6] []) → WP G mX11_plannedNow Q X k9 n9 h N 39 [some (.ref (cB G + 169)), some (JV dl), some (JV y), some (JV (t : Int)), some (JV ((Cn (wkd (K.2.2.2.2.2.1 (S 6 t 0).toNat) (K.2.2.2.2.2.2.2 (S 6 t 0).toNat)) x : Int) - (Cn (wkd (K.2.2.2.2.2.1 (S 6 t 0).toNat) (K.2.2.2.2.2.2.2 (S 6 t 0).toNat)) b : Int))), some (JV ((Cn (wkd (K.2.2.2.2.2.1 (S 6 t 0).toNat) (K.2.2.2.2.2.2.2 (S 6 t 0).toNat)) (max b (min x dd)) : Int) - (Cn (wkd (K.2.2.2.2.2.1 (S 6 t 0).toNat) (K.2.2.2.2.2.2.2 (S 6 t 0).toNat)) b : Int))), some (JV (x : Int))] [] := by
  intro m
  induction m with
  | zero =>
    intro x hm hx kk
    have wt := w.task ht
    have kt := (km.2.1 t ht).1 hkt
    refine wp_iload dX11_plannedNow_39 rfl ?_
    refine wp_aload_n dX11_plannedNow_41 rfl ?_
    refine wp_get fkX11_73 dX11_plannedNow_42 (P.s0 r) rfl ?_
    refine wp_iconst dX11_plannedNow_45 ?_
    refine wp_aaload dX11_plannedNow_46 P.q29 rfl rfl (by omega) (by omega) (by omega) (if_pos (by omega)) ?_
    change WP G mX11_plannedNow _ _ _ _ h N 47 [some (.ref (cB G + 169)), some (JV dl), some (JV y), some (JV (t : Int)), some (JV ((Cn (wkd (K.2.2.2.2.2.1 (S 6 t 0).toNat) (K.2.2.2.2.2.2.2 (S 6 t 0).toNat)) x : Int) - (Cn (wkd (K.2.2.2.2.2.1 (S 6 t 0).toNat) (K.2.2.2.2.2.2.2 (S 6 t 0).toNat)) b : Int))), some (JV ((Cn (wkd (K.2.2.2.2.2.1 (S 6 t 0).toNat) (K.2.2.2.2.2.2.2 (S 6 t 0).toNat)) (max b (min x dd)) : Int) - (Cn (wkd (K.2.2.2.2.2.1 (S 6 t 0).toNat) (K.2.2.2.2.2.2.2 (S 6 t 0).toNat)) b : Int))), some (JV (x : Int))] [.ref (cB G + 271 + 1), JV (x : Int)]
    refine wp_iload_n dX11_plannedNow_47 rfl ?_
    refine wp_iaload dX11_plannedNow_48 (P.r29 (i := 1) (by omega)) (by omega) (by omega) (by omega) ?_
    change WP G mX11_plannedNow _ _ _ _ h N 49 [some (.ref (cB G + 169)), some (JV dl), some (JV y), some (JV (t : Int)), some (JV ((Cn (wkd (K.2.2.2.2.2.1 (S 6 t 0).toNat) (K.2.2.2.2.2.2.2 (S 6 t 0).toNat)) x : Int) - (Cn (wkd (K.2.2.2.2.2.1 (S 6 t 0).toNat) (K.2.2.2.2.2.2.2 (S 6 t 0).toNat)) b : Int))), some (JV ((Cn (wkd (K.2.2.2.2.2.1 (S 6 t 0).toNat) (K.2.2.2.2.2.2.2 (S 6 t 0).toNat)) (max b (min x dd)) : Int) - (Cn (wkd (K.2.2.2.2.2.1 (S 6 t 0).toNat) (K.2.2.2.2.2.2.2 (S 6 t 0).toNat)) b : Int))), some (JV (x : Int))] [JV (M 29 1 t), JV (x : Int)]
    refine wp_icmp_ge 95 dX11_plannedNow_49 (by decide) ⟨by omega, by omega⟩ ⟨by omega, by omega⟩ (fun c_49 => ?_) (fun c_49 => ?_)
    · have hxe : x = max b e := by omega
      subst hxe
      exact kk _
    · exact absurd c_49 (by omega)
  | succ m ih =>
    intro x hm hx kk
    have wt := w.task ht
    have kt := (km.2.1 t ht).1 hkt
    refine wp_iload dX11_plannedNow_39 rfl ?_
    refine wp_aload_n dX11_plannedNow_41 rfl ?_
    refine wp_get fkX11_73 dX11_plannedNow_42 (P.s0 r) rfl ?_
    refine wp_iconst dX11_plannedNow_45 ?_
    refine wp_aaload dX11_plannedNow_46 P.q29 rfl rfl (by omega) (by omega) (by omega) (if_pos (by omega)) ?_
    change WP G mX11_plannedNow _ _ _ _ h N 47 [some (.ref (cB G + 169)), some (JV dl), some (JV y), some (JV (t : Int)), some (JV ((Cn (wkd (K.2.2.2.2.2.1 (S 6 t 0).toNat) (K.2.2.2.2.2.2.2 (S 6 t 0).toNat)) x : Int) - (Cn (wkd (K.2.2.2.2.2.1 (S 6 t 0).toNat) (K.2.2.2.2.2.2.2 (S 6 t 0).toNat)) b : Int))), some (JV ((Cn (wkd (K.2.2.2.2.2.1 (S 6 t 0).toNat) (K.2.2.2.2.2.2.2 (S 6 t 0).toNat)) (max b (min x dd)) : Int) - (Cn (wkd (K.2.2.2.2.2.1 (S 6 t 0).toNat) (K.2.2.2.2.2.2.2 (S 6 t 0).toNat)) b : Int))), some (JV (x : Int))] [.ref (cB G + 271 + 1), JV (x : Int)]
    refine wp_iload_n dX11_plannedNow_47 rfl ?_
    refine wp_iaload dX11_plannedNow_48 (P.r29 (i := 1) (by omega)) (by omega) (by omega) (by omega) ?_
    change WP G mX11_plannedNow _ _ _ _ h N 49 [some (.ref (cB G + 169)), some (JV dl), some (JV y), some (JV (t : Int)), some (JV ((Cn (wkd (K.2.2.2.2.2.1 (S 6 t 0).toNat) (K.2.2.2.2.2.2.2 (S 6 t 0).toNat)) x : Int) - (Cn (wkd (K.2.2.2.2.2.1 (S 6 t 0).toNat) (K.2.2.2.2.2.2.2 (S 6 t 0).toNat)) b : Int))), some (JV ((Cn (wkd (K.2.2.2.2.2.1 (S 6 t 0).toNat) (K.2.2.2.2.2.2.2 (S 6 t 0).toNat)) (max b (min x dd)) : Int) - (Cn (wkd (K.2.2.2.2.2.1 (S 6 t 0).toNat) (K.2.2.2.2.2.2.2 (S 6 t 0).toNat)) b : Int))), some (JV (x : Int))] [JV (M 29 1 t), JV (x : Int)]
    refine wp_icmp_ge 95 dX11_plannedNow_49 (by decide) ⟨by omega, by omega⟩ ⟨by omega, by omega⟩ (fun c_49 => ?_) (fun c_49 => ?_)
    · exact absurd c_49 (by omega)
    · refine wp_aload_n dX11_plannedNow_52 rfl ?_
      refine wp_aload_n dX11_plannedNow_53 rfl ?_
      refine wp_get fkX11_30 dX11_plannedNow_54 (P.s0 r) rfl ?_
      refine wp_iload_n dX11_plannedNow_57 rfl ?_
      refine wp_iaload dX11_plannedNow_58 (P.s8 r) (by omega) (by omega) (by omega) ?_
      change WP G mX11_plannedNow _ _ _ _ h N 59 [some (.ref (cB G + 169)), some (JV dl), some (JV y), some (JV (t : Int)), some (JV ((Cn (wkd (K.2.2.2.2.2.1 (S 6 t 0).toNat) (K.2.2.2.2.2.2.2 (S 6 t 0).toNat)) x : Int) - (Cn (wkd (K.2.2.2.2.2.1 (S 6 t 0).toNat) (K.2.2.2.2.2.2.2 (S 6 t 0).toNat)) b : Int))), some (JV ((Cn (wkd (K.2.2.2.2.2.1 (S 6 t 0).toNat) (K.2.2.2.2.2.2.2 (S 6 t 0).toNat)) (max b (min x dd)) : Int) - (Cn (wkd (K.2.2.2.2.2.1 (S 6 t 0).toNat) (K.2.2.2.2.2.2.2 (S 6 t 0).toNat)) b : Int))), some (JV (x : Int))] [JV (S 6 t 0), .ref (cB G + 169)]
      refine wp_iload dX11_plannedNow_59 rfl ?_
      have won_61 := m_worked (N := N) (G := G) P r w km kc (by have := km.2.1 t (by omega); omega) (c := (S 6 t 0).toNat) (d := x) (by omega) (by omega)
      rw [show (((S 6 t 0).toNat : Nat) : Int) = S 6 t 0 by omega] at won_61
      refine wp_v2p won_61 cvX11_260 dX11_plannedNow_61 ⟨Nat.le_of_ble_eq_true rfl, Nat.le_of_ble_eq_true rfl⟩ (Nat.le_of_ble_eq_true rfl) (P.s0 r) rfl rfl ?_
      refine wp_if_ne 70 dX11_plannedNow_64 (by decide) (bI_r _) (fun c_64 => ?_) (fun c_64 => ?_)
      · have cw := Cn_t (wk := wkd (K.2.2.2.2.2.1 (S 6 t 0).toNat) (K.2.2.2.2.2.2.2 (S 6 t 0).toNat)) (n := x) (bI_ne c_64)
        refine wp_iinc dX11_plannedNow_70 rfl (Nat.le_of_ble_eq_true rfl) rfl ?_
        change WP G mX11_plannedNow _ _ _ _ h N 73 [some (.ref (cB G + 169)), some (JV dl), some (JV y), some (JV (t : Int)), some (JV (((Cn (wkd (K.2.2.2.2.2.1 (S 6 t 0).toNat) (K.2.2.2.2.2.2.2 (S 6 t 0).toNat)) x : Int) - (Cn (wkd (K.2.2.2.2.2.1 (S 6 t 0).toNat) (K.2.2.2.2.2.2.2 (S 6 t 0).toNat)) b : Int)) + 1)), some (JV ((Cn (wkd (K.2.2.2.2.2.1 (S 6 t 0).toNat) (K.2.2.2.2.2.2.2 (S 6 t 0).toNat)) (max b (min x dd)) : Int) - (Cn (wkd (K.2.2.2.2.2.1 (S 6 t 0).toNat) (K.2.2.2.2.2.2.2 (S 6 t 0).toNat)) b : Int))), some (JV (x : Int))] []
        refine wp_iload dX11_plannedNow_73 rfl ?_
        refine wp_iload dX11_plannedNow_75 rfl ?_
        refine wp_iload_n dX11_plannedNow_77 rfl ?_
        refine wp_icmp_ge 85 dX11_plannedNow_78 (by decide) ⟨by omega, by omega⟩ ⟨by omega, by omega⟩ (fun c_78 => ?_) (fun c_78 => ?_)
        · refine wp_iconst dX11_plannedNow_85 ?_
          refine wp_iadd dX11_plannedNow_86 ?_
          refine wp_istore dX11_plannedNow_87 (Nat.le_of_ble_eq_true rfl) rfl ?_
          change WP G mX11_plannedNow _ _ _ _ h N 89 [some (.ref (cB G + 169)), some (JV dl), some (JV y), some (JV (t : Int)), some (JV (((Cn (wkd (K.2.2.2.2.2.1 (S 6 t 0).toNat) (K.2.2.2.2.2.2.2 (S 6 t 0).toNat)) x : Int) - (Cn (wkd (K.2.2.2.2.2.1 (S 6 t 0).toNat) (K.2.2.2.2.2.2.2 (S 6 t 0).toNat)) b : Int)) + 1)), some (JV (((Cn (wkd (K.2.2.2.2.2.1 (S 6 t 0).toNat) (K.2.2.2.2.2.2.2 (S 6 t 0).toNat)) (max b (min x dd)) : Int) - (Cn (wkd (K.2.2.2.2.2.1 (S 6 t 0).toNat) (K.2.2.2.2.2.2.2 (S 6 t 0).toNat)) b : Int)) + 0)), some (JV (x : Int))] []
          refine wp_iinc dX11_plannedNow_89 rfl (Nat.le_of_ble_eq_true rfl) rfl ?_
          change WP G mX11_plannedNow _ _ _ _ h N 92 [some (.ref (cB G + 169)), some (JV dl), some (JV y), some (JV (t : Int)), some (JV (((Cn (wkd (K.2.2.2.2.2.1 (S 6 t 0).toNat) (K.2.2.2.2.2.2.2 (S 6 t 0).toNat)) x : Int) - (Cn (wkd (K.2.2.2.2.2.1 (S 6 t 0).toNat) (K.2.2.2.2.2.2.2 (S 6 t 0).toNat)) b : Int)) + 1)), some (JV (((Cn (wkd (K.2.2.2.2.2.1 (S 6 t 0).toNat) (K.2.2.2.2.2.2.2 (S 6 t 0).toNat)) (max b (min x dd)) : Int) - (Cn (wkd (K.2.2.2.2.2.1 (S 6 t 0).toNat) (K.2.2.2.2.2.2.2 (S 6 t 0).toNat)) b : Int)) + 0)), some (JV ((x : Int) + 1))] []
          refine wp_goto 39 dX11_plannedNow_92 (by decide) ?_
          rw [show ((Cn (wkd (K.2.2.2.2.2.1 (S 6 t 0).toNat) (K.2.2.2.2.2.2.2 (S 6 t 0).toNat)) x : Int) - (Cn (wkd (K.2.2.2.2.2.1 (S 6 t 0).toNat) (K.2.2.2.2.2.2.2 (S 6 t 0).toNat)) b : Int)) + 1 = ((Cn (wkd (K.2.2.2.2.2.1 (S 6 t 0).toNat) (K.2.2.2.2.2.2.2 (S 6 t 0).toNat)) (x + 1) : Int) - (Cn (wkd (K.2.2.2.2.2.1 (S 6 t 0).toNat) (K.2.2.2.2.2.2.2 (S 6 t 0).toNat)) b : Int)) by rw [cw]; omega, show ((Cn (wkd (K.2.2.2.2.2.1 (S 6 t 0).toNat) (K.2.2.2.2.2.2.2 (S 6 t 0).toNat)) (max b (min x dd)) : Int) - (Cn (wkd (K.2.2.2.2.2.1 (S 6 t 0).toNat) (K.2.2.2.2.2.2.2 (S 6 t 0).toNat)) b : Int)) + 0 = ((Cn (wkd (K.2.2.2.2.2.1 (S 6 t 0).toNat) (K.2.2.2.2.2.2.2 (S 6 t 0).toNat)) (max b (min (x + 1) dd)) : Int) - (Cn (wkd (K.2.2.2.2.2.1 (S 6 t 0).toNat) (K.2.2.2.2.2.2.2 (S 6 t 0).toNat)) b : Int)) by rw [show max b (min (x + 1) dd) = max b (min x dd) by omega]; omega]
          exact ih (x + 1) (by omega) (by omega) kk
        · refine wp_iconst dX11_plannedNow_81 ?_
          refine wp_goto 86 dX11_plannedNow_82 (by decide) ?_
          refine wp_iadd dX11_plannedNow_86 ?_
          refine wp_istore dX11_plannedNow_87 (Nat.le_of_ble_eq_true rfl) rfl ?_
          change WP G mX11_plannedNow _ _ _ _ h N 89 [some (.ref (cB G + 169)), some (JV dl), some (JV y), some (JV (t : Int)), some (JV (((Cn (wkd (K.2.2.2.2.2.1 (S 6 t 0).toNat) (K.2.2.2.2.2.2.2 (S 6 t 0).toNat)) x : Int) - (Cn (wkd (K.2.2.2.2.2.1 (S 6 t 0).toNat) (K.2.2.2.2.2.2.2 (S 6 t 0).toNat)) b : Int)) + 1)), some (JV (((Cn (wkd (K.2.2.2.2.2.1 (S 6 t 0).toNat) (K.2.2.2.2.2.2.2 (S 6 t 0).toNat)) (max b (min x dd)) : Int) - (Cn (wkd (K.2.2.2.2.2.1 (S 6 t 0).toNat) (K.2.2.2.2.2.2.2 (S 6 t 0).toNat)) b : Int)) + 1)), some (JV (x : Int))] []
          refine wp_iinc dX11_plannedNow_89 rfl (Nat.le_of_ble_eq_true rfl) rfl ?_
          change WP G mX11_plannedNow _ _ _ _ h N 92 [some (.ref (cB G + 169)), some (JV dl), some (JV y), some (JV (t : Int)), some (JV (((Cn (wkd (K.2.2.2.2.2.1 (S 6 t 0).toNat) (K.2.2.2.2.2.2.2 (S 6 t 0).toNat)) x : Int) - (Cn (wkd (K.2.2.2.2.2.1 (S 6 t 0).toNat) (K.2.2.2.2.2.2.2 (S 6 t 0).toNat)) b : Int)) + 1)), some (JV (((Cn (wkd (K.2.2.2.2.2.1 (S 6 t 0).toNat) (K.2.2.2.2.2.2.2 (S 6 t 0).toNat)) (max b (min x dd)) : Int) - (Cn (wkd (K.2.2.2.2.2.1 (S 6 t 0).toNat) (K.2.2.2.2.2.2.2 (S 6 t 0).toNat)) b : Int)) + 1)), some (JV ((x : Int) + 1))] []
          refine wp_goto 39 dX11_plannedNow_92 (by decide) ?_
          rw [show ((Cn (wkd (K.2.2.2.2.2.1 (S 6 t 0).toNat) (K.2.2.2.2.2.2.2 (S 6 t 0).toNat)) x : Int) - (Cn (wkd (K.2.2.2.2.2.1 (S 6 t 0).toNat) (K.2.2.2.2.2.2.2 (S 6 t 0).toNat)) b : Int)) + 1 = ((Cn (wkd (K.2.2.2.2.2.1 (S 6 t 0).toNat) (K.2.2.2.2.2.2.2 (S 6 t 0).toNat)) (x + 1) : Int) - (Cn (wkd (K.2.2.2.2.2.1 (S 6 t 0).toNat) (K.2.2.2.2.2.2.2 (S 6 t 0).toNat)) b : Int)) by rw [cw]; omega, show ((Cn (wkd (K.2.2.2.2.2.1 (S 6 t 0).toNat) (K.2.2.2.2.2.2.2 (S 6 t 0).toNat)) (max b (min x dd)) : Int) - (Cn (wkd (K.2.2.2.2.2.1 (S 6 t 0).toNat) (K.2.2.2.2.2.2.2 (S 6 t 0).toNat)) b : Int)) + 1 = ((Cn (wkd (K.2.2.2.2.2.1 (S 6 t 0).toNat) (K.2.2.2.2.2.2.2 (S 6 t 0).toNat)) (max b (min (x + 1) dd)) : Int) - (Cn (wkd (K.2.2.2.2.2.1 (S 6 t 0).toNat) (K.2.2.2.2.2.2.2 (S 6 t 0).toNat)) b : Int)) by rw [show max b (min (x + 1) dd) = x + 1 by omega, show max b (min x dd) = x by omega, cw]; omega]
          exact ih (x + 1) (by omega) (by omega) kk
      · have cw := Cn_f (wk := wkd (K.2.2.2.2.2.1 (S 6 t 0).toNat) (K.2.2.2.2.2.2.2 (S 6 t 0).toNat)) (n := x) (fun q => by rw [q] at c_64; exact absurd c_64 (by decide))
        have cm : Cn (wkd (K.2.2.2.2.2.1 (S 6 t 0).toNat) (K.2.2.2.2.2.2.2 (S 6 t 0).toNat)) (max b (min (x + 1) dd)) = Cn (wkd (K.2.2.2.2.2.1 (S 6 t 0).toNat) (K.2.2.2.2.2.2.2 (S 6 t 0).toNat)) (max b (min x dd)) := by
          by_cases hxd : x < dd
          · rw [show max b (min (x + 1) dd) = x + 1 by omega, show max b (min x dd) = x by omega]; exact cw
          · rw [show max b (min (x + 1) dd) = max b (min x dd) by omega]
        refine wp_goto 89 dX11_plannedNow_67 (by decide) ?_
        refine wp_iinc dX11_plannedNow_89 rfl (Nat.le_of_ble_eq_true rfl) rfl ?_
        change WP G mX11_plannedNow _ _ _ _ h N 92 [some (.ref (cB G + 169)), some (JV dl), some (JV y), some (JV (t : Int)), some (JV ((Cn (wkd (K.2.2.2.2.2.1 (S 6 t 0).toNat) (K.2.2.2.2.2.2.2 (S 6 t 0).toNat)) x : Int) - (Cn (wkd (K.2.2.2.2.2.1 (S 6 t 0).toNat) (K.2.2.2.2.2.2.2 (S 6 t 0).toNat)) b : Int))), some (JV ((Cn (wkd (K.2.2.2.2.2.1 (S 6 t 0).toNat) (K.2.2.2.2.2.2.2 (S 6 t 0).toNat)) (max b (min x dd)) : Int) - (Cn (wkd (K.2.2.2.2.2.1 (S 6 t 0).toNat) (K.2.2.2.2.2.2.2 (S 6 t 0).toNat)) b : Int))), some (JV ((x : Int) + 1))] []
        refine wp_goto 39 dX11_plannedNow_92 (by decide) ?_
        rw [← cw, ← cm]
        exact ih (x + 1) (by omega) (by omega) kk

theorem l_plan2 {Q : PQ} {X : PX} {k9 n9 : Nat} (P : MP G N M L z h) (r : RS S M) (w : WF S) (km : KM S K M) (kc : KC K) {dl : Int} {dd : Nat} (hdl : dl = (dd : Int)) (hdd : dd ≤ 10000) (hE : ∀ t : Nat, t < 24 → K.2.2.2.1 t = 1 → 0 ≤ K.2.2.1 t) : ∀ (m : Nat) (t : Nat) (y : Int) (x4 x5 x6 : Option Value), ((S 13 0 0).toNat - t = m) → ((t : Int) ≤ S 13 0 0) → (Q (some (JV (y + planF S K.2.1 K.2.2.1 K.2.2.2.1 K.2.2.2.2.1 K.2.2.2.2.2.1 K.2.2.2.2.2.2.2 dl m t))) h N) → WP G mX11_plannedNow Q X k9 n9 h N 4 [some (.ref (cB G + 169)), some (JV dl), some (JV y), some (JV (t : Int)), x4, x5, x6] [] := by
  intro m
  induction m with
  | zero =>
    intro t y x4 x5 x6 hm hi kk
    have wT := w.nT
    have k0 := km.1
    refine wp_iload_n dX11_plannedNow_4 rfl ?_
    refine wp_aload_n dX11_plannedNow_5 rfl ?_
    refine wp_get fkX11_248 dX11_plannedNow_6 (P.s0 r) rfl ?_
    refine wp_icmp_ge 125 dX11_plannedNow_9 (by decide) ⟨by omega, by omega⟩ ⟨by omega, by omega⟩ (fun c_9 => ?_) (fun c_9 => ?_)
    · rw [plan_0 _ _ (fun x h1 h2 => (km.2.1 x h2).2 (by omega)) (by omega), Int.add_zero] at kk
      refine wp_iload_n dX11_plannedNow_125 rfl ?_
      refine wp_iret dX11_plannedNow_126 rfl ?_
      exact kk
    · exact absurd c_9 (by omega)
  | succ m ih =>
    intro t y x4 x5 x6 hm hi kk
    have wT := w.nT
    have k0 := km.1
    refine wp_iload_n dX11_plannedNow_4 rfl ?_
    refine wp_aload_n dX11_plannedNow_5 rfl ?_
    refine wp_get fkX11_248 dX11_plannedNow_6 (P.s0 r) rfl ?_
    refine wp_icmp_ge 125 dX11_plannedNow_9 (by decide) ⟨by omega, by omega⟩ ⟨by omega, by omega⟩ (fun c_9 => ?_) (fun c_9 => ?_)
    · rw [plan_0 _ _ (fun x h1 h2 => (km.2.1 x h2).2 (by omega)) (by omega), Int.add_zero] at kk
      refine wp_iload_n dX11_plannedNow_125 rfl ?_
      refine wp_iret dX11_plannedNow_126 rfl ?_
      exact kk
    · refine wp_aload_n dX11_plannedNow_12 rfl ?_
      refine wp_iload_n dX11_plannedNow_13 rfl ?_
      refine wp_v1p (m_isKept (N := N) P r w km kc (t := t) (by omega)) cvX11_254 dX11_plannedNow_14 ⟨Nat.le_of_ble_eq_true rfl, Nat.le_of_ble_eq_true rfl⟩ (Nat.le_of_ble_eq_true rfl) (P.s0 r) rfl rfl ?_
      refine wp_if_ne 23 dX11_plannedNow_17 (by decide) (bI_r _) (fun c_17 => ?_) (fun c_17 => ?_)
      · have hk1 : K.2.2.2.1 t = 1 := bI_p c_17
        have ht : t < 24 := by omega
        have wt := w.task ht
        have hkt : (t : Int) < M 28 0 0 := by omega
        have kt := (km.2.1 t ht).1 hkt
        have krt := kc.1.2 t ht
        have hen := hE t ht hk1
        obtain ⟨b, eb⟩ : ∃ b : Nat, K.2.1 t = (b : Int) := ⟨(K.2.1 t).toNat, by have := krt.2.2.2 hk1; omega⟩
        obtain ⟨e, ee⟩ : ∃ e : Nat, K.2.2.1 t = (e : Int) := ⟨(K.2.2.1 t).toNat, by omega⟩
        refine wp_iconst dX11_plannedNow_23 ?_
        refine wp_istore dX11_plannedNow_24 (Nat.le_of_ble_eq_true rfl) rfl ?_
        change WP G mX11_plannedNow _ _ _ _ h N 26 [some (.ref (cB G + 169)), some (JV dl), some (JV y), some (JV (t : Int)), some (JV 0), x5, x6] []
        refine wp_iconst dX11_plannedNow_26 ?_
        refine wp_istore dX11_plannedNow_27 (Nat.le_of_ble_eq_true rfl) rfl ?_
        change WP G mX11_plannedNow _ _ _ _ h N 29 [some (.ref (cB G + 169)), some (JV dl), some (JV y), some (JV (t : Int)), some (JV 0), some (JV 0), x6] []
        refine wp_aload_n dX11_plannedNow_29 rfl ?_
        refine wp_get fkX11_73 dX11_plannedNow_30 (P.s0 r) rfl ?_
        refine wp_iconst dX11_plannedNow_33 ?_
        refine wp_aaload dX11_plannedNow_34 P.q29 rfl rfl (by omega) (by omega) (by omega) (if_pos (by omega)) ?_
        change WP G mX11_plannedNow _ _ _ _ h N 35 [some (.ref (cB G + 169)), some (JV dl), some (JV y), some (JV (t : Int)), some (JV 0), some (JV 0), x6] [.ref (cB G + 271 + 0)]
        refine wp_iload_n dX11_plannedNow_35 rfl ?_
        refine wp_iaload dX11_plannedNow_36 (P.r29 (i := 0) (by omega)) (by omega) (by omega) (by omega) ?_
        change WP G mX11_plannedNow _ _ _ _ h N 37 [some (.ref (cB G + 169)), some (JV dl), some (JV y), some (JV (t : Int)), some (JV 0), some (JV 0), x6] [JV (M 29 0 t)]
        refine wp_istore dX11_plannedNow_37 (Nat.le_of_ble_eq_true rfl) rfl ?_
        change WP G mX11_plannedNow _ _ _ _ h N 39 [some (.ref (cB G + 169)), some (JV dl), some (JV y), some (JV (t : Int)), some (JV 0), some (JV 0), some (JV (M 29 0 t))] []
        rw [show M 29 0 t = (b : Int) by omega]
        refine (fun k39 => by
          have k39 := l_plan1 (Q := Q) (X := X) (k9 := k9) (n9 := n9) (y := y) P r w km kc ht hkt ⟨eb, ee⟩ (by omega) hdl hdd _ b rfl ⟨Nat.le_refl _, by omega⟩ k39
          rw [show max b (min b dd) = b by omega, Int.sub_self] at k39
          exact k39) (fun x6 => ?_)
        have ea : ((Cn (wkd (K.2.2.2.2.2.1 (S 6 t 0).toNat) (K.2.2.2.2.2.2.2 (S 6 t 0).toNat)) (max b e) : Int) - (Cn (wkd (K.2.2.2.2.2.1 (S 6 t 0).toNat) (K.2.2.2.2.2.2.2 (S 6 t 0).toNat)) b : Int)) = cnt (wkd (K.2.2.2.2.2.1 (S 6 t 0).toNat) (K.2.2.2.2.2.2.2 (S 6 t 0).toNat)) (K.2.2.1 t - K.2.1 t).toNat (K.2.1 t).toNat := by
          rw [cnt_C, eb, ee, Int.toNat_natCast, show b + ((e : Int) - (b : Int)).toNat = max b e by omega]
        have ed : ((Cn (wkd (K.2.2.2.2.2.1 (S 6 t 0).toNat) (K.2.2.2.2.2.2.2 (S 6 t 0).toNat)) (max b (min (max b e) dd)) : Int) - (Cn (wkd (K.2.2.2.2.2.1 (S 6 t 0).toNat) (K.2.2.2.2.2.2.2 (S 6 t 0).toNat)) b : Int)) = cnt (wkd (K.2.2.2.2.2.1 (S 6 t 0).toNat) (K.2.2.2.2.2.2.2 (S 6 t 0).toNat)) (min (K.2.2.1 t) dl - K.2.1 t).toNat (K.2.1 t).toNat := by
          rw [cnt_C, eb, ee, hdl, Int.toNat_natCast, show b + (min (e : Int) (dd : Int) - (b : Int)).toNat = max b (min (max b e) dd) by omega]
        rw [ea, ed]
        obtain ⟨al, eal⟩ : ∃ al : Int, cnt (wkd (K.2.2.2.2.2.1 (S 6 t 0).toNat) (K.2.2.2.2.2.2.2 (S 6 t 0).toNat)) (K.2.2.1 t - K.2.1 t).toNat (K.2.1 t).toNat = al := ⟨_, rfl⟩
        obtain ⟨ah, eah⟩ : ∃ ah : Int, cnt (wkd (K.2.2.2.2.2.1 (S 6 t 0).toNat) (K.2.2.2.2.2.2.2 (S 6 t 0).toNat)) (min (K.2.2.1 t) dl - K.2.1 t).toNat (K.2.1 t).toNat = ah := ⟨_, rfl⟩
        have ral := cnt_r (wkd (K.2.2.2.2.2.1 (S 6 t 0).toNat) (K.2.2.2.2.2.2.2 (S 6 t 0).toNat)) (K.2.2.1 t - K.2.1 t).toNat (K.2.1 t).toNat
        have rah := cnt_r (wkd (K.2.2.2.2.2.1 (S 6 t 0).toNat) (K.2.2.2.2.2.2.2 (S 6 t 0).toNat)) (min (K.2.2.1 t) dl - K.2.1 t).toNat (K.2.1 t).toNat
        rw [eal] at ral
        rw [eah] at rah
        rw [eal, eah]
        have hw30 : K.2.2.2.2.1 t = M 30 t 0 := kt.2.2.1
        have hws := krt.2.2.1
        obtain ⟨pr, epr⟩ : ∃ pr : Int, M 30 t 0 * ah = pr := ⟨_, rfl⟩
        have hpr : 0 ≤ pr ∧ pr ≤ 71280 * 6000 := by
          rw [← epr]
          exact ⟨Int.mul_nonneg (by omega) rah.1, Int.mul_le_mul (by omega) (by omega) rah.1 (by omega)⟩
        rw [planF, if_neg (by omega), ← Int.add_assoc] at kk
        unfold partF at kk
        rw [eal, eah, hw30, epr] at kk
        refine wp_iload_n dX11_plannedNow_95 rfl ?_
        refine wp_iload dX11_plannedNow_96 rfl ?_
        refine wp_if_ne 105 dX11_plannedNow_98 (by decide) ⟨by omega, by omega⟩ (fun c_98 => ?_) (fun c_98 => ?_)
        · rw [if_neg c_98] at kk
          refine wp_aload_n dX11_plannedNow_105 rfl ?_
          refine wp_get fkX11_76 dX11_plannedNow_106 (P.s0 r) rfl ?_
          refine wp_iload_n dX11_plannedNow_109 rfl ?_
          refine wp_iaload dX11_plannedNow_110 P.c30 (by omega) (by omega) (by omega) ?_
          change WP G mX11_plannedNow _ _ _ _ h N 111 [some (.ref (cB G + 169)), some (JV dl), some (JV y), some (JV (t : Int)), some (JV al), some (JV ah), x6] [JV (M 30 t 0), JV y]
          refine wp_iload dX11_plannedNow_111 rfl ?_
          refine wp_imul dX11_plannedNow_113 ?_
          rw [epr]
          refine wp_iload dX11_plannedNow_114 rfl ?_
          refine wp_idiv dX11_plannedNow_116 ⟨by omega, by omega⟩ (by omega) ⟨by omega, by omega⟩ (by omega) ?_
          refine wp_iadd dX11_plannedNow_117 ?_
          refine wp_istore_n dX11_plannedNow_118 (Nat.le_of_ble_eq_true rfl) rfl ?_
          change WP G mX11_plannedNow _ _ _ _ h N 119 [some (.ref (cB G + 169)), some (JV dl), some (JV (y + (pr / al))), some (JV (t : Int)), some (JV al), some (JV ah), x6] []
          refine wp_iinc dX11_plannedNow_119 rfl (Nat.le_of_ble_eq_true rfl) rfl ?_
          change WP G mX11_plannedNow _ _ _ _ h N 122 [some (.ref (cB G + 169)), some (JV dl), some (JV (y + (pr / al))), some (JV ((t : Int) + 1)), some (JV al), some (JV ah), x6] []
          refine wp_goto 4 dX11_plannedNow_122 (by decide) ?_
          exact ih (t + 1) (y + pr / al) _ _ _ (by omega) (by omega) kk
        · rw [if_pos c_98] at kk
          refine wp_iconst dX11_plannedNow_101 ?_
          refine wp_goto 117 dX11_plannedNow_102 (by decide) ?_
          refine wp_iadd dX11_plannedNow_117 ?_
          refine wp_istore_n dX11_plannedNow_118 (Nat.le_of_ble_eq_true rfl) rfl ?_
          change WP G mX11_plannedNow _ _ _ _ h N 119 [some (.ref (cB G + 169)), some (JV dl), some (JV (y + 0)), some (JV (t : Int)), some (JV al), some (JV ah), x6] []
          refine wp_iinc dX11_plannedNow_119 rfl (Nat.le_of_ble_eq_true rfl) rfl ?_
          change WP G mX11_plannedNow _ _ _ _ h N 122 [some (.ref (cB G + 169)), some (JV dl), some (JV (y + 0)), some (JV ((t : Int) + 1)), some (JV al), some (JV ah), x6] []
          refine wp_goto 4 dX11_plannedNow_122 (by decide) ?_
          exact ih (t + 1) (y + 0) _ _ _ (by omega) (by omega) kk
      · have hk0 : K.2.2.2.1 t = 0 := (kc.1.1 t).resolve_right (fun q => by rw [decide_eq_true q] at c_17; exact absurd c_17 (by decide))
        rw [planF, if_pos hk0, Int.zero_add] at kk
        refine wp_goto 119 dX11_plannedNow_20 (by decide) ?_
        refine wp_iinc dX11_plannedNow_119 rfl (Nat.le_of_ble_eq_true rfl) rfl ?_
        change WP G mX11_plannedNow _ _ _ _ h N 122 [some (.ref (cB G + 169)), some (JV dl), some (JV y), some (JV ((t : Int) + 1)), x4, x5, x6] []
        refine wp_goto 4 dX11_plannedNow_122 (by decide) ?_
        exact ih (t + 1) y _ _ _ (by omega) (by omega) kk

theorem m_plannedNow (P : MP G N M L z h) (r : RS S M) (w : WF S) (km : KM S K M) (kc : KC K) {dl : Int} {dd : Nat} (hdl : dl = (dd : Int)) (hdd : dd ≤ 10000) (hE : ∀ t : Nat, t < 24 → K.2.2.2.1 t = 1 → 0 ≤ K.2.2.1 t) : CT G mX11_plannedNow [.ref (cB G + 169), JV dl] h N 0 0 (PV (JV (planF S K.2.1 K.2.2.1 K.2.2.2.1 K.2.2.2.2.1 K.2.2.2.2.2.1 K.2.2.2.2.2.2.2 dl (S 13 0 0).toNat 0)) h N) := by
  refine CT_of (by decide +kernel) rfl (by simp [Value.category]) (Nat.le_of_ble_eq_true rfl) ?_
  change WP G mX11_plannedNow _ noX _ _ h N 0 [some (.ref (cB G + 169)), some (JV dl), none, none, none, none, none] []
  refine wp_iconst dX11_plannedNow_0 ?_
  refine wp_istore_n dX11_plannedNow_1 (Nat.le_of_ble_eq_true rfl) rfl ?_
  change WP G mX11_plannedNow _ _ _ _ h N 2 [some (.ref (cB G + 169)), some (JV dl), some (JV 0), none, none, none, none] []
  refine wp_iconst dX11_plannedNow_2 ?_
  refine wp_istore_n dX11_plannedNow_3 (Nat.le_of_ble_eq_true rfl) rfl ?_
  change WP G mX11_plannedNow _ _ _ _ h N 4 [some (.ref (cB G + 169)), some (JV dl), some (JV 0), some (JV 0), none, none, none] []
  have wT := w.nT
  refine l_plan2 P r w km kc hdl hdd hE _ 0 0 _ _ _ rfl (by omega) ?_
  rw [Int.zero_add]
  exact ⟨rfl, rfl, rfl⟩

theorem m_behindNow (P : MP G N M L z h) (r : RS S M) (w : WF S) (km : KM S K M) (kc : KC K) {s : LState} (ml : MLS S M s) (lv : LV9 S s) {t : Nat} (ht : t < 24) : CT G mX11_behindNow [.ref (cB G + 169), JV (t : Int)] h N 0 0 (PV (JV (dlyF K.2.2.1 K.2.2.2.1 (M 22 1) s.2.2.1 t)) h N) := by
  refine CT_of (by decide +kernel) rfl (by simp [Value.category]) (Nat.le_of_ble_eq_true rfl) ?_
  change WP G mX11_behindNow _ noX _ _ h N 0 [some (.ref (cB G + 169)), some (JV (t : Int))] []
  have wt := w.task ht
  have kt := km.2.1 t ht
  have k0 := km.1
  have kr := kc.1.2 t ht
  have ki := kc.1.1 t
  have wT := w.nT
  have lv5 := lv.2.2.2.2.1 t ht
  have lv8 := lv.2.2.2.2.2.2.2.1 t
  have l01 := lv.1 t
  have m22 := ml.1 t ht
  have hct := lv.ct w
  refine wp_aload_n dX11_behindNow_0 rfl ?_
  refine wp_iload_n dX11_behindNow_1 rfl ?_
  refine wp_v1p (m_isKept (N := N) P r w km kc (t := t) ht) cvX11_254 dX11_behindNow_2 ⟨Nat.le_of_ble_eq_true rfl, Nat.le_of_ble_eq_true rfl⟩ (Nat.le_of_ble_eq_true rfl) (P.s0 r) rfl rfl ?_
  refine wp_if_eq 40 dX11_behindNow_5 (by decide) (bI_r _) (fun c_5 => ?_) (fun c_5 => ?_)
  · refine wp_iconst dX11_behindNow_40 ?_
    refine wp_iret dX11_behindNow_41 rfl ?_
    refine ⟨?_, rfl, rfl⟩
    unfold dlyF
    rw [if_neg (fun q => by rw [decide_eq_true q.1] at c_5; exact absurd c_5 (by decide))]
  · refine wp_aload_n dX11_behindNow_8 rfl ?_
    refine wp_get fkX11_64 dX11_behindNow_9 (P.s0 r) rfl ?_
    refine wp_iconst dX11_behindNow_12 ?_
    refine wp_aaload dX11_behindNow_13 P.q22 rfl rfl (by omega) (by omega) (by omega) (if_pos (by omega)) ?_
    change WP G mX11_behindNow _ _ _ _ h N 14 [some (.ref (cB G + 169)), some (JV (t : Int))] [.ref (cB G + 262 + 1)]
    refine wp_iload_n dX11_behindNow_14 rfl ?_
    refine wp_iaload dX11_behindNow_15 (P.r22 (i := 1) (by omega)) (by omega) (by omega) (by omega) ?_
    change WP G mX11_behindNow _ _ _ _ h N 16 [some (.ref (cB G + 169)), some (JV (t : Int))] [JV (M 22 1 t)]
    refine wp_iconst dX11_behindNow_16 ?_
    refine wp_icmp_eq 40 dX11_behindNow_17 (by decide) ⟨by omega, by omega⟩ ⟨by omega, by omega⟩ (fun c_17 => ?_) (fun c_17 => ?_)
    · refine wp_iconst dX11_behindNow_40 ?_
      refine wp_iret dX11_behindNow_41 rfl ?_
      refine ⟨?_, rfl, rfl⟩
      unfold dlyF
      rw [if_neg (fun q => by have := lv5 q.2; omega)]
    · refine wp_aload_n dX11_behindNow_20 rfl ?_
      refine wp_get fkX11_64 dX11_behindNow_21 (P.s0 r) rfl ?_
      refine wp_iconst dX11_behindNow_24 ?_
      refine wp_aaload dX11_behindNow_25 P.q22 rfl rfl (by omega) (by omega) (by omega) (if_pos (by omega)) ?_
      change WP G mX11_behindNow _ _ _ _ h N 26 [some (.ref (cB G + 169)), some (JV (t : Int))] [.ref (cB G + 262 + 1)]
      refine wp_iload_n dX11_behindNow_26 rfl ?_
      refine wp_iaload dX11_behindNow_27 (P.r22 (i := 1) (by omega)) (by omega) (by omega) (by omega) ?_
      change WP G mX11_behindNow _ _ _ _ h N 28 [some (.ref (cB G + 169)), some (JV (t : Int))] [JV (M 22 1 t)]
      refine wp_aload_n dX11_behindNow_28 rfl ?_
      refine wp_get fkX11_73 dX11_behindNow_29 (P.s0 r) rfl ?_
      refine wp_iconst dX11_behindNow_32 ?_
      refine wp_aaload dX11_behindNow_33 P.q29 rfl rfl (by omega) (by omega) (by omega) (if_pos (by omega)) ?_
      change WP G mX11_behindNow _ _ _ _ h N 34 [some (.ref (cB G + 169)), some (JV (t : Int))] [.ref (cB G + 271 + 1), JV (M 22 1 t)]
      refine wp_iload_n dX11_behindNow_34 rfl ?_
      refine wp_iaload dX11_behindNow_35 (P.r29 (i := 1) (by omega)) (by omega) (by omega) (by omega) ?_
      change WP G mX11_behindNow _ _ _ _ h N 36 [some (.ref (cB G + 169)), some (JV (t : Int))] [JV (M 29 1 t), JV (M 22 1 t)]
      refine wp_isub dX11_behindNow_36 ?_
      refine wp_goto 41 dX11_behindNow_37 (by decide) ?_
      refine wp_iret dX11_behindNow_41 rfl ?_
      refine ⟨?_, rfl, rfl⟩
      unfold dlyF
      have hk1 : K.2.2.2.1 t = 1 := bI_p c_5
      have hs1 : s.2.2.1 t = 1 := l01.resolve_left (fun q => c_17 (m22.2.trans (lv8 q).2))
      rw [if_pos ⟨hk1, hs1⟩, (kt.1 (by by_cases q : (t : Int) < M 28 0 0; exact q; exact absurd (kt.2 q) (by omega))).2.1]

end Mk

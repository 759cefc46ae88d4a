/-! ===== the order of the tasks ===== -/
theorem php0 : ∀ (n : Nat) (f : Nat → Nat), (∀ i, i < n + 1 → f i < n) → ∃ i j : Nat, i < j ∧ j < n + 1 ∧ f i = f j
  | 0, f, hf => absurd (hf 0 (by omega)) (by omega)
  | n + 1, f, hf => by
    by_cases hx : ∃ i, i < n + 1 ∧ f i = f (n + 1)
    · obtain ⟨i, h1, h2⟩ := hx
      exact ⟨i, n + 1, h1, by omega, h2⟩
    · have hne : ∀ i, i < n + 1 → f i ≠ f (n + 1) := fun i hi q => hx ⟨i, hi, q⟩
      obtain ⟨i, j, h1, h2, h3⟩ := php0 n (fun i => if f i < f (n + 1) then f i else f i - 1) (fun i hi => by
        have h1 := hf i (by omega)
        have h2 := hf (n + 1) (by omega)
        have h3 := hne i hi
        show (if f i < f (n + 1) then f i else f i - 1) < n
        split <;> omega)
      have hi := hne i (by omega)
      have hj := hne j (by omega)
      have e : (if f i < f (n + 1) then f i else f i - 1) = (if f j < f (n + 1) then f j else f j - 1) := h3
      exact ⟨i, j, h1, by omega, by split at e <;> split at e <;> omega⟩
theorem php1 (n k : Nat) (f : Nat → Nat) (hk : k < n) : ∃ t, t < n ∧ ∀ i, i < k → f i ≠ t := by
  refine Classical.byContradiction fun hc => ?_
  have hall : ∀ t, ∃ i, t < n → i < k ∧ f i = t := fun t => by
    by_cases ht : t < n
    · refine Classical.byContradiction fun hn => hc ⟨t, ht, fun i hi q => hn ⟨i, fun _ => ⟨hi, q⟩⟩⟩
    · exact ⟨0, fun h => absurd h ht⟩
  have g : ∀ t, t < n → Classical.choose (hall t) < k ∧ f (Classical.choose (hall t)) = t := fun t => Classical.choose_spec (hall t)
  obtain ⟨i, j, h1, h2, h3⟩ := php0 k (fun t => Classical.choose (hall t)) (fun i hi => (g i (by omega)).1)
  have a := (g i (by omega)).2
  have b := (g j (by omega)).2
  have h3 : Classical.choose (hall i) = Classical.choose (hall j) := h3
  rw [h3] at a
  omega
theorem php2 (n : Nat) (f : Nat → Nat) (hf : ∀ i, i < n → f i < n) (hi : ∀ i j, i < n → j < n → f i = f j → i = j) (t : Nat) (ht : t < n) : ∃ i, i < n ∧ f i = t := by
  refine Classical.byContradiction fun hc => ?_
  have hne : ∀ i, i < n → f i ≠ t := fun i h q => hc ⟨i, h, q⟩
  cases n with
  | zero => omega
  | succ n =>
    obtain ⟨i, j, h1, h2, h3⟩ := php0 n (fun i => if f i < t then f i else f i - 1) (fun i h => by
      have := hf i h
      have := hne i h
      show (if f i < t then f i else f i - 1) < n
      split <;> omega)
    have a := hne i (by omega)
    have b := hne j h2
    have h3 : (if f i < t then f i else f i - 1) = (if f j < t then f j else f j - 1) := h3
    have := hi i j (by omega) h2 (by split at h3 <;> split at h3 <;> omega)
    omega
theorem opn_iff {S : ST} {g : Nat → Int} {t : Int} : ∀ (m i : Nat), opn S g t m i = true ↔ ∀ j, i ≤ j → j < i + m → lT S j = t → ¬ g (lF S j).toNat = 0
  | 0, i => by simp [opn]; omega
  | m + 1, i => by
    unfold opn
    by_cases h : lT S i = t ∧ g (lF S i).toNat = 0
    · rw [if_pos h]
      simp only [Bool.false_eq_true, false_iff]
      exact fun q => q i (Nat.le_refl _) (by omega) h.1 h.2
    · rw [if_neg h, opn_iff m (i + 1)]
      constructor
      · intro q j h1 h2 h3 h4
        by_cases hj : j = i
        · subst hj; exact h ⟨h3, h4⟩
        · exact q j (by omega) (by omega) h3 h4
      · intro q j h1 h2
        exact q j (by omega) (by omega)
/-- a rank that grows along links -/
def ACY (S : ST) : Prop := (∀ j : Nat, (j : Int) < S 14 0 0 → (0 ≤ lF S j ∧ lF S j < S 13 0 0) ∧ 0 ≤ lT S j ∧ lT S j < S 13 0 0) ∧ ∃ r : Nat → Nat, ∀ j : Nat, (j : Int) < S 14 0 0 → r (lF S j).toNat < r (lT S j).toNat
theorem acy_open {S : ST} {g : Nat → Int} (hg : ∀ i, g i = 0 ∨ g i = 1) (r : Nat → Nat) (hl : ∀ j : Nat, (j : Int) < S 14 0 0 → (0 ≤ lF S j ∧ lF S j < S 13 0 0) ∧ 0 ≤ lT S j ∧ lT S j < S 13 0 0) (hr : ∀ j : Nat, (j : Int) < S 14 0 0 → r (lF S j).toNat < r (lT S j).toNat) :
    ∀ (n t : Nat), r t = n → (t : Int) < S 13 0 0 → g t = 0 → ∃ t' : Nat, (t' : Int) < S 13 0 0 ∧ g t' = 0 ∧ opn S g (t' : Int) (S 14 0 0).toNat 0 = true := by
  intro n
  induction n using Nat.strongRecOn with
  | ind n ih =>
    intro t hn ht h0
    by_cases ho : opn S g (t : Int) (S 14 0 0).toNat 0 = true
    · exact ⟨t, ht, h0, ho⟩
    · rw [opn_iff] at ho
      refine Classical.byContradiction fun hc => ho fun j _ hj h3 h4 => hc ?_
      have a := hr j (by omega)
      have b := hl j (by omega)
      rw [h3, Int.toNat_natCast] at a
      exact ih (r (lF S j).toNat) (by omega) _ rfl (by omega) h4
/-- the first task from i on, of m, that is not marked and open -/
def fop (S : ST) : Nat → Nat → Int
  | 0, _ => -1
  | m + 1, i => if S 17 i 0 = 0 ∧ opn S (fun i => S 17 i 0) (i : Int) (S 14 0 0).toNat 0 = true then (i : Int) else fop S m (i + 1)
theorem fop_spec {S : ST} : ∀ (m i : Nat), (fop S m i = -1 ∧ ∀ t : Nat, i ≤ t → t < i + m → ¬ (S 17 t 0 = 0 ∧ opn S (fun i => S 17 i 0) (t : Int) (S 14 0 0).toNat 0 = true)) ∨ (∃ t : Nat, fop S m i = (t : Int) ∧ i ≤ t ∧ t < i + m ∧ S 17 t 0 = 0 ∧ opn S (fun i => S 17 i 0) (t : Int) (S 14 0 0).toNat 0 = true)
  | 0, i => Or.inl ⟨rfl, fun t h1 h2 => by omega⟩
  | m + 1, i => by
    unfold fop
    by_cases h : S 17 i 0 = 0 ∧ opn S (fun i => S 17 i 0) (i : Int) (S 14 0 0).toNat 0 = true
    · rw [if_pos h]
      exact Or.inr ⟨i, rfl, Nat.le_refl _, by omega, h.1, h.2⟩
    · rw [if_neg h]
      rcases fop_spec (S := S) m (i + 1) with ⟨a, b⟩ | ⟨t, a, b, c, d⟩
      · refine Or.inl ⟨a, fun t h1 h2 => ?_⟩
        by_cases ht : t = i
        · subst ht; exact h
        · exact b t (by omega) (by omega)
      · exact Or.inr ⟨t, a, by omega, by omega, d⟩
section SortS
variable {G : Ctx} {N : Nat} {S : ST} {h : AH}
theorem l_firstOpen {Q : PQ} {X : PX} {k n : Nat} (H : HP G S h) (w : WF S) : ∀ (m : Nat) (i : Nat), ((S 13 0 0).toNat - i = m) → (i ≤ 24) → (Q (some (JV (fop S m i))) h N) → WP G mX8_firstOpen Q X k n h N 2 [some (.ref (cB G + 1)), some (JV (i : Int))] [] := by
  intro m
  induction m with
  | zero =>
    intro i hm hi kk
    have wT := w.nT
    refine wp_iload_n dX8_firstOpen_2 rfl ?_
    refine wp_aload_n dX8_firstOpen_3 rfl ?_
    refine wp_get fkX8_60 dX8_firstOpen_4 H.1 rfl ?_
    refine wp_icmp_ge 39 dX8_firstOpen_7 (by decide) ⟨by omega, by omega⟩ ⟨by omega, by omega⟩ (fun c_7 => ?_) (fun c_7 => ?_)
    · refine wp_iconst dX8_firstOpen_39 ?_
      refine wp_iret dX8_firstOpen_40 rfl ?_
      exact kk
    · exact absurd c_7 (by omega)
  | succ m ih =>
    intro i hm hi kk
    have wT := w.nT
    have wmi := w.marks i
    refine wp_iload_n dX8_firstOpen_2 rfl ?_
    refine wp_aload_n dX8_firstOpen_3 rfl ?_
    refine wp_get fkX8_60 dX8_firstOpen_4 H.1 rfl ?_
    refine wp_icmp_ge 39 dX8_firstOpen_7 (by decide) ⟨by omega, by omega⟩ ⟨by omega, by omega⟩ (fun c_7 => ?_) (fun c_7 => ?_)
    · exact absurd c_7 (by omega)
    · refine wp_aload_n dX8_firstOpen_10 rfl ?_
      refine wp_get fkX8_39 dX8_firstOpen_11 H.1 rfl ?_
      refine wp_iload_n dX8_firstOpen_14 rfl ?_
      refine wp_zaload dX8_firstOpen_15 H.2.2.2.2.2.2.1 (by omega) (by omega) (by omega) ?_
      change WP G mX8_firstOpen _ _ _ _ h N 16 [some (.ref (cB G + 1)), some (JV (i : Int))] [JV (S 17 i 0)]
      refine wp_if_ne 33 dX8_firstOpen_16 (by decide) ⟨by omega, by omega⟩ (fun c_16 => ?_) (fun c_16 => ?_)
      · refine wp_iinc dX8_firstOpen_33 rfl (Nat.le_of_ble_eq_true rfl) rfl ?_
        change WP G mX8_firstOpen _ _ _ _ h N 36 [some (.ref (cB G + 1)), some (JV ((i : Int) + 1))] []
        refine wp_goto 2 dX8_firstOpen_36 (by decide) ?_
        rw [fop, if_neg (fun q => c_16 q.1)] at kk
        exact ih (i + 1) (by omega) (by omega) kk
      · refine wp_aload_n dX8_firstOpen_19 rfl ?_
        refine wp_iload_n dX8_firstOpen_20 rfl ?_
        refine wp_aload_n dX8_firstOpen_21 rfl ?_
        refine wp_get fkX8_39 dX8_firstOpen_22 H.1 rfl ?_
        refine wp_v2p (c_isOpen (N := N) H w (by omega) H.2.2.2.2.2.2.1 w.marks) cvX8_92 dX8_firstOpen_25 ⟨Nat.le_of_ble_eq_true rfl, Nat.le_of_ble_eq_true rfl⟩ (Nat.le_of_ble_eq_true rfl) H.1 rfl rfl ?_
        refine wp_if_eq 33 dX8_firstOpen_28 (by decide) (bI_r _) (fun c_28 => ?_) (fun c_28 => ?_)
        · refine wp_iinc dX8_firstOpen_33 rfl (Nat.le_of_ble_eq_true rfl) rfl ?_
          change WP G mX8_firstOpen _ _ _ _ h N 36 [some (.ref (cB G + 1)), some (JV ((i : Int) + 1))] []
          refine wp_goto 2 dX8_firstOpen_36 (by decide) ?_
          rw [fop, if_neg (fun q => by rw [bI_t q.2] at c_28; exact absurd c_28 (by decide))] at kk
          exact ih (i + 1) (by omega) (by omega) kk
        · refine wp_iload_n dX8_firstOpen_31 rfl ?_
          refine wp_iret dX8_firstOpen_32 rfl ?_
          rw [fop, if_pos ⟨c_16, bI_ne c_28⟩] at kk
          exact kk

theorem c_firstOpen (H : HP G S h) (w : WF S) : CT G mX8_firstOpen [.ref (cB G + 1)] h N 0 0 (PV (JV (fop S (S 13 0 0).toNat 0)) h N) := by
  refine CT_of (by decide +kernel) rfl (by simp [Value.category]) (Nat.le_of_ble_eq_true rfl) ?_
  change WP G mX8_firstOpen _ noX _ _ h N 0 [some (.ref (cB G + 1)), none] []
  refine wp_iconst dX8_firstOpen_0 ?_
  refine wp_istore_n dX8_firstOpen_1 (Nat.le_of_ble_eq_true rfl) rfl ?_
  change WP G mX8_firstOpen _ _ _ _ h N 2 [some (.ref (cB G + 1)), some (JV 0)] []
  exact l_firstOpen H w _ 0 rfl (by omega) ⟨rfl, rfl, rfl⟩

/-- only marks and order were written -/
def SOd (G : Ctx) (S : ST) (h : AH) (S' : ST) (h' : AH) : Prop := HP G S' h' ∧ (∀ f, f ≠ 16 → f ≠ 17 → S' f = S f) ∧ (∀ i, S' 17 i 0 = 0 ∨ S' 17 i 0 = 1) ∧ (∀ i, i < 24 → 0 ≤ S' 16 i 0 ∧ S' 16 i 0 < 24) ∧ FR (cB G + 6) (cB G + 8) h h'
theorem SOd.tr {G : Ctx} {S S1 S2 : ST} {h h1 h2 : AH} (a : SOd G S h S1 h1) (b : SOd G S1 h1 S2 h2) : SOd G S h S2 h2 := ⟨b.1, fun f hf hf2 => (b.2.1 f hf hf2).trans (a.2.1 f hf hf2), b.2.2.1, b.2.2.2.1, a.2.2.2.2.tr b.2.2.2.2⟩
theorem MKd.so {G : Ctx} {S S' : ST} {h h' : AH} (m : MKd G S h S' h') (w : WF S) : SOd G S h S' h' := ⟨m.1, fun f _ h2 => m.2.1 f h2, m.2.2.1, fun i hi => by rw [m.2.1 16 (by decide)]; exact w.sorted hi, m.2.2.2.mono (by omega) (by omega)⟩
theorem SOd.wf {G : Ctx} {S S' : ST} {h h' : AH} (m : SOd G S h S' h') (w : WF S) : WF S' := by
  obtain ⟨w1, w2, w3, w4, w5, w6, w7, w8, w9, w10, w11, w12, w13⟩ := w
  have a := m.2.1
  unfold WF
  simp only [a 0 (by decide) (by decide), a 1 (by decide) (by decide), a 2 (by decide) (by decide), a 3 (by decide) (by decide), a 4 (by decide) (by decide), a 5 (by decide) (by decide), a 6 (by decide) (by decide), a 7 (by decide) (by decide), a 8 (by decide) (by decide), a 9 (by decide) (by decide), a 10 (by decide) (by decide), a 11 (by decide) (by decide), a 12 (by decide) (by decide), a 13 (by decide) (by decide), a 14 (by decide) (by decide), a 15 (by decide) (by decide), a 18 (by decide) (by decide), a 19 (by decide) (by decide), a 20 (by decide) (by decide), a 21 (by decide) (by decide), a 22 (by decide) (by decide)]
  exact ⟨w1, w2, w3, w4, w5, w6, w7, w8, w9, m.2.2.2.1, m.2.2.1, w12, w13⟩
theorem l_sortTasks {Q : PQ} {X : PX} {k9 n : Nat} {S0 : ST} {h0 : AH} (w0 : WF S0) (ac : ACY S0) : ∀ (m : Nat) (k : Nat) (S : ST) (h : AH) (xl : Option Value), ((S0 13 0 0).toNat - k = m) → ((k : Int) ≤ S0 13 0 0) → (SOd G S0 h0 S h) → (∀ i : Nat, i < k → 0 ≤ S 16 i 0 ∧ S 16 i 0 < S0 13 0 0) → (∀ i j : Nat, i < k → j < k → S 16 i 0 = S 16 j 0 → i = j) → (∀ x : Nat, x < 24 → (S 17 x 0 = 1 ↔ ∃ i : Nat, i < k ∧ S 16 i 0 = (x : Int))) → (∀ q j : Nat, q < k → (j : Int) < S0 14 0 0 → lT S0 j = S 16 q 0 → ∃ i : Nat, i < q ∧ S 16 i 0 = lF S0 j) → (∀ (S' : ST) (h' : AH), SOd G S0 h0 S' h' → TOP S' → Q none h' N) → WP G mX8_sortTasks Q X k9 n h N 6 [some (.ref (cB G + 1)), some (JV (k : Int)), xl] [] := by
  intro m
  induction m with
  | zero =>
    intro k S h xl hm hk sd j1 j2 j3 j4 kk
    have H := sd.1
    have w := sd.wf w0
    have wT := w0.nT
    have q13 := sd.2.1 13 (by decide) (by decide)
    have q14 := sd.2.1 14 (by decide) (by decide)
    have q18 := sd.2.1 18 (by decide) (by decide)
    have q19 := sd.2.1 19 (by decide) (by decide)
    have q20 := sd.2.1 20 (by decide) (by decide)
    have e13 : S 13 0 0 = S0 13 0 0 := by rw [q13]
    have e14 : S 14 0 0 = S0 14 0 0 := by rw [q14]
    refine wp_iload_n dX8_sortTasks_6 rfl ?_
    refine wp_aload_n dX8_sortTasks_7 rfl ?_
    refine wp_get fkX8_60 dX8_sortTasks_8 H.1 rfl ?_
    refine wp_icmp_ge 44 dX8_sortTasks_11 (by decide) ⟨by omega, by omega⟩ ⟨by omega, by omega⟩ (fun c_11 => ?_) (fun c_11 => ?_)
    · refine wp_vret dX8_sortTasks_44 rfl ?_
      have hkn : (k : Int) = S0 13 0 0 := by omega
      refine kk S h sd ⟨fun j hj => ?_, fun i hi => ?_, fun i j hi hj => ?_, fun t h1 h2 => ?_, fun q j hq hj hs => ?_⟩
      · rw [e14] at hj
        rw [lF_of q18 q19, lT_of q18 q20, e13]
        exact ac.1 j hj
      · rw [e13] at hi ⊢
        exact j1 i (by omega)
      · rw [e13] at hi hj
        exact j2 i j (by omega) (by omega)
      · rw [e13] at h2 ⊢
        obtain ⟨i, i1, i2⟩ := php2 k (fun i => (S 16 i 0).toNat) (fun i hi => by have := j1 i hi; show (S 16 i 0).toNat < k; omega) (fun i j hi hj hs => j2 i j hi hj (by have := j1 i hi; have := j1 j hj; have hs : (S 16 i 0).toNat = (S 16 j 0).toNat := hs; omega)) t.toNat (by omega)
        have i2 : (S 16 i 0).toNat = t.toNat := i2
        have := j1 i i1
        exact ⟨i, by omega, by omega⟩
      · rw [e13] at hq
        rw [e14] at hj
        rw [lT_of q18 q20] at hs
        rw [lF_of q18 q19]
        exact j4 q j (by omega) hj hs
    · exact absurd c_11 (by omega)
  | succ m ih =>
    intro k S h xl hm hk sd j1 j2 j3 j4 kk
    have H := sd.1
    have w := sd.wf w0
    have wT := w0.nT
    have q13 := sd.2.1 13 (by decide) (by decide)
    have q14 := sd.2.1 14 (by decide) (by decide)
    have q18 := sd.2.1 18 (by decide) (by decide)
    have q19 := sd.2.1 19 (by decide) (by decide)
    have q20 := sd.2.1 20 (by decide) (by decide)
    have e13 : S 13 0 0 = S0 13 0 0 := by rw [q13]
    have e14 : S 14 0 0 = S0 14 0 0 := by rw [q14]
    refine wp_iload_n dX8_sortTasks_6 rfl ?_
    refine wp_aload_n dX8_sortTasks_7 rfl ?_
    refine wp_get fkX8_60 dX8_sortTasks_8 H.1 rfl ?_
    refine wp_icmp_ge 44 dX8_sortTasks_11 (by decide) ⟨by omega, by omega⟩ ⟨by omega, by omega⟩ (fun c_11 => ?_) (fun c_11 => ?_)
    · exact absurd c_11 (by omega)
    · have hm2 : (S0 13 0 0).toNat - (k + 1) = m := by omega
      have hk2 : ((k + 1 : Nat) : Int) ≤ S0 13 0 0 := by omega
      have hfp := fop_spec (S := S) (S 13 0 0).toNat 0
      have hfr : -1 ≤ fop S (S 13 0 0).toNat 0 ∧ fop S (S 13 0 0).toNat 0 < 24 := by
        rcases hfp with ⟨g, _⟩ | ⟨t8, g, _, g2, _⟩ <;> omega
      refine wp_aload_n dX8_sortTasks_14 rfl ?_
      refine wp_v0p (c_firstOpen (N := N) H w) cvX8_88 dX8_sortTasks_15 ⟨Nat.le_of_ble_eq_true rfl, Nat.le_of_ble_eq_true rfl⟩ (Nat.le_of_ble_eq_true rfl) H.1 rfl rfl ?_
      refine wp_istore_n dX8_sortTasks_18 (Nat.le_of_ble_eq_true rfl) rfl ?_
      change WP G mX8_sortTasks _ _ _ _ h N 19 [some (.ref (cB G + 1)), some (JV (k : Int)), some (JV (fop S (S 13 0 0).toNat 0))] []
      refine wp_iload_n dX8_sortTasks_19 rfl ?_
      refine wp_if_ge 24 dX8_sortTasks_20 (by decide) ⟨by omega, by omega⟩ (fun c_20 => ?_) (fun c_20 => ?_)
      · refine wp_aload_n dX8_sortTasks_24 rfl ?_
        refine wp_get fkX8_39 dX8_sortTasks_25 H.1 rfl ?_
        refine wp_iload_n dX8_sortTasks_28 rfl ?_
        refine wp_iconst dX8_sortTasks_29 ?_
        refine wp_zastore dX8_sortTasks_30 H.2.2.2.2.2.2.1 (by omega) (by omega) (by omega) (Or.inr rfl) ?_
        obtain ⟨h_1, eh_1⟩ : ∃ hh9 : AH, hh9 = hup h (cB G + 7) (eZ G 24 (fup (fun i => S 17 i 0) (fop S (S 13 0 0).toNat 0).toNat 1)) := ⟨_, rfl⟩
        refine WP.heq eh_1 ?_
        obtain ⟨S_1, eS_1⟩ : ∃ ss9 : ST, ss9 = su S 17 ((fop S (S 13 0 0).toNat 0).toNat) 0 1 := ⟨_, rfl⟩
        have H_1 : HP G S_1 h_1 := by rw [eS_1]; exact HP_17 (i := (fop S (S 13 0 0).toNat 0).toNat) (v := 1)  H eh_1
        refine wp_aload_n dX8_sortTasks_31 rfl ?_
        refine wp_get fkX8_35 dX8_sortTasks_32 H_1.1 rfl ?_
        refine wp_iload_n dX8_sortTasks_35 rfl ?_
        refine wp_iload_n dX8_sortTasks_36 rfl ?_
        refine wp_iastore dX8_sortTasks_37 H_1.2.2.2.2.2.1 (by omega) (by omega) (by omega) ?_
        obtain ⟨h_2, eh_2⟩ : ∃ hh9 : AH, hh9 = hup h_1 (cB G + 6) (eI G 24 (fup (fun i => S_1 16 i 0) k (fop S (S 13 0 0).toNat 0))) := ⟨_, rfl⟩
        refine WP.heq eh_2 ?_
        obtain ⟨S_2, eS_2⟩ : ∃ ss9 : ST, ss9 = su S_1 16 k 0 (fop S (S 13 0 0).toNat 0) := ⟨_, rfl⟩
        have H_2 : HP G S_2 h_2 := by rw [eS_2]; exact HP_16 (i := k) (v := fop S (S 13 0 0).toNat 0)  H_1 eh_2
        refine wp_iinc dX8_sortTasks_38 rfl (Nat.le_of_ble_eq_true rfl) rfl ?_
        change WP G mX8_sortTasks _ _ _ _ h_2 N 41 [some (.ref (cB G + 1)), some (JV ((k : Int) + 1)), some (JV (fop S (S 13 0 0).toNat 0))] []
        refine wp_goto 6 dX8_sortTasks_41 (by decide) ?_
        obtain ⟨t8, g1, -, g2, g3, g4⟩ : ∃ t8 : Nat, fop S (S 13 0 0).toNat 0 = (t8 : Int) ∧ 0 ≤ t8 ∧ t8 < 0 + (S 13 0 0).toNat ∧ S 17 t8 0 = 0 ∧ opn S (fun i => S 17 i 0) (t8 : Int) (S 14 0 0).toNat 0 = true := by
          rcases hfp with ⟨g, _⟩ | g
          · omega
          · exact g
        rw [g1] at eS_1 eS_2
        rw [Int.toNat_natCast] at eS_1
        have a16 : ∀ i, i ≠ k → S_2 16 i 0 = S 16 i 0 := fun i hi => by rw [eS_2, su_i hi, eS_1, su_f (by decide)]
        have b16 : S_2 16 k 0 = (t8 : Int) := by rw [eS_2]; exact su_s
        have a17 : ∀ i, i ≠ t8 → S_2 17 i 0 = S 17 i 0 := fun i hi => by rw [eS_2, su_f (by decide), eS_1, su_i hi]
        have b17 : S_2 17 t8 0 = 1 := by rw [eS_2, su_f (by decide), eS_1]; exact su_s
        have sd2 : SOd G S h S_2 h_2 := by
          refine ⟨H_2, fun f hf hf2 => by rw [eS_2, su_f hf, eS_1, su_f hf2], fun i => ?_, fun i hi => ?_, (FR.rf.up eh_1 ⟨by omega, by omega⟩).up eh_2 ⟨by omega, by omega⟩⟩
          · by_cases hi : i = t8
            · rw [hi, b17]; exact Or.inr rfl
            · rw [a17 i hi]; exact w.marks i
          · by_cases hik : i = k
            · rw [hik, b16]; omega
            · rw [a16 i hik]; exact w.sorted hi
        refine ih (k + 1) S_2 h_2 _ hm2 hk2 (sd.tr sd2) (fun i hi => ?_) (fun i j hi hj hs => ?_) (fun x hx => ?_) (fun q j hq hj hs => ?_) kk
        · by_cases hik : i = k
          · rw [hik, b16]; omega
          · rw [a16 i hik]; exact j1 i (by omega)
        · by_cases hik : i = k <;> by_cases hjk : j = k
          · omega
          · exfalso
            rw [hik, b16, a16 j hjk] at hs
            have := (j3 t8 (by omega)).mpr ⟨j, by omega, hs.symm⟩
            omega
          · exfalso
            rw [hjk, b16, a16 i hik] at hs
            have := (j3 t8 (by omega)).mpr ⟨i, by omega, hs⟩
            omega
          · rw [a16 i hik, a16 j hjk] at hs
            exact j2 i j (by omega) (by omega) hs
        · by_cases hxt : x = t8
          · subst hxt
            exact ⟨fun _ => ⟨k, by omega, b16⟩, fun _ => b17⟩
          · rw [a17 x hxt, j3 x hx]
            constructor
            · rintro ⟨i, i1, i2⟩
              exact ⟨i, by omega, by rw [a16 i (by omega)]; exact i2⟩
            · rintro ⟨i, i1, i2⟩
              by_cases hik : i = k
              · rw [hik, b16] at i2; omega
              · rw [a16 i hik] at i2
                exact ⟨i, by omega, i2⟩
        · by_cases hqk : q = k
          · rw [hqk, b16] at hs
            have g5 := (opn_iff (S := S) (g := fun i => S 17 i 0) (t := (t8 : Int)) _ _).mp g4 j (by omega) (by omega) (by rw [lT_of q18 q20]; exact hs)
            rw [lF_of q18 q19] at g5
            have r1 := ac.1 j hj
            have g6 : S 17 (lF S0 j).toNat 0 = 1 := (w.marks _).resolve_left g5
            obtain ⟨i, i1, i2⟩ := (j3 _ (by omega)).mp g6
            exact ⟨i, by omega, by rw [a16 i (by omega)]; omega⟩
          · rw [a16 q hqk] at hs
            obtain ⟨i, i1, i2⟩ := j4 q j (by omega) hj hs
            exact ⟨i, i1, by rw [a16 i (by omega)]; exact i2⟩
      · obtain ⟨r, hr⟩ := ac.2
        obtain ⟨t, t1, t2⟩ := php1 (S0 13 0 0).toNat k (fun i => (S 16 i 0).toNat) (by omega)
        have t3 : S 17 t 0 = 0 := by
          rcases w.marks t with g | g
          · exact g
          · obtain ⟨i, i1, i2⟩ := (j3 t (by omega)).mp g
            exact absurd (show (S 16 i 0).toNat = t by omega) (t2 i i1)
        obtain ⟨t9, u1, u2, u3⟩ := acy_open (S := S) (g := fun i => S 17 i 0) w.marks r (fun j hj => by rw [lF_of q18 q19, lT_of q18 q20, e13]; exact ac.1 j (by omega)) (fun j hj => by rw [lF_of q18 q19, lT_of q18 q20]; exact hr j (by omega)) _ t rfl (by omega) t3
        rcases hfp with ⟨_, g⟩ | ⟨t8, g, _⟩
        · exact absurd ⟨u2, u3⟩ (g t9 (by omega) (by omega))
        · omega

theorem c_sortTasks {S : ST} {h : AH} (H : HP G S h) (w : WF S) (ac : ACY S) : CT G mX8_sortTasks [.ref (cB G + 1)] h N 0 0 (fun r h' N' => r = none ∧ N' = N ∧ ∃ S', SOd G S h S' h' ∧ TOP S') := by
  refine CT_of (by decide +kernel) rfl (by simp [Value.category]) (Nat.le_of_ble_eq_true rfl) ?_
  change WP G mX8_sortTasks _ noX _ _ h N 0 [some (.ref (cB G + 1)), none, none] []
  have wT := w.nT
  refine wp_aload_n dX8_sortTasks_0 rfl ?_
  refine wp_v0 0 0 (c_clearMarks (N := N) H w.marks) cvX8_81 dX8_sortTasks_1 ⟨Nat.le_of_ble_eq_true rfl, Nat.le_of_ble_eq_true rfl⟩ (Nat.le_of_ble_eq_true rfl) H.1 rfl rfl (Nat.zero_le _) (Nat.zero_le _) (fun r h9 N9 hq => ?_)
  obtain ⟨rfl, hN9, S9, m9, p1⟩ := hq
  rw [hN9]
  change WP G mX8_sortTasks _ _ _ _ h9 N 4 [some (.ref (cB G + 1)), none, none] []
  refine wp_iconst dX8_sortTasks_4 ?_
  refine wp_istore_n dX8_sortTasks_5 (Nat.le_of_ble_eq_true rfl) rfl ?_
  change WP G mX8_sortTasks _ _ _ _ h9 N 6 [some (.ref (cB G + 1)), some (JV 0), none] []
  refine l_sortTasks w ac _ 0 S9 h9 _ rfl (by omega) (m9.so w) (fun i hi => absurd hi (by omega)) (fun i j hi => absurd hi (by omega)) (fun x hx => ?_) (fun q j hq => absurd hq (by omega)) (fun S' h' a b => ⟨rfl, rfl, S', a, b⟩)
  rw [p1 x hx]
  exact ⟨fun q => absurd q (by decide), fun ⟨i, i1, _⟩ => absurd i1 (by omega)⟩

end SortS

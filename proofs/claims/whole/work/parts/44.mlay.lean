/-! ===== the reference: order, EARLY, LATE ===== -/
section Ml
variable {G : Ctx} {h : AH} {N : Nat} {S M : ST} {L : Nat → Nat} {z : Int64}
theorem TOP.rank (tp : TOP S) : ∃ r : Nat → Nat, ∀ j : Nat, (j : Int) < S 14 0 0 → r (lF S j).toNat < r (lT S j).toNat := by
  have hp : ∀ z : Nat, ∃ k : Nat, (z : Int) < S 13 0 0 → (k : Int) < S 13 0 0 ∧ S 16 k 0 = (z : Int) := fun z => by
    by_cases hz : (z : Int) < S 13 0 0
    · obtain ⟨k, k1, k2⟩ := tp.2.2.2.1 z (by omega) hz
      exact ⟨k, fun _ => ⟨k1, k2⟩⟩
    · exact ⟨0, fun q => absurd q hz⟩
  obtain ⟨p, hp⟩ := Classical.axiomOfChoice hp
  refine ⟨p, fun j hj => ?_⟩
  have r := tp.1 j hj
  have q1 := hp (lF S j).toNat (by omega)
  have q2 := hp (lT S j).toNat (by omega)
  obtain ⟨i, i1, i2⟩ := tp.2.2.2.2 (p (lT S j).toNat) j q2.1 hj (by rw [q2.2]; omega)
  have := tp.2.2.1 i (p (lF S j).toNat) (by omega) q1.1 (by rw [q1.2, i2]; omega)
  omega
/-- an order of the tasks in the making -/
def SRT (S : ST) (q g : Nat → Int) (k : Nat) : Prop := (∀ i : Nat, i < k → 0 ≤ q i ∧ q i < S 13 0 0) ∧ (∀ i j : Nat, i < k → j < k → q i = q j → i = j) ∧ (∀ x : Nat, x < 24 → (g x = 1 ↔ ∃ i : Nat, i < k ∧ q i = (x : Int))) ∧ ∀ p j : Nat, p < k → (j : Int) < S 14 0 0 → lT S j = q p → ∃ i : Nat, i < p ∧ q i = lF S j
theorem SRT.step {q g : Nat → Int} {k t : Nat} (w : WF S) (tp : TOP S) (hg : ∀ i, g i = 0 ∨ g i = 1) (s : SRT S q g k) (ht : (t : Int) < S 13 0 0) (h0 : g t = 0) (ho : opn S g (t : Int) (S 14 0 0).toNat 0 = true) : SRT S (fup q k (t : Int)) (fup g t 1) (k + 1) := by
  obtain ⟨j1, j2, j3, j4⟩ := s
  have wT := w.nT
  have wL := w.nL
  have b16 : fup q k (t : Int) k = (t : Int) := fupe
  have a16 : ∀ i, i ≠ k → fup q k (t : Int) i = q i := fun i hi => fupn hi
  refine ⟨fun i hi => ?_, fun i j hi hj hs => ?_, fun x hx => ?_, fun p j hp hj hs => ?_⟩
  · by_cases hik : i = k
    · rw [hik, b16]; omega
    · rw [a16 i hik]; exact j1 i (by omega)
  · by_cases hik : i = k <;> by_cases hjk : j = k
    · omega
    · exfalso
      rw [hik, b16, a16 j hjk] at hs
      have := (j3 t (by omega)).mpr ⟨j, by omega, hs.symm⟩
      omega
    · exfalso
      rw [hjk, b16, a16 i hik] at hs
      have := (j3 t (by omega)).mpr ⟨i, by omega, hs⟩
      omega
    · rw [a16 i hik, a16 j hjk] at hs
      exact j2 i j (by omega) (by omega) hs
  · by_cases hxt : x = t
    · subst hxt
      exact ⟨fun _ => ⟨k, by omega, b16⟩, fun _ => fupe⟩
    · rw [fupn hxt, j3 x hx]
      constructor
      · rintro ⟨i, i1, i2⟩
        exact ⟨i, by omega, by rw [a16 i (by omega)]; exact i2⟩
      · rintro ⟨i, i1, i2⟩
        by_cases hik : i = k
        · rw [hik, b16] at i2; omega
        · rw [a16 i hik] at i2
          exact ⟨i, by omega, i2⟩
  · by_cases hqk : p = k
    · rw [hqk, b16] at hs
      have g5 := (opn_iff (S := S) (g := g) (t := (t : Int)) _ _).mp ho j (by omega) (by omega) hs
      have r1 := tp.1 j hj
      obtain ⟨i, i1, i2⟩ := (j3 _ (by omega)).mp ((hg _).resolve_left g5)
      exact ⟨i, by omega, by rw [a16 i (by omega)]; omega⟩
    · rw [a16 p hqk] at hs
      obtain ⟨i, i1, i2⟩ := j4 p j (by omega) hj hs
      exact ⟨i, i1, by rw [a16 i (by omega)]; exact i2⟩
theorem SRT.opn {q g : Nat → Int} {k : Nat} (w : WF S) (tp : TOP S) (hg : ∀ i, g i = 0 ∨ g i = 1) (s : SRT S q g k) (hk : (k : Int) < S 13 0 0) : ∃ t : Nat, (t : Int) < S 13 0 0 ∧ g t = 0 ∧ opn S g (t : Int) (S 14 0 0).toNat 0 = true := by
  obtain ⟨j1, j2, j3, j4⟩ := s
  have wT := w.nT
  obtain ⟨r, hr⟩ := tp.rank
  obtain ⟨t, t1, t2⟩ := php1 (S 13 0 0).toNat k (fun i => (q i).toNat) (by omega)
  have t3 : g t = 0 := by
    rcases hg t with u | u
    · exact u
    · obtain ⟨i, i1, i2⟩ := (j3 t (by omega)).mp u
      exact absurd (show (q i).toNat = t by omega) (t2 i i1)
  exact acy_open hg r tp.1 hr _ t rfl (by omega) t3
/-- the tasks in an order, each behind those it follows -/
def TOQ (S : ST) (q : Nat → Int) : Prop := (∀ k : Nat, (k : Int) < S 13 0 0 → 0 ≤ q k ∧ q k < S 13 0 0) ∧ (∀ i k : Nat, (i : Int) < S 13 0 0 → (k : Int) < S 13 0 0 → q i = q k → i = k) ∧ (∀ t : Int, 0 ≤ t → t < S 13 0 0 → ∃ k : Nat, (k : Int) < S 13 0 0 ∧ q k = t) ∧ ∀ k j : Nat, (k : Int) < S 13 0 0 → (j : Int) < S 14 0 0 → lT S j = q k → ∃ i : Nat, i < k ∧ q i = lF S j
theorem SRT.end {q g : Nat → Int} {k : Nat} (w : WF S) (s : SRT S q g k) (hk : (k : Int) = S 13 0 0) : TOQ S q := by
  obtain ⟨j1, j2, j3, j4⟩ := s
  refine ⟨fun i hi => j1 i (by omega), fun i j hi hj => j2 i j (by omega) (by omega), fun t h0 h1 => ?_, fun p j hp => j4 p j (by omega)⟩
  obtain ⟨i, i1, i2⟩ := php2 k (fun i => (q i).toNat) (fun i hi => by have := j1 i hi; omega) (fun i j hi hj hs => j2 i j hi hj (by have := j1 i hi; have := j1 j hj; have hs : (q i).toNat = (q j).toNat := hs; omega)) t.toNat (by omega)
  have := j1 i i1
  have i2 : (q i).toNat = t.toNat := i2
  exact ⟨i, by omega, by omega⟩
/-- below N all but the reference's own is the same -/
def FA (G : Ctx) (N : Nat) (h h' : AH) : Prop := ∀ q : Nat, (q < cB G + 169 ∨ (cB G + 213 ≤ q ∧ q < cB G + 253) ∨ cB G + 281 ≤ q) → q < N → h' q = h q
theorem FA.rf : FA G N h h := fun _ _ _ => rfl
theorem FA.tr {h1 h2 : AH} {N' : Nat} (a : FA G N h h1) (b : FA G N' h1 h2) (hN : N ≤ N') : FA G N h h2 := fun q h3 h4 => (b q h3 (by omega)).trans (a q h3 h4)
theorem FA.up {h1 h2 : AH} {a : Nat} {e : va_E} (x : FA G N h h1) (eh : h2 = hup h1 a e) (ha : (cB G + 169 ≤ a ∧ (a < cB G + 213 ∨ cB G + 253 ≤ a) ∧ a < cB G + 281) ∨ N ≤ a) : FA G N h h2 := fun q h3 h4 => (hup_at eh (by omega)).trans (x q h3 h4)
theorem l_sort1 {Q : PQ} {X : PX} {k9 n9 : Nat} (P : MP G N M L z h) (r : RS S M) (w : WF S) {b k : Nat} {g : Nat → Int} (hb : h b = some (eZ G 24 g)) (hg : ∀ i, g i = 0 ∨ g i = 1) {y : Nat} (hy : y < 24) (h0 : g y = 0) (ho : opn S g (y : Int) (S 14 0 0).toNat 0 = true) : ∀ (m : Nat) (x : Nat), (y - x = m) → (x ≤ y) → (∀ x0 : Nat, x0 ≤ y → g x0 = 0 → opn S g (x0 : Int) (S 14 0 0).toNat 0 = true → WP G mX11_sort Q X k9 n9 h N 38 [some (.ref (cB G + 169)), some (.ref b), some (JV (k : Int)), some (JV (x0 : Int))] []) → WP G mX11_sort Q X k9 n9 h N 17 [some (.ref (cB G + 169)), some (.ref b), some (JV (k : Int)), some (JV (x : Int))] [] := by
  intro m
  induction m with
  | zero =>
    intro x hm hxy kk
    have hxy : x = y := by omega
    subst hxy
    refine wp_aload_n dX11_sort_17 rfl ?_
    refine wp_iload_n dX11_sort_18 rfl ?_
    refine wp_zaload dX11_sort_19 hb (by omega) (by omega) (by omega) ?_
    change WP G mX11_sort _ _ _ _ h N 20 [some (.ref (cB G + 169)), some (.ref b), some (JV (k : Int)), some (JV (x : Int))] [JV (g x)]
    refine wp_if_ne 32 dX11_sort_20 (by decide) ⟨by omega, by omega⟩ (fun c_20 => ?_) (fun c_20 => ?_)
    · exact absurd h0 c_20
    · refine wp_aload_n dX11_sort_23 rfl ?_
      refine wp_iload_n dX11_sort_24 rfl ?_
      refine wp_aload_n dX11_sort_25 rfl ?_
      refine wp_v2p (m_isFree (N := N) (P := P) (r := r) (w := w) (t := (x : Int)) (b := b) (g := g) (by omega) hb hg) cvX11_129 dX11_sort_26 ⟨Nat.le_of_ble_eq_true rfl, Nat.le_of_ble_eq_true rfl⟩ (Nat.le_of_ble_eq_true rfl) (P.s0 r) rfl rfl ?_
      refine wp_if_ne 38 dX11_sort_29 (by decide) (bI_r _) (fun c_29 => ?_) (fun c_29 => ?_)
      · exact kk x (Nat.le_refl _) h0 ho
      · exact absurd (bI_eq c_29) (by rw [ho]; decide)
  | succ m ih =>
    intro x hm hxy kk
    have hgx := hg x
    refine wp_aload_n dX11_sort_17 rfl ?_
    refine wp_iload_n dX11_sort_18 rfl ?_
    refine wp_zaload dX11_sort_19 hb (by omega) (by omega) (by omega) ?_
    change WP G mX11_sort _ _ _ _ h N 20 [some (.ref (cB G + 169)), some (.ref b), some (JV (k : Int)), some (JV (x : Int))] [JV (g x)]
    refine wp_if_ne 32 dX11_sort_20 (by decide) ⟨by omega, by omega⟩ (fun c_20 => ?_) (fun c_20 => ?_)
    · refine wp_iinc dX11_sort_32 rfl (Nat.le_of_ble_eq_true rfl) rfl ?_
      change WP G mX11_sort _ _ _ _ h N 35 [some (.ref (cB G + 169)), some (.ref b), some (JV (k : Int)), some (JV ((x : Int) + 1))] []
      refine wp_goto 17 dX11_sort_35 (by decide) ?_
      exact ih (x + 1) (by omega) (by omega) kk
    · refine wp_aload_n dX11_sort_23 rfl ?_
      refine wp_iload_n dX11_sort_24 rfl ?_
      refine wp_aload_n dX11_sort_25 rfl ?_
      refine wp_v2p (m_isFree (N := N) (P := P) (r := r) (w := w) (t := (x : Int)) (b := b) (g := g) (by omega) hb hg) cvX11_129 dX11_sort_26 ⟨Nat.le_of_ble_eq_true rfl, Nat.le_of_ble_eq_true rfl⟩ (Nat.le_of_ble_eq_true rfl) (P.s0 r) rfl rfl ?_
      refine wp_if_ne 38 dX11_sort_29 (by decide) (bI_r _) (fun c_29 => ?_) (fun c_29 => ?_)
      · exact kk x hxy (by omega) (bI_ne c_29)
      · refine wp_iinc dX11_sort_32 rfl (Nat.le_of_ble_eq_true rfl) rfl ?_
        change WP G mX11_sort _ _ _ _ h N 35 [some (.ref (cB G + 169)), some (.ref b), some (JV (k : Int)), some (JV ((x : Int) + 1))] []
        refine wp_goto 17 dX11_sort_35 (by decide) ?_
        exact ih (x + 1) (by omega) (by omega) kk

theorem l_sort2 {Q : PQ} {X : PX} {k9 n9 : Nat} {h0 : AH} {N0 b : Nat} {M0 : ST} (w : WF S) (tp : TOP S) (hbN : cB G + 283 ≤ b ∧ N0 ≤ b) (hbL : ∀ i, i < 40 → L i ≠ b) : ∀ (m : Nat) (k : Nat) (g : Nat → Int) (M : ST) (h : AH) (xl : Option Value), ((S 13 0 0).toNat - k = m) → ((k : Int) ≤ S 13 0 0) → (MP G N M L z h) → (RS S M) → (h b = some (eZ G 24 g)) → (∀ i, g i = 0 ∨ g i = 1) → (SRT S (fun i => M 18 i 0) g k) → (FA G N0 h0 h) → (∀ f, f ≠ 18 → M f = M0 f) → (∀ (M' : ST) (h' : AH), MP G N M' L z h' → RS S M' → TOQ S (fun i => M' 18 i 0) → FA G N0 h0 h' → (∀ f, f ≠ 18 → M' f = M0 f) → Q none h' N) → WP G mX11_sort Q X k9 n9 h N 7 [some (.ref (cB G + 169)), some (.ref b), some (JV (k : Int)), xl] [] := by
  intro m
  induction m with
  | zero =>
    intro k g M h xl hm hk P r hb hg so fa hM kk
    have wT := w.nT
    refine wp_iload_n dX11_sort_7 rfl ?_
    refine wp_aload_n dX11_sort_8 rfl ?_
    refine wp_get fkX11_96 dX11_sort_9 (P.s0 r) rfl ?_
    refine wp_icmp_ge 55 dX11_sort_12 (by decide) ⟨by omega, by omega⟩ ⟨by omega, by omega⟩ (fun c_12 => ?_) (fun c_12 => ?_)
    · refine wp_vret dX11_sort_55 rfl ?_
      exact kk M h P r (so.end w (by omega)) fa hM
    · exact absurd c_12 (by omega)
  | succ m ih =>
    intro k g M h xl hm hk P r hb hg so fa hM kk
    have wT := w.nT
    refine wp_iload_n dX11_sort_7 rfl ?_
    refine wp_aload_n dX11_sort_8 rfl ?_
    refine wp_get fkX11_96 dX11_sort_9 (P.s0 r) rfl ?_
    refine wp_icmp_ge 55 dX11_sort_12 (by decide) ⟨by omega, by omega⟩ ⟨by omega, by omega⟩ (fun c_12 => ?_) (fun c_12 => ?_)
    · exact absurd c_12 (by omega)
    · obtain ⟨y, y1, y2, y3⟩ := so.opn w tp hg (by omega)
      refine wp_iconst dX11_sort_15 ?_
      refine wp_istore_n dX11_sort_16 (Nat.le_of_ble_eq_true rfl) rfl ?_
      change WP G mX11_sort _ _ _ _ h N 17 [some (.ref (cB G + 169)), some (.ref b), some (JV (k : Int)), some (JV 0)] []
      refine l_sort1 P r w (k := k) hb hg (y := y) (by omega) y2 y3 _ 0 rfl (Nat.zero_le _) (fun t t1 t2 t3 => ?_)
      have htn : (t : Int) < S 13 0 0 := by omega
      refine wp_aload_n dX11_sort_38 rfl ?_
      refine wp_iload_n dX11_sort_39 rfl ?_
      refine wp_iconst dX11_sort_40 ?_
      refine wp_zastore dX11_sort_41 hb (by omega) (by omega) (by omega) (Or.inr rfl) ?_
      obtain ⟨h_1, eh_1⟩ : ∃ hh9 : AH, hh9 = hup h b (eZ G 24 (fup g t 1)) := ⟨_, rfl⟩
      refine WP.heq eh_1 ?_
      have c1_0 : h_1 b = some (eZ G 24 (fup g t 1)) := by rw [eh_1]; exact hup_self _ _ _
      have PX_1 : MP G (N) M L z h_1 := P.loc (by omega) hbL eh_1
      refine wp_aload_n dX11_sort_42 rfl ?_
      refine wp_get fkX11_52 dX11_sort_43 (PX_1.s0 r) rfl ?_
      refine wp_iload_n dX11_sort_46 rfl ?_
      refine wp_iload_n dX11_sort_47 rfl ?_
      refine wp_iastore dX11_sort_48 PX_1.c18 (by omega) (by omega) (by omega) ?_
      obtain ⟨h_2, eh_2⟩ : ∃ hh9 : AH, hh9 = hup h_1 (cB G + 253) (eI G 24 (fup (fun i => M 18 i 0) k (t : Int))) := ⟨_, rfl⟩
      refine WP.heq eh_2 ?_
      obtain ⟨M_2, eM_2⟩ : ∃ ss9 : ST, ss9 = su M 18 k 0 (t : Int) := ⟨_, rfl⟩
      have P_2 : MP G (N) M_2 L z h_2 := by rw [eM_2]; exact PX_1.u1 (q := (18, 253, 24, false)) (i := k) (v := (t : Int)) (by decide) eh_2
      have r_2 : RS S M_2 := by rw [eM_2]; exact r.der (by decide)
      have c2_0 := (hup_at eh_2 (by omega)).trans c1_0
      refine wp_iinc dX11_sort_49 rfl (Nat.le_of_ble_eq_true rfl) rfl ?_
      change WP G mX11_sort _ _ _ _ h_2 N 52 [some (.ref (cB G + 169)), some (.ref b), some (JV ((k : Int) + 1)), some (JV (t : Int))] []
      refine wp_goto 7 dX11_sort_52 (by decide) ?_
      have so2 : SRT S (fun i => M_2 18 i 0) (fup g t 1) (k + 1) := by
        rw [show (fun i => M_2 18 i 0) = fup (fun i => M 18 i 0) k (t : Int) from by rw [eM_2]; exact su_fup]
        exact so.step w tp hg htn t2 t3
      exact ih (k + 1) _ M_2 h_2 _ (by omega) (by omega) P_2 r_2 c2_0 (fun i => by unfold fup; split; exact Or.inr rfl; exact hg i) so2 ((fa.up eh_1 (by omega)).up eh_2 (by omega)) (fun f hf => by rw [eM_2, su_f hf]; exact hM f hf) kk

theorem m_sort (P : MP G N M L z h) (r : RS S M) (w : WF S) (tp : TOP S) : CT G mX11_sort [.ref (cB G + 169)] h N 1 24 (fun r h' N' => r = none ∧ N' = N + 1 ∧ ∃ M', MP G (N + 1) M' L z h' ∧ RS S M' ∧ TOQ S (fun i => M' 18 i 0) ∧ (∀ f, f ≠ 18 → M' f = M f) ∧ FA G N h h') := by
  refine CT_of (by decide +kernel) rfl (by simp [Value.category]) (Nat.le_of_ble_eq_true rfl) ?_
  change WP G mX11_sort _ noX _ _ h N 0 [some (.ref (cB G + 169)), none, none, none] []
  refine wp_bipush dX11_sort_0 rfl ?_
  refine wp_newZ (m := 24) (k2 := 0) (n2 := 0) dX11_sort_2 ar_boolean rfl (by decide) (by omega) (by omega) ?_
  obtain ⟨h_1, eh_1⟩ : ∃ hh9 : AH, hh9 = hup h (N) (eZ G 24 (fun _ => 0)) := ⟨_, rfl⟩
  refine WP.heq eh_1 ?_
  have c1_0 : h_1 N = some (eZ G 24 (fun _ => 0)) := by rw [eh_1]; exact hup_self _ _ _
  change WP G mX11_sort _ _ 0 0 h_1 (N + 1) 4 [some (.ref (cB G + 169)), none, none, none] [.ref N]
  refine wp_astore_n dX11_sort_4 (Nat.le_of_ble_eq_true rfl) rfl ?_
  change WP G mX11_sort _ _ _ _ h_1 (N + 1) 5 [some (.ref (cB G + 169)), some (.ref N), none, none] []
  refine wp_iconst dX11_sort_5 ?_
  refine wp_istore_n dX11_sort_6 (Nat.le_of_ble_eq_true rfl) rfl ?_
  change WP G mX11_sort _ _ _ _ h_1 (N + 1) 7 [some (.ref (cB G + 169)), some (.ref N), some (JV 0), none] []
  have hN := P.nN
  have P2 : MP G (N + 1) M L z h_1 := (P.loc (by omega) (fun i hi => by have := P.rlt hi; omega) eh_1).up (by omega)
  refine l_sort2 (N := N + 1) (h0 := h) (N0 := N) (b := N) (M0 := M) w tp (by omega) (fun i hi => by have := P.rlt hi; omega) _ 0 (fun _ => 0) M h_1 _ rfl (by have := w.nT; omega) P2 r c1_0 (fun _ => Or.inl rfl) ⟨fun i hi => absurd hi (by omega), fun i j hi => absurd hi (by omega), fun x hx => ⟨fun q => absurd (show (0 : Int) = 1 from q) (by decide), fun ⟨i, i1, _⟩ => absurd i1 (by omega)⟩, fun p j hp => absurd hp (by omega)⟩ (FA.rf.up eh_1 (Or.inr (Nat.le_refl _))) (fun f hf => rfl) (fun M' h' P' r' tq fa' hM' => ⟨rfl, rfl, M', P', r', tq, hM', fa'⟩)

end Ml

/-! ===== Arrays.fill, and loads ===== -/
theorem hup_hup {h : AH} {a : Nat} {x y : va_E} : hup (hup h a x) a y = hup h a y := by
  funext q
  unfold hup
  by_cases hq : q = a <;> simp [hq]
theorem hup_same {h : AH} {a : Nat} {x : va_E} (e : h a = some x) : h = hup h a x := by
  funext q
  unfold hup
  by_cases hq : q = a
  · rw [if_pos hq, hq, e]
  · rw [if_neg hq]
def filF (f : Nat → Int) (l r : Nat) (v : Int) : Nat → Int := fun j => if l ≤ j ∧ j < r then v else f j
theorem filF_s {f : Nat → Int} {l x : Nat} {v : Int} (hl : l ≤ x) : fup (filF f l x v) x v = filF f l (x + 1) v := by
  funext j
  unfold fup filF
  by_cases hj : j = x
  · rw [if_pos hj, if_pos (by omega)]
  · rw [if_neg hj]
    by_cases hc : l ≤ j ∧ j < x
    · rw [if_pos hc, if_pos (by omega)]
    · rw [if_neg hc, if_neg (by omega)]
theorem filF_0 {f : Nat → Int} {l : Nat} {v : Int} : filF f l l v = f := by
  funext j
  unfold filF
  rw [if_neg (by omega)]
/-- a load: hands g, from day u on nothing -/
def LD (G : Ctx) (h : AH) (a : Nat) (g : Nat → Nat → Int) (u : Int) : Prop := h a = some (eO 5 [.ref (a + 1), JV u]) ∧ h (a + 1) = some (eQ G 4 4 (fun i => if i < 4 then some (a + 2 + i) else none)) ∧ ∀ c, c < 4 → h (a + 2 + c) = some (eI G 5000 (g c))
def gup (g : Nat → Nat → Int) (c d : Nat) (v : Int) : Nat → Nat → Int := fun c' d' => if c' = c ∧ d' = d then v else g c' d'
theorem LD.frame {G : Ctx} {h h' : AH} {a : Nat} {g : Nat → Nat → Int} {u : Int} (p : LD G h a g u) (hk : ∀ q, a ≤ q → q < a + 6 → h' q = h q) : LD G h' a g u :=
  ⟨(hk _ (by omega) (by omega)).trans p.1, (hk _ (by omega) (by omega)).trans p.2.1, fun c hc => (hk _ (by omega) (by omega)).trans (p.2.2 c hc)⟩
theorem LD.up {G : Ctx} {h h' : AH} {a : Nat} {g : Nat → Nat → Int} {u v : Int} (p : LD G h a g u) (e : h' = hup h a (eO 5 [.ref (a + 1), JV v])) : LD G h' a g v :=
  ⟨by rw [e]; exact hup_self _ _ _, (hup_at e (by omega)).trans p.2.1, fun c hc => (hup_at e (by omega)).trans (p.2.2 c hc)⟩
theorem LD.row {G : Ctx} {h h' : AH} {a c d : Nat} {g : Nat → Nat → Int} {u v : Int} (p : LD G h a g u) (hc : c < 4) (e : h' = hup h (a + 2 + c) (eI G 5000 (fup (g c) d v))) : LD G h' a (gup g c d v) u := by
  refine ⟨(hup_at e (by omega)).trans p.1, (hup_at e (by omega)).trans p.2.1, fun c' hc' => ?_⟩
  by_cases hh : c' = c
  · subst hh
    rw [e, hup_self]
    congr 4
    funext j
    simp only [fup, gup, true_and]
  · rw [hup_at e (by omega), p.2.2 c' hc']
    congr 4
    funext j
    simp only [gup, hh, false_and, if_false]
theorem LD.rows {G : Ctx} {h h' : AH} {a c : Nat} {g : Nat → Nat → Int} {f : Nat → Int} {u : Int} (p : LD G h a g u) (hc : c < 4) (e : h' = hup h (a + 2 + c) (eI G 5000 f)) : LD G h' a (fun x => if x = c then f else g x) u := by
  refine ⟨(hup_at e (by omega)).trans p.1, (hup_at e (by omega)).trans p.2.1, fun c' hc' => ?_⟩
  by_cases hh : c' = c
  · subst hh
    rw [e, hup_self]
    simp
  · rw [hup_at e (by omega), p.2.2 c' hc']
    simp [hh]
section Ld
variable {G : Ctx} {h : AH} {N a : Nat} {g : Nat → Nat → Int} {u : Int}
theorem c_rangeCheck {m f t : Int} (h0 : 0 ≤ f) (h1 : f ≤ t) (h2 : t ≤ m) (h3 : m ≤ 100000) : CT G mJ7_rangeCheck_23922 [JV m, JV f, JV t] h N 0 0 (fun r h' N' => r = none ∧ h' = h ∧ N' = N) := by
  refine CT_of (by decide +kernel) rfl (by simp [Value.category]) (Nat.le_of_ble_eq_true rfl) ?_
  change WP G mJ7_rangeCheck_23922 _ noX _ _ h N 0 [some (JV m), some (JV f), some (JV t)] []
  refine wp_iload_n dJ7_rangeCheck_23922_0 rfl ?_
  refine wp_iload_n dJ7_rangeCheck_23922_1 rfl ?_
  refine wp_icmp_le 46 dJ7_rangeCheck_23922_2 (by decide) ⟨by omega, by omega⟩ ⟨by omega, by omega⟩ (fun c_2 => ?_) (fun c_2 => ?_)
  · refine wp_iload_n dJ7_rangeCheck_23922_46 rfl ?_
    refine wp_if_ge 59 dJ7_rangeCheck_23922_47 (by decide) ⟨by omega, by omega⟩ (fun c_47 => ?_) (fun c_47 => ?_)
    · refine wp_iload_n dJ7_rangeCheck_23922_59 rfl ?_
      refine wp_iload_n dJ7_rangeCheck_23922_60 rfl ?_
      refine wp_icmp_le 73 dJ7_rangeCheck_23922_61 (by decide) ⟨by omega, by omega⟩ ⟨by omega, by omega⟩ (fun c_61 => ?_) (fun c_61 => ?_)
      · refine wp_vret dJ7_rangeCheck_23922_73 rfl ?_
        exact ⟨rfl, rfl, rfl⟩
      · exact absurd c_61 (by omega)
    · exact absurd c_47 (by omega)
  · exact absurd c_2 (by omega)

theorem l_fill {Q : PQ} {X : PX} {k9 n9 : Nat} {h0 : AH} {f : Nat → Int} {fr t : Nat} {v : Int} (ht : t ≤ 5000) : ∀ (m : Nat) (x : Nat) (h : AH), (t - x = m) → (fr ≤ x ∧ x ≤ t) → (h = hup h0 a (eI G 5000 (filF f fr x v))) → (Q none (hup h0 a (eI G 5000 (filF f fr t v))) N) → WP G mJ7_fill_fda19 Q X k9 n9 h N 10 [some (.ref a), some (JV (fr : Int)), some (JV (t : Int)), some (JV v), some (JV (x : Int))] [] := by
  intro m
  induction m with
  | zero =>
    intro x h hm hx he kk
    have hxt : x = t := by omega
    subst hxt
    rw [← he] at kk
    have hc : h a = some (eI G 5000 (filF f fr x v)) := by rw [he]; exact hup_self _ _ _
    refine wp_iload dJ7_fill_fda19_10 rfl ?_
    refine wp_iload_n dJ7_fill_fda19_12 rfl ?_
    refine wp_icmp_ge 27 dJ7_fill_fda19_13 (by decide) ⟨by omega, by omega⟩ ⟨by omega, by omega⟩ (fun c_13 => ?_) (fun c_13 => ?_)
    · refine wp_vret dJ7_fill_fda19_27 rfl ?_
      exact kk
    · exact absurd c_13 (by omega)
  | succ m ih =>
    intro x h hm hx he kk
    have hc : h a = some (eI G 5000 (filF f fr x v)) := by rw [he]; exact hup_self _ _ _
    refine wp_iload dJ7_fill_fda19_10 rfl ?_
    refine wp_iload_n dJ7_fill_fda19_12 rfl ?_
    refine wp_icmp_ge 27 dJ7_fill_fda19_13 (by decide) ⟨by omega, by omega⟩ ⟨by omega, by omega⟩ (fun c_13 => ?_) (fun c_13 => ?_)
    · exact absurd c_13 (by omega)
    · refine wp_aload_n dJ7_fill_fda19_16 rfl ?_
      refine wp_iload dJ7_fill_fda19_17 rfl ?_
      refine wp_iload_n dJ7_fill_fda19_19 rfl ?_
      refine wp_iastore dJ7_fill_fda19_20 hc (by omega) (by omega) (by omega) ?_
      obtain ⟨h_1, eh_1⟩ : ∃ hh9 : AH, hh9 = hup h a (eI G 5000 (fup (filF f fr x v) x v)) := ⟨_, rfl⟩
      refine WP.heq eh_1 ?_
      have c1_0 : h_1 a = some (eI G 5000 (fup (filF f fr x v) x v)) := by rw [eh_1]; exact hup_self _ _ _
      refine wp_iinc dJ7_fill_fda19_21 rfl (Nat.le_of_ble_eq_true rfl) rfl ?_
      change WP G mJ7_fill_fda19 _ _ _ _ h_1 N 24 [some (.ref a), some (JV (fr : Int)), some (JV (t : Int)), some (JV v), some (JV ((x : Int) + 1))] []
      refine wp_goto 10 dJ7_fill_fda19_24 (by decide) ?_
      refine ih (x + 1) h_1 (by omega) (by omega) ?_ kk
      rw [eh_1, he, hup_hup, filF_s hx.1]

theorem c_fill {f : Nat → Int} {fr t : Nat} {v : Int} (hc : h a = some (eI G 5000 f)) (hft : fr ≤ t) (ht : t ≤ 5000) : CT G mJ7_fill_fda19 [.ref a, JV (fr : Int), JV (t : Int), JV v] h N 0 0 (fun r h' N' => r = none ∧ h' = hup h a (eI G 5000 (filF f fr t v)) ∧ N' = N) := by
  refine CT_of (by decide +kernel) rfl (by simp [Value.category]) (Nat.le_of_ble_eq_true rfl) ?_
  change WP G mJ7_fill_fda19 _ noX _ _ h N 0 [some (.ref a), some (JV (fr : Int)), some (JV (t : Int)), some (JV v), none] []
  refine wp_aload_n dJ7_fill_fda19_0 rfl ?_
  refine wp_alenI dJ7_fill_fda19_1 hc ?_
  refine wp_iload_n dJ7_fill_fda19_2 rfl ?_
  refine wp_iload_n dJ7_fill_fda19_3 rfl ?_
  refine wp_s3 0 0 (c_rangeCheck (N := N) (by omega) (by omega) (by omega) (by omega)) csJ7_13 dJ7_fill_fda19_4 ⟨Nat.le_of_ble_eq_true rfl, Nat.le_of_ble_eq_true rfl⟩ (Nat.le_of_ble_eq_true rfl) (by omega) (by omega) (fun r h9 N9 hq => ?_)
  obtain ⟨rfl, hh9, hN9⟩ := hq
  rw [hN9]
  rw [hh9]
  change WP G mJ7_fill_fda19 _ _ _ _ h N 7 [some (.ref a), some (JV (fr : Int)), some (JV (t : Int)), some (JV v), none] []
  refine wp_iload_n dJ7_fill_fda19_7 rfl ?_
  refine wp_istore dJ7_fill_fda19_8 (Nat.le_of_ble_eq_true rfl) rfl ?_
  change WP G mJ7_fill_fda19 _ _ _ _ h N 10 [some (.ref a), some (JV (fr : Int)), some (JV (t : Int)), some (JV v), some (JV (fr : Int))] []
  exact l_fill ht _ fr h rfl ⟨Nat.le_refl _, hft⟩ (by rw [filF_0]; exact hup_same hc) ⟨rfl, rfl, rfl⟩

theorem l_clear {Q : PQ} {X : PX} {k9 n9 : Nat} {h0 : AH} {g0 : Nat → Nat → Int} (hu : 0 ≤ u ∧ u ≤ 5000) : ∀ (m : Nat) (c : Nat) (g : Nat → Nat → Int) (h : AH), (4 - c = m) → (c ≤ 4) → (LD G h a g u) → (∀ c' d, g c' d = if c' < c then (if d < u.toNat then 0 else g0 c' d) else g0 c' d) → (FR a (a + 6) h0 h) → (∀ (g' : Nat → Nat → Int) (h' : AH), LD G h' a g' 0 → (∀ c, c < 4 → ∀ d, g' c d = if d < u.toNat then 0 else g0 c d) → FR a (a + 6) h0 h' → Q none h' N) → WP G mX5_clear Q X k9 n9 h N 2 [some (.ref a), some (JV (c : Int))] [] := by
  intro m
  induction m with
  | zero =>
    intro c g h hm hc D hg fr kk
    refine wp_iload_n dX5_clear_2 rfl ?_
    refine wp_iconst dX5_clear_3 ?_
    refine wp_icmp_ge 28 dX5_clear_4 (by decide) ⟨by omega, by omega⟩ ⟨by omega, by omega⟩ (fun c_4 => ?_) (fun c_4 => ?_)
    · refine wp_aload_n dX5_clear_28 rfl ?_
      refine wp_iconst dX5_clear_29 ?_
      refine wp_put fkX5_16 dX5_clear_30 D.1 rfl rfl (Nat.le_of_ble_eq_true rfl) ?_
      obtain ⟨h_1, eh_1⟩ : ∃ hh9 : AH, hh9 = hup h a (eO 5 [.ref (a + 1), JV 0]) := ⟨_, rfl⟩
      refine WP.heq eh_1 ?_
      obtain ⟨u_1, eu_1⟩ : ∃ ss9 : Int, ss9 = 0 := ⟨_, rfl⟩
      have D_1 : LD G h_1 a g u_1 := by rw [eu_1]; exact D.up eh_1
      refine wp_vret dX5_clear_33 rfl ?_
      exact kk g h_1 (by rw [eu_1] at D_1; exact D_1) (fun c' hc' d => by rw [hg, if_pos (by omega)]) (fr.up eh_1 ⟨by omega, by omega⟩)
    · exact absurd c_4 (by omega)
  | succ m ih =>
    intro c g h hm hc D hg fr kk
    have eun : ((u.toNat : Nat) : Int) = u := by omega
    refine wp_iload_n dX5_clear_2 rfl ?_
    refine wp_iconst dX5_clear_3 ?_
    refine wp_icmp_ge 28 dX5_clear_4 (by decide) ⟨by omega, by omega⟩ ⟨by omega, by omega⟩ (fun c_4 => ?_) (fun c_4 => ?_)
    · exact absurd c_4 (by omega)
    · refine wp_aload_n dX5_clear_7 rfl ?_
      refine wp_get fkX5_11 dX5_clear_8 D.1 rfl ?_
      refine wp_iload_n dX5_clear_11 rfl ?_
      refine wp_aaload dX5_clear_12 D.2.1 rfl rfl (by omega) (by omega) (by omega) (if_pos (by omega)) ?_
      change WP G mX5_clear _ _ _ _ h N 13 [some (.ref a), some (JV (c : Int))] [.ref (a + 2 + c)]
      refine wp_iconst dX5_clear_13 ?_
      refine wp_aload_n dX5_clear_14 rfl ?_
      refine wp_get fkX5_16 dX5_clear_15 D.1 rfl ?_
      refine wp_iconst dX5_clear_18 ?_
      rw [← eun]
      refine wp_s4 k9 n9 (c_fill (N := N) (fr := 0) (t := u.toNat) (v := 0) (D.2.2 c (by omega)) (by omega) (by omega)) csX5_20 dX5_clear_19 ⟨Nat.le_of_ble_eq_true rfl, Nat.le_of_ble_eq_true rfl⟩ (Nat.le_of_ble_eq_true rfl) (by omega) (by omega) (fun r h9 N9 hq => ?_)
      obtain ⟨rfl, rfl, hN9⟩ := hq
      rw [hN9]
      have D9 := D.rows (by omega) (rfl : hup h (a + 2 + c) _ = hup h (a + 2 + c) (eI G 5000 (filF (g c) 0 u.toNat 0)))
      change WP G mX5_clear _ _ _ _ (hup h (a + 2 + c) (eI G 5000 (filF (g c) 0 u.toNat 0))) N 22 [some (.ref a), some (JV (c : Int))] []
      refine wp_iinc dX5_clear_22 rfl (Nat.le_of_ble_eq_true rfl) rfl ?_
      change WP G mX5_clear _ _ _ _ (hup h (a + 2 + c) (eI G 5000 (filF (g c) 0 u.toNat 0))) N 25 [some (.ref a), some (JV ((c : Int) + 1))] []
      refine wp_goto 2 dX5_clear_25 (by decide) ?_
      refine ih (c + 1) _ _ (by omega) (by omega) D9 (fun c' d => ?_) (fr.up rfl ⟨by omega, by omega⟩) kk
      by_cases hcc : c' = c
      · rw [if_pos hcc, hcc]
        unfold filF
        rw [hg, if_neg (by omega : ¬ c < c)]
        by_cases hd : 0 ≤ d ∧ d < u.toNat
        · rw [if_pos hd, if_pos (by omega), if_pos hd.2]
        · rw [if_neg hd, if_pos (by omega), if_neg (by omega)]
      · rw [if_neg hcc, hg]
        by_cases hc2 : c' < c
        · rw [if_pos hc2, if_pos (show c' < c + 1 by omega)]
        · rw [if_neg hc2, if_neg (show ¬ c' < c + 1 by omega)]

theorem c_clear (D : LD G h a g u) (hu : 0 ≤ u ∧ u ≤ 5000) : CT G mX5_clear [.ref a] h N 0 0 (fun r h' N' => r = none ∧ N' = N ∧ ∃ g', LD G h' a g' 0 ∧ (∀ c, c < 4 → ∀ d, g' c d = if d < u.toNat then 0 else g c d) ∧ FR a (a + 6) h h') := by
  refine CT_of (by decide +kernel) rfl (by simp [Value.category]) (Nat.le_of_ble_eq_true rfl) ?_
  change WP G mX5_clear _ noX _ _ h N 0 [some (.ref a), none] []
  refine wp_iconst dX5_clear_0 ?_
  refine wp_istore_n dX5_clear_1 (Nat.le_of_ble_eq_true rfl) rfl ?_
  change WP G mX5_clear _ _ _ _ h N 2 [some (.ref a), some (JV 0)] []
  exact l_clear hu _ 0 g h rfl (by omega) D (fun c' d => by rw [if_neg (by omega)]) FR.rf (fun g' h' x y z => ⟨rfl, rfl, g', x, y, z⟩)

def onF (g : Nat → Nat → Int) (c : Nat) (d : Int) : Int := if 0 ≤ d ∧ d ≤ 4999 then g c d.toNat else 0
theorem c_isWithin {x y : Int} (h0 : -1000000000 ≤ x ∧ x ≤ 1000000000) (h1 : -1000000000 ≤ y ∧ y ≤ 1000000000) : CT G mX10_isWithin [JV x, JV y] h N 0 0 (PV (JV (bI (decide (0 ≤ x ∧ x ≤ y)))) h N) := by
  refine CT_of (by decide +kernel) rfl (by simp [Value.category]) (Nat.le_of_ble_eq_true rfl) ?_
  change WP G mX10_isWithin _ noX _ _ h N 0 [some (JV x), some (JV y)] []
  refine wp_iload_n dX10_isWithin_0 rfl ?_
  refine wp_if_lt 13 dX10_isWithin_1 (by decide) ⟨by omega, by omega⟩ (fun c_1 => ?_) (fun c_1 => ?_)
  · refine wp_iconst dX10_isWithin_13 ?_
    refine wp_zret dX10_isWithin_14 rfl (by omega) ?_
    refine ⟨?_, rfl, rfl⟩
    rw [show decide (0 ≤ x ∧ x ≤ y) = false by simp; omega]; rfl
  · refine wp_iload_n dX10_isWithin_4 rfl ?_
    refine wp_iload_n dX10_isWithin_5 rfl ?_
    refine wp_icmp_gt 13 dX10_isWithin_6 (by decide) ⟨by omega, by omega⟩ ⟨by omega, by omega⟩ (fun c_6 => ?_) (fun c_6 => ?_)
    · refine wp_iconst dX10_isWithin_13 ?_
      refine wp_zret dX10_isWithin_14 rfl (by omega) ?_
      refine ⟨?_, rfl, rfl⟩
      rw [show decide (0 ≤ x ∧ x ≤ y) = false by simp; omega]; rfl
    · refine wp_iconst dX10_isWithin_9 ?_
      refine wp_goto 14 dX10_isWithin_10 (by decide) ?_
      refine wp_zret dX10_isWithin_14 rfl (by omega) ?_
      refine ⟨?_, rfl, rfl⟩
      rw [show decide (0 ≤ x ∧ x ≤ y) = true by simp; omega]; rfl

theorem wp_sn2p {μ μ' : MI} {Q : PQ} {X : PX} {k n pc : Nat} {L : List (Option Value)} {st : List Value} {v1 v2 : Value} {idx : Nat} {w : Value} (ct : CT G μ' [v1, v2] h N 0 0 (PV w h N)) (cs : CSN (mY μ).cls idx μ' 2) (d : decode (mC μ) pc = .ok (.invokestatic idx, 3)) (rm : RM μ μ') (hst : (st.map fun v => v.category).sum ≤ 8) (kk : WP G μ Q X k n h N (pc + 3) L (w :: st)) : WP G μ Q X k n h N pc L (v2 :: v1 :: st) :=
  wp_callSN ct cs d rm hst rfl rfl (by omega : 0 + k ≤ k) (by omega : 0 + n ≤ n) fun r h' N' q => by obtain ⟨rfl, rfl, rfl⟩ := q; exact kk
theorem c_on {c : Nat} {d : Int} (D : LD G h a g u) (hc : c < 4) (hd : -100000 ≤ d ∧ d ≤ 100000) : CT G mX5_on [.ref a, JV (c : Int), JV d] h N 0 0 (PV (JV (onF g c d)) h N) := by
  refine CT_of (by decide +kernel) rfl (by simp [Value.category]) (Nat.le_of_ble_eq_true rfl) ?_
  change WP G mX5_on _ noX _ _ h N 0 [some (.ref a), some (JV (c : Int)), some (JV d)] []
  refine wp_iload_n dX5_on_0 rfl ?_
  refine wp_sipush dX5_on_1 rfl ?_
  refine wp_sn2p (c_isWithin (N := N) (by omega) (by omega)) csX5_47 dX5_on_4 ⟨Nat.le_of_ble_eq_true rfl, Nat.le_of_ble_eq_true rfl⟩ (Nat.le_of_ble_eq_true rfl) ?_
  refine wp_if_eq 21 dX5_on_7 (by decide) (bI_r _) (fun c_7 => ?_) (fun c_7 => ?_)
  · have c7 := bI_eq c_7
    simp only [decide_eq_false_iff_not] at c7
    refine wp_iconst dX5_on_21 ?_
    refine wp_iret dX5_on_22 rfl ?_
    refine ⟨?_, rfl, rfl⟩
    simp only [onF, if_neg c7]
  · have c7 := bI_ne c_7
    simp only [decide_eq_true_eq] at c7
    refine wp_aload_n dX5_on_10 rfl ?_
    refine wp_get fkX5_11 dX5_on_11 D.1 rfl ?_
    refine wp_iload_n dX5_on_14 rfl ?_
    refine wp_aaload dX5_on_15 D.2.1 rfl rfl (by omega) (by omega) (by omega) (if_pos (by omega)) ?_
    change WP G mX5_on _ _ _ _ h N 16 [some (.ref a), some (JV (c : Int)), some (JV d)] [.ref (a + 2 + c)]
    refine wp_iload_n dX5_on_16 rfl ?_
    refine wp_iaload dX5_on_17 (D.2.2 c (by omega)) (by omega) (by omega) (by omega) ?_
    refine wp_goto 22 dX5_on_18 (by decide) ?_
    refine wp_iret dX5_on_22 rfl ?_
    refine ⟨?_, rfl, rfl⟩
    simp only [onF, if_pos c7]

def dab (f : Nat → Int) (s : Int) : Nat → Nat → Int
  | 0, _ => 0
  | m + 1, i => (if f i > s then 1 else 0) + dab f s m (i + 1)
def grt (f : Nat → Int) : Nat → Nat → Int → Int
  | 0, _, x => x
  | m + 1, i, x => grt f m (i + 1) (max x (f i))
def lov (g : Nat → Nat → Int) (c : Nat) (s : Int) : Nat → Nat → Int
  | 0, _ => 0
  | m + 1, i => max 0 (s - onF g c (i : Int)) + lov g c s m (i + 1)
theorem l_daysAbove {Q : PQ} {X : PX} {k9 n9 : Nat} {c : Nat} {z : Int} (D : LD G h a g u) (hc : c < 4) (hu : 0 ≤ u ∧ u ≤ 5000) (hg : ∀ d, -1000000 ≤ g c d ∧ g c d ≤ 1000000) (hz : -1000000 ≤ z ∧ z ≤ 1000000) : ∀ (m : Nat) (i : Nat) (y : Int), (u.toNat - i = m) → (i ≤ 5000) → (Q (some (JV (y + dab (g c) z m i))) h N) → WP G mX5_daysAbove Q X k9 n9 h N 5 [some (.ref a), some (JV (c : Int)), some (JV z), some (JV y), some (JV (i : Int))] [] := by
  intro m
  induction m with
  | zero =>
    intro i y hm hi kk
    refine wp_iload dX5_daysAbove_5 rfl ?_
    refine wp_aload_n dX5_daysAbove_7 rfl ?_
    refine wp_get fkX5_16 dX5_daysAbove_8 D.1 rfl ?_
    refine wp_icmp_ge 36 dX5_daysAbove_11 (by decide) ⟨by omega, by omega⟩ ⟨by omega, by omega⟩ (fun c_11 => ?_) (fun c_11 => ?_)
    · refine wp_iload_n dX5_daysAbove_36 rfl ?_
      refine wp_iret dX5_daysAbove_37 rfl ?_
      simp only [dab, Int.add_zero] at kk
      exact kk
    · exact absurd c_11 (by omega)
  | succ m ih =>
    intro i y hm hi kk
    have hgi := hg i
    refine wp_iload dX5_daysAbove_5 rfl ?_
    refine wp_aload_n dX5_daysAbove_7 rfl ?_
    refine wp_get fkX5_16 dX5_daysAbove_8 D.1 rfl ?_
    refine wp_icmp_ge 36 dX5_daysAbove_11 (by decide) ⟨by omega, by omega⟩ ⟨by omega, by omega⟩ (fun c_11 => ?_) (fun c_11 => ?_)
    · exact absurd c_11 (by omega)
    · refine wp_aload_n dX5_daysAbove_14 rfl ?_
      refine wp_get fkX5_11 dX5_daysAbove_15 D.1 rfl ?_
      refine wp_iload_n dX5_daysAbove_18 rfl ?_
      refine wp_aaload dX5_daysAbove_19 D.2.1 rfl rfl (by omega) (by omega) (by omega) (if_pos (by omega)) ?_
      change WP G mX5_daysAbove _ _ _ _ h N 20 [some (.ref a), some (JV (c : Int)), some (JV z), some (JV y), some (JV (i : Int))] [.ref (a + 2 + c)]
      refine wp_iload dX5_daysAbove_20 rfl ?_
      refine wp_iaload dX5_daysAbove_22 (D.2.2 c (by omega)) (by omega) (by omega) (by omega) ?_
      change WP G mX5_daysAbove _ _ _ _ h N 23 [some (.ref a), some (JV (c : Int)), some (JV z), some (JV y), some (JV (i : Int))] [JV ((g c) i)]
      refine wp_iload_n dX5_daysAbove_23 rfl ?_
      refine wp_icmp_le 30 dX5_daysAbove_24 (by decide) ⟨by omega, by omega⟩ ⟨by omega, by omega⟩ (fun c_24 => ?_) (fun c_24 => ?_)
      · rw [dab, if_neg (by omega), Int.zero_add] at kk
        refine wp_iinc dX5_daysAbove_30 rfl (Nat.le_of_ble_eq_true rfl) rfl ?_
        change WP G mX5_daysAbove _ _ _ _ h N 33 [some (.ref a), some (JV (c : Int)), some (JV z), some (JV y), some (JV ((i : Int) + 1))] []
        refine wp_goto 5 dX5_daysAbove_33 (by decide) ?_
        exact ih (i + 1) y (by omega) (by omega) kk
      · rw [dab, if_pos (by omega), ← Int.add_assoc] at kk
        refine wp_iinc dX5_daysAbove_27 rfl (Nat.le_of_ble_eq_true rfl) rfl ?_
        change WP G mX5_daysAbove _ _ _ _ h N 30 [some (.ref a), some (JV (c : Int)), some (JV z), some (JV (y + 1)), some (JV (i : Int))] []
        refine wp_iinc dX5_daysAbove_30 rfl (Nat.le_of_ble_eq_true rfl) rfl ?_
        change WP G mX5_daysAbove _ _ _ _ h N 33 [some (.ref a), some (JV (c : Int)), some (JV z), some (JV (y + 1)), some (JV ((i : Int) + 1))] []
        refine wp_goto 5 dX5_daysAbove_33 (by decide) ?_
        exact ih (i + 1) (y + 1) (by omega) (by omega) kk

theorem c_daysAbove {c : Nat} {z : Int} (D : LD G h a g u) (hc : c < 4) (hu : 0 ≤ u ∧ u ≤ 5000) (hg : ∀ d, -1000000 ≤ g c d ∧ g c d ≤ 1000000) (hz : -1000000 ≤ z ∧ z ≤ 1000000) : CT G mX5_daysAbove [.ref a, JV (c : Int), JV z] h N 0 0 (PV (JV (dab (g c) z u.toNat 0)) h N) := by
  refine CT_of (by decide +kernel) rfl (by simp [Value.category]) (Nat.le_of_ble_eq_true rfl) ?_
  change WP G mX5_daysAbove _ noX _ _ h N 0 [some (.ref a), some (JV (c : Int)), some (JV z), none, none] []
  refine wp_iconst dX5_daysAbove_0 ?_
  refine wp_istore_n dX5_daysAbove_1 (Nat.le_of_ble_eq_true rfl) rfl ?_
  change WP G mX5_daysAbove _ _ _ _ h N 2 [some (.ref a), some (JV (c : Int)), some (JV z), some (JV 0), none] []
  refine wp_iconst dX5_daysAbove_2 ?_
  refine wp_istore dX5_daysAbove_3 (Nat.le_of_ble_eq_true rfl) rfl ?_
  change WP G mX5_daysAbove _ _ _ _ h N 5 [some (.ref a), some (JV (c : Int)), some (JV z), some (JV 0), some (JV 0)] []
  refine l_daysAbove D hc hu hg hz _ 0 0 rfl (by omega) ?_
  rw [Int.zero_add]
  exact ⟨rfl, rfl, rfl⟩

theorem l_greatest {Q : PQ} {X : PX} {k9 n9 : Nat} {c : Nat} (D : LD G h a g u) (hc : c < 4) (hu : 0 ≤ u ∧ u ≤ 5000) (hg : ∀ d, -1000000 ≤ g c d ∧ g c d ≤ 1000000) : ∀ (m : Nat) (i : Nat) (y : Int), (u.toNat - i = m) → (i ≤ 5000) → (-1000000 ≤ y ∧ y ≤ 1000000) → (Q (some (JV (grt (g c) m i y))) h N) → WP G mX5_greatest Q X k9 n9 h N 4 [some (.ref a), some (JV (c : Int)), some (JV y), some (JV (i : Int))] [] := by
  intro m
  induction m with
  | zero =>
    intro i y hm hi hy kk
    refine wp_iload_n dX5_greatest_4 rfl ?_
    refine wp_aload_n dX5_greatest_5 rfl ?_
    refine wp_get fkX5_16 dX5_greatest_6 D.1 rfl ?_
    refine wp_icmp_ge 31 dX5_greatest_9 (by decide) ⟨by omega, by omega⟩ ⟨by omega, by omega⟩ (fun c_9 => ?_) (fun c_9 => ?_)
    · refine wp_iload_n dX5_greatest_31 rfl ?_
      refine wp_iret dX5_greatest_32 rfl ?_
      exact kk
    · exact absurd c_9 (by omega)
  | succ m ih =>
    intro i y hm hi hy kk
    have hgi := hg i
    refine wp_iload_n dX5_greatest_4 rfl ?_
    refine wp_aload_n dX5_greatest_5 rfl ?_
    refine wp_get fkX5_16 dX5_greatest_6 D.1 rfl ?_
    refine wp_icmp_ge 31 dX5_greatest_9 (by decide) ⟨by omega, by omega⟩ ⟨by omega, by omega⟩ (fun c_9 => ?_) (fun c_9 => ?_)
    · exact absurd c_9 (by omega)
    · refine wp_iload_n dX5_greatest_12 rfl ?_
      refine wp_aload_n dX5_greatest_13 rfl ?_
      refine wp_get fkX5_11 dX5_greatest_14 D.1 rfl ?_
      refine wp_iload_n dX5_greatest_17 rfl ?_
      refine wp_aaload dX5_greatest_18 D.2.1 rfl rfl (by omega) (by omega) (by omega) (if_pos (by omega)) ?_
      change WP G mX5_greatest _ _ _ _ h N 19 [some (.ref a), some (JV (c : Int)), some (JV y), some (JV (i : Int))] [.ref (a + 2 + c), JV y]
      refine wp_iload_n dX5_greatest_19 rfl ?_
      refine wp_iaload dX5_greatest_20 (D.2.2 c (by omega)) (by omega) (by omega) (by omega) ?_
      change WP G mX5_greatest _ _ _ _ h N 21 [some (.ref a), some (JV (c : Int)), some (JV y), some (JV (i : Int))] [JV ((g c) i), JV y]
      refine wp_max dX5_greatest_21 maX5_32 w_max (Nat.le_of_ble_eq_true rfl) (Nat.le_of_ble_eq_true rfl) ⟨by omega, by omega⟩ ⟨by omega, by omega⟩ ?_
      refine wp_istore_n dX5_greatest_24 (Nat.le_of_ble_eq_true rfl) rfl ?_
      change WP G mX5_greatest _ _ _ _ h N 25 [some (.ref a), some (JV (c : Int)), some (JV (max y ((g c) i))), some (JV (i : Int))] []
      refine wp_iinc dX5_greatest_25 rfl (Nat.le_of_ble_eq_true rfl) rfl ?_
      change WP G mX5_greatest _ _ _ _ h N 28 [some (.ref a), some (JV (c : Int)), some (JV (max y ((g c) i))), some (JV ((i : Int) + 1))] []
      refine wp_goto 4 dX5_greatest_28 (by decide) ?_
      exact ih (i + 1) (max y (g c i)) (by omega) (by omega) (by omega) kk

theorem c_greatest {c : Nat} (D : LD G h a g u) (hc : c < 4) (hu : 0 ≤ u ∧ u ≤ 5000) (hg : ∀ d, -1000000 ≤ g c d ∧ g c d ≤ 1000000) : CT G mX5_greatest [.ref a, JV (c : Int)] h N 0 0 (PV (JV (grt (g c) u.toNat 0 0)) h N) := by
  refine CT_of (by decide +kernel) rfl (by simp [Value.category]) (Nat.le_of_ble_eq_true rfl) ?_
  change WP G mX5_greatest _ noX _ _ h N 0 [some (.ref a), some (JV (c : Int)), none, none] []
  refine wp_iconst dX5_greatest_0 ?_
  refine wp_istore_n dX5_greatest_1 (Nat.le_of_ble_eq_true rfl) rfl ?_
  change WP G mX5_greatest _ _ _ _ h N 2 [some (.ref a), some (JV (c : Int)), some (JV 0), none] []
  refine wp_iconst dX5_greatest_2 ?_
  refine wp_istore_n dX5_greatest_3 (Nat.le_of_ble_eq_true rfl) rfl ?_
  change WP G mX5_greatest _ _ _ _ h N 4 [some (.ref a), some (JV (c : Int)), some (JV 0), some (JV 0)] []
  exact l_greatest D hc hu hg _ 0 0 rfl (by omega) (by omega) ⟨rfl, rfl, rfl⟩

theorem l_leftOver {Q : PQ} {X : PX} {k9 n9 : Nat} {c e : Nat} {z : Int} (D : LD G h a g u) (hc : c < 4) (hu : 0 ≤ u ∧ u ≤ 5000) (hg : ∀ d, -1000000 ≤ g c d ∧ g c d ≤ 1000000) (he : e ≤ 50000) (hz : -1000000 ≤ z ∧ z ≤ 1000000) : ∀ (m : Nat) (i : Nat) (y : Int), (e - i = m) → (i ≤ 50000) → (Q (some (JV (y + lov g c z m i))) h N) → WP G mX5_leftOver Q X k9 n9 h N 6 [some (.ref a), some (JV (c : Int)), some (JV z), some (JV (e : Int)), some (JV y), some (JV (i : Int))] [] := by
  intro m
  induction m with
  | zero =>
    intro i y hm hi kk
    refine wp_iload dX5_leftOver_6 rfl ?_
    refine wp_iload_n dX5_leftOver_8 rfl ?_
    refine wp_icmp_ge 36 dX5_leftOver_9 (by decide) ⟨by omega, by omega⟩ ⟨by omega, by omega⟩ (fun c_9 => ?_) (fun c_9 => ?_)
    · refine wp_iload dX5_leftOver_36 rfl ?_
      refine wp_iret dX5_leftOver_38 rfl ?_
      simp only [lov, Int.add_zero] at kk
      exact kk
    · exact absurd c_9 (by omega)
  | succ m ih =>
    intro i y hm hi kk
    have hgo : -1000000 ≤ onF g c (i : Int) ∧ onF g c (i : Int) ≤ 1000000 := by
      unfold onF
      split
      · exact hg _
      · omega
    refine wp_iload dX5_leftOver_6 rfl ?_
    refine wp_iload_n dX5_leftOver_8 rfl ?_
    refine wp_icmp_ge 36 dX5_leftOver_9 (by decide) ⟨by omega, by omega⟩ ⟨by omega, by omega⟩ (fun c_9 => ?_) (fun c_9 => ?_)
    · exact absurd c_9 (by omega)
    · refine wp_iload dX5_leftOver_12 rfl ?_
      refine wp_iconst dX5_leftOver_14 ?_
      refine wp_iload_n dX5_leftOver_15 rfl ?_
      refine wp_aload_n dX5_leftOver_16 rfl ?_
      refine wp_iload_n dX5_leftOver_17 rfl ?_
      refine wp_iload dX5_leftOver_18 rfl ?_
      refine wp_v2p (c_on (N := N) (c := c) (d := (i : Int)) D hc (by omega)) cvX5_51 dX5_leftOver_20 ⟨Nat.le_of_ble_eq_true rfl, Nat.le_of_ble_eq_true rfl⟩ (Nat.le_of_ble_eq_true rfl) D.1 rfl rfl ?_
      refine wp_isub dX5_leftOver_23 ?_
      refine wp_max dX5_leftOver_24 maX5_32 w_max (Nat.le_of_ble_eq_true rfl) (Nat.le_of_ble_eq_true rfl) ⟨by omega, by omega⟩ ⟨by omega, by omega⟩ ?_
      refine wp_iadd dX5_leftOver_27 ?_
      refine wp_istore dX5_leftOver_28 (Nat.le_of_ble_eq_true rfl) rfl ?_
      change WP G mX5_leftOver _ _ _ _ h N 30 [some (.ref a), some (JV (c : Int)), some (JV z), some (JV (e : Int)), some (JV (y + (max 0 (z - (onF g c (i : Int)))))), some (JV (i : Int))] []
      refine wp_iinc dX5_leftOver_30 rfl (Nat.le_of_ble_eq_true rfl) rfl ?_
      change WP G mX5_leftOver _ _ _ _ h N 33 [some (.ref a), some (JV (c : Int)), some (JV z), some (JV (e : Int)), some (JV (y + (max 0 (z - (onF g c (i : Int)))))), some (JV ((i : Int) + 1))] []
      refine wp_goto 6 dX5_leftOver_33 (by decide) ?_
      rw [lov, ← Int.add_assoc] at kk
      exact ih (i + 1) (y + max 0 (z - onF g c (i : Int))) (by omega) (by omega) kk

theorem c_leftOver {c e : Nat} {z : Int} (D : LD G h a g u) (hc : c < 4) (hu : 0 ≤ u ∧ u ≤ 5000) (hg : ∀ d, -1000000 ≤ g c d ∧ g c d ≤ 1000000) (he : e ≤ 50000) (hz : -1000000 ≤ z ∧ z ≤ 1000000) : CT G mX5_leftOver [.ref a, JV (c : Int), JV z, JV (e : Int)] h N 0 0 (PV (JV (lov g c z (e - 0) 0)) h N) := by
  refine CT_of (by decide +kernel) rfl (by simp [Value.category]) (Nat.le_of_ble_eq_true rfl) ?_
  change WP G mX5_leftOver _ noX _ _ h N 0 [some (.ref a), some (JV (c : Int)), some (JV z), some (JV (e : Int)), none, none] []
  refine wp_iconst dX5_leftOver_0 ?_
  refine wp_istore dX5_leftOver_1 (Nat.le_of_ble_eq_true rfl) rfl ?_
  change WP G mX5_leftOver _ _ _ _ h N 3 [some (.ref a), some (JV (c : Int)), some (JV z), some (JV (e : Int)), some (JV 0), none] []
  refine wp_iconst dX5_leftOver_3 ?_
  refine wp_istore dX5_leftOver_4 (Nat.le_of_ble_eq_true rfl) rfl ?_
  change WP G mX5_leftOver _ _ _ _ h N 6 [some (.ref a), some (JV (c : Int)), some (JV z), some (JV (e : Int)), some (JV 0), some (JV 0)] []
  refine l_leftOver D hc hu hg he hz _ 0 0 rfl (by omega) ?_
  rw [Int.zero_add]
  exact ⟨rfl, rfl, rfl⟩

variable {S : ST} {t q : Nat} {b e : Int}
theorem l_add1 {Q : PQ} {X : PX} {k9 n9 : Nat} {h0 : AH} {g0 : Nat → Nat → Int} {x : Nat} (ha : cB G + 108 ≤ a) (w : WF S) (ht : t < 24) (hq : q < 4) (hb : -40000 ≤ b ∧ b ≤ 40000) (he : -40000 ≤ e ∧ e ≤ 40000) (hu : 0 ≤ u ∧ u ≤ 5000) (hx : x < 5000) : ∀ (m : Nat) (c : Nat) (g : Nat → Nat → Int) (h : AH), (4 - c = m) → (c ≤ 4) → (LD G h a g u) → (HP G S h) → (∀ c', c' < 4 → ∀ d, g c' d = if d = x ∧ c' < c then g0 c' d + S 12 t c' else g0 c' d) → (FR a (a + 6) h0 h) → (∀ (g' : Nat → Nat → Int) (h' : AH), LD G h' a g' u → HP G S h' → (∀ c, c < 4 → ∀ d, g' c d = if d = x then g0 c d + S 12 t c else g0 c d) → FR a (a + 6) h0 h' → WP G mX5_add Q X k9 n9 h' N 68 [some (.ref a), some (.ref (cB G + 20 + 2 * t)), some (.ref (cB G + 8 + 2 * q)), some (JV b), some (JV e), some (JV (min e 5000)), some (JV (x : Int)), some (JV 4)] []) → WP G mX5_add Q X k9 n9 h N 36 [some (.ref a), some (.ref (cB G + 20 + 2 * t)), some (.ref (cB G + 8 + 2 * q)), some (JV b), some (JV e), some (JV (min e 5000)), some (JV (x : Int)), some (JV (c : Int))] [] := by
  intro m
  induction m with
  | zero =>
    intro c g h hm hc D H hg fr kk
    refine wp_iload dX5_add_36 rfl ?_
    refine wp_iconst dX5_add_38 ?_
    refine wp_icmp_ge 68 dX5_add_39 (by decide) ⟨by omega, by omega⟩ ⟨by omega, by omega⟩ (fun c_39 => ?_) (fun c_39 => ?_)
    · have hc4 : c = 4 := by omega
      subst hc4
      exact kk g h D H (fun c hc d => by rw [hg c hc]; by_cases hd : d = x <;> simp [hd, hc]) fr
    · exact absurd c_39 (by omega)
  | succ m ih =>
    intro c g h hm hc D H hg fr kk
    refine wp_iload dX5_add_36 rfl ?_
    refine wp_iconst dX5_add_38 ?_
    refine wp_icmp_ge 68 dX5_add_39 (by decide) ⟨by omega, by omega⟩ ⟨by omega, by omega⟩ (fun c_39 => ?_) (fun c_39 => ?_)
    · exact absurd c_39 (by omega)
    · refine wp_aload_n dX5_add_42 rfl ?_
      refine wp_get fkX5_11 dX5_add_43 D.1 rfl ?_
      refine wp_iload dX5_add_46 rfl ?_
      refine wp_aaload dX5_add_48 D.2.1 rfl rfl (by omega) (by omega) (by omega) (if_pos (by omega)) ?_
      change WP G mX5_add _ _ _ _ h N 49 [some (.ref a), some (.ref (cB G + 20 + 2 * t)), some (.ref (cB G + 8 + 2 * q)), some (JV b), some (JV e), some (JV (min e 5000)), some (JV (x : Int)), some (JV (c : Int))] [.ref (a + 2 + c)]
      refine wp_iload dX5_add_49 rfl ?_
      refine wp_dup2 dX5_add_51 rfl rfl ?_
      refine wp_iaload dX5_add_52 (D.2.2 c (by omega)) (by omega) (by omega) (by omega) ?_
      change WP G mX5_add _ _ _ _ h N 53 [some (.ref a), some (.ref (cB G + 20 + 2 * t)), some (.ref (cB G + 8 + 2 * q)), some (JV b), some (JV e), some (JV (min e 5000)), some (JV (x : Int)), some (JV (c : Int))] [JV ((g c) x), JV (x : Int), .ref (a + 2 + c)]
      refine wp_aload_n dX5_add_53 rfl ?_
      refine wp_get fkX5_41 dX5_add_54 (H.2.2.2.2.2.2.2.2.2.2.1 t (by omega)) rfl ?_
      refine wp_iload dX5_add_57 rfl ?_
      refine wp_iaload dX5_add_59 (H.2.2.2.2.2.2.2.2.2.2.2.1 t (by omega)) (by omega) (by omega) (by omega) ?_
      change WP G mX5_add _ _ _ _ h N 60 [some (.ref a), some (.ref (cB G + 20 + 2 * t)), some (.ref (cB G + 8 + 2 * q)), some (JV b), some (JV e), some (JV (min e 5000)), some (JV (x : Int)), some (JV (c : Int))] [JV (S 12 t c), JV ((g c) x), JV (x : Int), .ref (a + 2 + c)]
      refine wp_iadd dX5_add_60 ?_
      refine wp_iastore dX5_add_61 (D.2.2 c (by omega)) (by omega) (by omega) (by omega) ?_
      obtain ⟨h_1, eh_1⟩ : ∃ hh9 : AH, hh9 = hup h (a + 2 + c) (eI G 5000 (fup (g c) x (((g c) x) + (S 12 t c)))) := ⟨_, rfl⟩
      refine WP.heq eh_1 ?_
      obtain ⟨g_1, eg_1⟩ : ∃ ss9 : Nat → Nat → Int, ss9 = gup g c x (((g c) x) + (S 12 t c)) := ⟨_, rfl⟩
      have D_1 : LD G h_1 a g_1 u := by rw [eg_1]; exact D.row (by omega) eh_1
      have HX_1 : HP G S h_1 := H.frame (fun q9 hq9 hq8 => hup_at eh_1 (by omega))
      refine wp_iinc dX5_add_62 rfl (Nat.le_of_ble_eq_true rfl) rfl ?_
      change WP G mX5_add _ _ _ _ h_1 N 65 [some (.ref a), some (.ref (cB G + 20 + 2 * t)), some (.ref (cB G + 8 + 2 * q)), some (JV b), some (JV e), some (JV (min e 5000)), some (JV (x : Int)), some (JV ((c : Int) + 1))] []
      refine wp_goto 36 dX5_add_65 (by decide) ?_
      refine ih (c + 1) g_1 h_1 (by omega) (by omega) D_1 HX_1 (fun c' hc' d => ?_) (fr.up eh_1 ⟨by omega, by omega⟩) kk
      rw [eg_1]
      unfold gup
      by_cases hcc : c' = c ∧ d = x
      · obtain ⟨h7, h8⟩ := hcc
        subst h7
        subst h8
        rw [if_pos ⟨rfl, by omega⟩, if_pos ⟨rfl, by omega⟩, hg c' hc', if_neg (by omega)]
      · rw [if_neg (by omega), hg c' hc']
        by_cases hd : d = x ∧ c' < c
        · rw [if_pos hd, if_pos (by omega)]
        · rw [if_neg hd, if_neg (by omega)]

theorem l_add {Q : PQ} {X : PX} {k9 n9 : Nat} {h0 : AH} {g0 : Nat → Nat → Int} (ha : cB G + 108 ≤ a) (w : WF S) (ht : t < 24) (hq : q < 4) (hb : -40000 ≤ b ∧ b ≤ 40000) (he : -40000 ≤ e ∧ e ≤ 40000) (hu : 0 ≤ u ∧ u ≤ 5000) : ∀ (m : Nat) (x : Nat) (g : Nat → Nat → Int) (h : AH) (xl : Option Value), ((min e 5000).toNat - x = m) → ((max b 0).toNat ≤ x ∧ (x : Int) ≤ max (max b 0) (min e 5000)) → (LD G h a g u) → (HP G S h) → (∀ c, c < 4 → ∀ d, g c d = if (max b 0).toNat ≤ d ∧ d < x ∧ wkS S q d = true then g0 c d + S 12 t c else g0 c d) → (FR a (a + 6) h0 h) → (∀ (g' : Nat → Nat → Int) (h' : AH), LD G h' a g' (max u (min e 5000)) → HP G S h' → (∀ c, c < 4 → ∀ d, g' c d = if b ≤ (d : Int) ∧ (d : Int) < min e 5000 ∧ wkS S q d = true then g0 c d + S 12 t c else g0 c d) → FR a (a + 6) h0 h' → Q none h' N) → WP G mX5_add Q X k9 n9 h N 17 [some (.ref a), some (.ref (cB G + 20 + 2 * t)), some (.ref (cB G + 8 + 2 * q)), some (JV b), some (JV e), some (JV (min e 5000)), some (JV (x : Int)), xl] [] := by
  intro m
  induction m with
  | zero =>
    intro x g h xl hm hx D H hg fr kk
    refine wp_iload dX5_add_17 rfl ?_
    refine wp_iload dX5_add_19 rfl ?_
    refine wp_icmp_ge 74 dX5_add_21 (by decide) ⟨by omega, by omega⟩ ⟨by omega, by omega⟩ (fun c_21 => ?_) (fun c_21 => ?_)
    · refine wp_aload_n dX5_add_74 rfl ?_
      refine wp_aload_n dX5_add_75 rfl ?_
      refine wp_get fkX5_16 dX5_add_76 D.1 rfl ?_
      refine wp_iload dX5_add_79 rfl ?_
      refine wp_max dX5_add_81 maX5_32 w_max (Nat.le_of_ble_eq_true rfl) (Nat.le_of_ble_eq_true rfl) ⟨by omega, by omega⟩ ⟨by omega, by omega⟩ ?_
      refine wp_put fkX5_16 dX5_add_84 D.1 rfl rfl (Nat.le_of_ble_eq_true rfl) ?_
      obtain ⟨h_1, eh_1⟩ : ∃ hh9 : AH, hh9 = hup h a (eO 5 [.ref (a + 1), JV (max u (min e 5000))]) := ⟨_, rfl⟩
      refine WP.heq eh_1 ?_
      obtain ⟨u_1, eu_1⟩ : ∃ ss9 : Int, ss9 = max u (min e 5000) := ⟨_, rfl⟩
      have D_1 : LD G h_1 a g u_1 := by rw [eu_1]; exact D.up eh_1
      have HX_1 : HP G S h_1 := H.frame (fun q9 hq9 hq8 => hup_at eh_1 (by omega))
      refine wp_vret dX5_add_87 rfl ?_
      refine kk g h_1 (by rw [eu_1] at D_1; exact D_1) HX_1 (fun c hc d => ?_) (fr.up eh_1 ⟨by omega, by omega⟩)
      rw [hg c hc]
      by_cases hd : wkS S q d = true
      · by_cases hd2 : b ≤ (d : Int) ∧ (d : Int) < min e 5000
        · rw [if_pos ⟨by omega, by omega, hd⟩, if_pos ⟨hd2.1, hd2.2, hd⟩]
        · rw [if_neg (fun z => hd2 ⟨by omega, by omega⟩), if_neg (fun z => hd2 ⟨z.1, z.2.1⟩)]
      · rw [if_neg (fun z => hd z.2.2), if_neg (fun z => hd z.2.2)]
    · exact absurd c_21 (by omega)
  | succ m ih =>
    intro x g h xl hm hx D H hg fr kk
    refine wp_iload dX5_add_17 rfl ?_
    refine wp_iload dX5_add_19 rfl ?_
    refine wp_icmp_ge 74 dX5_add_21 (by decide) ⟨by omega, by omega⟩ ⟨by omega, by omega⟩ (fun c_21 => ?_) (fun c_21 => ?_)
    · exact absurd c_21 (by omega)
    · refine wp_aload_n dX5_add_24 rfl ?_
      refine wp_iload dX5_add_25 rfl ?_
      refine wp_v1p (by have q9 := c_worksOn (N := N) (d := (x : Int)) (H.cal w hq) (by omega) (by omega); rw [Int.toNat_natCast] at q9; exact q9) cvX5_35 dX5_add_27 ⟨Nat.le_of_ble_eq_true rfl, Nat.le_of_ble_eq_true rfl⟩ (Nat.le_of_ble_eq_true rfl) (H.2.2.2.2.2.2.2.1 q (by omega)) rfl rfl ?_
      refine wp_if_eq 68 dX5_add_30 (by decide) (bI_r _) (fun c_30 => ?_) (fun c_30 => ?_)
      · have w9 : wkS S q x = false := bI_eq c_30
        refine wp_iinc dX5_add_68 rfl (Nat.le_of_ble_eq_true rfl) rfl ?_
        change WP G mX5_add _ _ _ _ h N 71 [some (.ref a), some (.ref (cB G + 20 + 2 * t)), some (.ref (cB G + 8 + 2 * q)), some (JV b), some (JV e), some (JV (min e 5000)), some (JV ((x : Int) + 1)), xl] []
        refine wp_goto 17 dX5_add_71 (by decide) ?_
        refine ih (x + 1) g h xl (by omega) (by omega) D H (fun c hc d => ?_) fr kk
        rw [hg c hc]
        by_cases hd : d = x
        · rw [if_neg (by omega), if_neg (fun z => by rw [hd, w9] at z; exact absurd z.2.2 (by decide))]
        · by_cases hd2 : (max b 0).toNat ≤ d ∧ d < x ∧ wkS S q d = true
          · rw [if_pos hd2, if_pos ⟨hd2.1, by omega, hd2.2.2⟩]
          · rw [if_neg hd2, if_neg (fun z => hd2 ⟨z.1, by omega, z.2.2⟩)]
      · have w9 : wkS S q x = true := bI_ne c_30
        refine wp_iconst dX5_add_33 ?_
        refine wp_istore dX5_add_34 (Nat.le_of_ble_eq_true rfl) rfl ?_
        change WP G mX5_add _ _ _ _ h N 36 [some (.ref a), some (.ref (cB G + 20 + 2 * t)), some (.ref (cB G + 8 + 2 * q)), some (JV b), some (JV e), some (JV (min e 5000)), some (JV (x : Int)), some (JV 0)] []
        refine l_add1 (h0 := h) (g0 := g) ha w ht hq hb he hu (by omega) _ 0 g h rfl (by omega) D H (fun c' hc' d => by rw [if_neg (by omega)]) FR.rf (fun g1 h1 D1 H1 hg1 fr1 => ?_) 
        change WP G mX5_add _ _ _ _ h1 N 68 [some (.ref a), some (.ref (cB G + 20 + 2 * t)), some (.ref (cB G + 8 + 2 * q)), some (JV b), some (JV e), some (JV (min e 5000)), some (JV (x : Int)), some (JV 4)] []
        refine wp_iinc dX5_add_68 rfl (Nat.le_of_ble_eq_true rfl) rfl ?_
        change WP G mX5_add _ _ _ _ h1 N 71 [some (.ref a), some (.ref (cB G + 20 + 2 * t)), some (.ref (cB G + 8 + 2 * q)), some (JV b), some (JV e), some (JV (min e 5000)), some (JV ((x : Int) + 1)), some (JV 4)] []
        refine wp_goto 17 dX5_add_71 (by decide) ?_
        refine ih (x + 1) g1 h1 _ (by omega) (by omega) D1 H1 (fun c hc d => ?_) (fr.tr fr1) kk
        rw [hg1 c hc, hg c hc]
        by_cases hd : d = x
        · rw [if_pos hd, if_neg (by omega), if_pos ⟨by omega, by omega, by rw [hd]; exact w9⟩]
        · rw [if_neg hd]
          by_cases hd2 : (max b 0).toNat ≤ d ∧ d < x ∧ wkS S q d = true
          · rw [if_pos hd2, if_pos ⟨hd2.1, by omega, hd2.2.2⟩]
          · rw [if_neg hd2, if_neg (fun z => hd2 ⟨z.1, by omega, z.2.2⟩)]

theorem c_add (D : LD G h a g u) (H : HP G S h) (ha : cB G + 108 ≤ a) (w : WF S) (ht : t < 24) (hq : q < 4) (hb : -40000 ≤ b ∧ b ≤ 40000) (he : -40000 ≤ e ∧ e ≤ 40000) (hu : 0 ≤ u ∧ u ≤ 5000) : CT G mX5_add [.ref a, .ref (cB G + 20 + 2 * t), .ref (cB G + 8 + 2 * q), JV b, JV e] h N 0 0 (fun r h' N' => r = none ∧ N' = N ∧ ∃ g', LD G h' a g' (max u (min e 5000)) ∧ HP G S h' ∧ (∀ c, c < 4 → ∀ d, g' c d = if b ≤ (d : Int) ∧ (d : Int) < min e 5000 ∧ wkS S q d = true then g c d + S 12 t c else g c d) ∧ FR a (a + 6) h h') := by
  refine CT_of (by decide +kernel) rfl (by simp [Value.category]) (Nat.le_of_ble_eq_true rfl) ?_
  change WP G mX5_add _ noX _ _ h N 0 [some (.ref a), some (.ref (cB G + 20 + 2 * t)), some (.ref (cB G + 8 + 2 * q)), some (JV b), some (JV e), none, none, none] []
  refine wp_iload dX5_add_0 rfl ?_
  refine wp_sipush dX5_add_2 rfl ?_
  refine wp_min dX5_add_5 maX5_26 w_min (Nat.le_of_ble_eq_true rfl) (Nat.le_of_ble_eq_true rfl) ⟨by omega, by omega⟩ ⟨by omega, by omega⟩ ?_
  refine wp_istore dX5_add_8 (Nat.le_of_ble_eq_true rfl) rfl ?_
  change WP G mX5_add _ _ _ _ h N 10 [some (.ref a), some (.ref (cB G + 20 + 2 * t)), some (.ref (cB G + 8 + 2 * q)), some (JV b), some (JV e), some (JV (min e 5000)), none, none] []
  refine wp_iload_n dX5_add_10 rfl ?_
  refine wp_iconst dX5_add_11 ?_
  refine wp_max dX5_add_12 maX5_32 w_max (Nat.le_of_ble_eq_true rfl) (Nat.le_of_ble_eq_true rfl) ⟨by omega, by omega⟩ ⟨by omega, by omega⟩ ?_
  refine wp_istore dX5_add_15 (Nat.le_of_ble_eq_true rfl) rfl ?_
  change WP G mX5_add _ _ _ _ h N 17 [some (.ref a), some (.ref (cB G + 20 + 2 * t)), some (.ref (cB G + 8 + 2 * q)), some (JV b), some (JV e), some (JV (min e 5000)), some (JV (max b 0)), none] []
  rw [show max b 0 = (((max b 0).toNat : Nat) : Int) by omega]
  refine l_add ha w ht hq hb he hu _ (max b 0).toNat g h none rfl (by omega) D H (fun c hc d => by rw [if_neg (by omega)]) FR.rf (fun g' h' x y z v => ⟨rfl, rfl, g', x, y, z, v⟩)

end Ld

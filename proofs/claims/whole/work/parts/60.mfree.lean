/-! ===== the reference: a free day told ===== -/
section Mfr
variable {G : Ctx} {h h1 : AH} {N : Nat} {S S' M M' : ST} {L L' : Nat → Nat} {z : Int64} {K : KTup}
/-- a day set free or not -/
def FRS (S S' : ST) (t d : Nat) (v : Int) : Prop := (∀ f, f ≠ 1 → f ≠ 2 → S' f = S f) ∧ (∀ c' d', (c' ≠ t ∨ d' ≠ d) → S' 2 c' d' = S 2 c' d') ∧ S' 2 t d = v ∧ (∀ c', c' ≠ t → S' 1 c' 0 = S 1 c' 0) ∧ S' 1 t 0 = S 1 t 0 + v - S 2 t d
theorem wsum_one {f g : Nat → Int} {d : Nat} (e : ∀ x, x ≠ d → g x = f x) : ∀ n, wsum g n = wsum f n + (if d < n then g d - f d else 0)
  | 0 => by rw [if_neg (by omega)]; rfl
  | n + 1 => by
    rw [wsum, wsum, wsum_one e n]
    by_cases hn : n = d
    · rw [hn, if_neg (by omega), if_pos (by omega)]; omega
    · rw [e n hn]
      by_cases hd : d < n
      · rw [if_pos hd, if_pos (by omega)]; omega
      · rw [if_neg hd, if_neg (by omega)]; omega
theorem FRS.of {t d : Nat} {v : Int} (x : XI S) (x' : XI S') (ht : t < 4) (hd : d < 1000) (a : ∀ f, f ≠ 1 → f ≠ 2 → S' f = S f) (b : ∀ c' d', (c' ≠ t ∨ d' ≠ d) → S' 2 c' d' = S 2 c' d') (c : S' 2 t d = v) (e : ∀ c', c' ≠ t → S' 1 c' 0 = S 1 c' 0) : FRS S S' t d v := by
  refine ⟨a, b, c, e, ?_⟩
  rw [x'.1 t ht, x.1 t ht, wsum_one (f := fun d => S 2 t d) (g := fun d => S' 2 t d) (d := d) (fun y hy => b t y (Or.inr hy)) 1000, if_pos hd]
  show wsum (fun d => S 2 t d) 1000 + (S' 2 t d - S 2 t d) = _
  rw [c]
  omega
def FR5 (S M : ST) (t : Nat) : Prop := (∀ k : Nat, (k : Int) < S 1 t 0 → (0 ≤ M 3 t k ∧ M 3 t k ≤ 999) ∧ S 2 t (M 3 t k).toNat = 1) ∧ (∀ d : Nat, d < 1000 → S 2 t d = 1 → ∃ k : Nat, (k : Int) < S 1 t 0 ∧ M 3 t k = (d : Int)) ∧ ∀ k k' : Nat, (k : Int) < S 1 t 0 → (k' : Int) < S 1 t 0 → M 3 t k = M 3 t k' → k = k'
theorem RS_fr {t d : Nat} {v : Int} (r : RS S M) (fr : FRS S S' t d v) (m1 : ∀ f ∈ mBS, f ≠ 2 → f ≠ 3 → M' f = M f) (m2 : ∀ c, c ≠ t → M' 2 c 0 = M 2 c 0 ∧ M' 3 c = M 3 c) (m3 : M' 2 t 0 = S' 1 t 0) (m5 : FR5 S' M' t) : RS S' M' := by
  obtain ⟨a, b, c, q, f⟩ := r
  obtain ⟨e, e2, e3, e4, e5⟩ := fr
  unfold RS lF lT lK lG
  unfold lF lT lK lG at q
  simp only [e 0 (by decide) (by decide), e 3 (by decide) (by decide), e 4 (by decide) (by decide), e 5 (by decide) (by decide), e 6 (by decide) (by decide), e 7 (by decide) (by decide), e 8 (by decide) (by decide), e 9 (by decide) (by decide), e 10 (by decide) (by decide), e 11 (by decide) (by decide), e 12 (by decide) (by decide), e 13 (by decide) (by decide), e 14 (by decide) (by decide), e 15 (by decide) (by decide), e 18 (by decide) (by decide), e 19 (by decide) (by decide), e 20 (by decide) (by decide), e 21 (by decide) (by decide), e 22 (by decide) (by decide), m1 1 (by decide) (by decide) (by decide), m1 4 (by decide) (by decide) (by decide), m1 5 (by decide) (by decide) (by decide), m1 6 (by decide) (by decide) (by decide), m1 7 (by decide) (by decide) (by decide), m1 8 (by decide) (by decide) (by decide), m1 9 (by decide) (by decide) (by decide), m1 10 (by decide) (by decide) (by decide), m1 11 (by decide) (by decide) (by decide), m1 12 (by decide) (by decide) (by decide), m1 13 (by decide) (by decide) (by decide), m1 14 (by decide) (by decide) (by decide), m1 15 (by decide) (by decide) (by decide), m1 16 (by decide) (by decide) (by decide)]
  refine ⟨fun x => ⟨(a x).1, ?_, (a x).2.2⟩, b, c, q, fun x hx => ?_⟩
  · by_cases hxt : x = t
    · rw [hxt]; exact m3
    · rw [(m2 x hxt).1, e4 x hxt]; exact (a x).2.1
  · by_cases hxt : x = t
    · rw [hxt]; exact m5
    · rw [(m2 x hxt).2, e4 x hxt, show S' 2 x = S 2 x from funext fun y => e2 x y (Or.inl hxt)]
      exact f x hx
theorem FR5.same {t d : Nat} {v : Int} (r : RS S M) (ht : t < 4) (fr : FRS S S' t d v) (hv : S 2 t d = v) (m : M' 3 t = M 3 t) : FR5 S' M' t := by
  obtain ⟨e, e2, e3, e4, e5⟩ := fr
  have q2 : S' 2 t = S 2 t := funext fun y => by
    by_cases hy : y = d
    · rw [hy, e3, hv]
    · exact e2 t y (Or.inr hy)
  have q1 : S' 1 t 0 = S 1 t 0 := by omega
  unfold FR5
  rw [q2, q1, m]
  exact r.2.2.2.2 t ht
theorem FR5.add {t d n : Nat} (r : RS S M) (ht : t < 4) (hd : d < 1000) (fr : FRS S S' t d 1) (h0 : S 2 t d = 0) (hn : S 1 t 0 = (n : Int)) (m : M' 3 t = fup (M 3 t) n (d : Int)) : FR5 S' M' t := by
  obtain ⟨e, e2, e3, e4, e5⟩ := fr
  obtain ⟨i1, i2, i3⟩ := r.2.2.2.2 t ht
  have q1 : S' 1 t 0 = (n : Int) + 1 := by omega
  have nd : ∀ k : Nat, k < n → M 3 t k ≠ (d : Int) := fun k hk q => by
    have := (i1 k (by omega)).2
    rw [q, show (d : Int).toNat = d from rfl] at this
    omega
  unfold FR5
  rw [q1, m]
  refine ⟨fun k hk => ?_, fun x hx hs => ?_, fun k k' hk hk' q => ?_⟩
  · by_cases hkn : k = n
    · rw [hkn, fupe]; exact ⟨by omega, e3⟩
    · have a := i1 k (by omega)
      have b := nd k (by omega)
      rw [fupn hkn]; exact ⟨a.1, by rw [e2 t _ (Or.inr (by omega))]; exact a.2⟩
  · by_cases hxd : x = d
    · exact ⟨n, by omega, by rw [hxd]; exact fupe⟩
    · rw [e2 t x (Or.inr hxd)] at hs
      obtain ⟨k, k1, k2⟩ := i2 x hx hs
      exact ⟨k, by omega, by rw [fupn (by omega)]; exact k2⟩
  · by_cases h1 : k = n <;> by_cases h2 : k' = n
    · omega
    · rw [h1, fupe, fupn h2] at q; exact absurd q.symm (nd k' (by omega))
    · rw [h2, fupe, fupn h1] at q; exact absurd q (nd k (by omega))
    · rw [fupn h1, fupn h2] at q; exact i3 k k' (by omega) (by omega) q
theorem FR5.rem {t d n i : Nat} (r : RS S M) (ht : t < 4) (fr : FRS S S' t d 0) (h1 : S 2 t d = 1) (hn : S 1 t 0 = (n : Int) + 1) (hi : i < n + 1) (hd : M 3 t i = (d : Int)) (m : M' 3 t = fup (M 3 t) i (M 3 t n)) : FR5 S' M' t := by
  obtain ⟨e, e2, e3, e4, e5⟩ := fr
  obtain ⟨i1, i2, i3⟩ := r.2.2.2.2 t ht
  have q1 : S' 1 t 0 = (n : Int) := by omega
  have nd : ∀ k : Nat, k < n + 1 → k ≠ i → M 3 t k ≠ (d : Int) := fun k hk hki q => hki (i3 k i (by omega) (by omega) (q.trans hd.symm))
  have st : ∀ k : Nat, k < n + 1 → k ≠ i → (0 ≤ M 3 t k ∧ M 3 t k ≤ 999) ∧ S' 2 t (M 3 t k).toNat = 1 := fun k hk hki => by
    have a := i1 k (by omega)
    have b := nd k hk hki
    exact ⟨a.1, by rw [e2 t _ (Or.inr (by omega))]; exact a.2⟩
  unfold FR5
  rw [q1, m]
  refine ⟨fun k hk => ?_, fun x hx hs => ?_, fun k k' hk hk' q => ?_⟩
  · by_cases hki : k = i
    · rw [hki, fupe]; exact st n (by omega) (by omega)
    · rw [fupn hki]; exact st k (by omega) hki
  · have hxd : x ≠ d := fun q => by rw [q, e3] at hs; omega
    rw [e2 t x (Or.inr hxd)] at hs
    obtain ⟨k, k1, k2⟩ := i2 x hx hs
    have hki : k ≠ i := fun q => hxd (by rw [q, hd] at k2; omega)
    by_cases hkn : k = n
    · exact ⟨i, by omega, by rw [fupe, ← hkn]; exact k2⟩
    · exact ⟨k, by omega, by rw [fupn hki]; exact k2⟩
  · by_cases h1 : k = i <;> by_cases h2 : k' = i
    · omega
    · rw [h1, fupe, fupn h2] at q; have := i3 n k' (by omega) (by omega) q; omega
    · rw [h2, fupe, fupn h1] at q; have := i3 k n (by omega) (by omega) q; omega
    · rw [fupn h1, fupn h2] at q; exact i3 k k' (by omega) (by omega) q
theorem frA_0 {t d : Nat} (r : RS S M) (ht : t < 4) (hd : d < 1000) (w : WF S) (h0 : S 2 t d = 0) : frA (fun k => M 3 t k) (d : Int) (S 1 t 0).toNat = -1 := by
  rcases frA_r (f := fun k => M 3 t k) (d := (d : Int)) (S 1 t 0).toNat with ⟨a, b⟩ | ⟨k, a, b, c⟩
  · exact a
  · have q := ((r.2.2.2.2 t ht).1 k (by omega)).2
    rw [show M 3 t k = (d : Int) from c, show (d : Int).toNat = d from rfl] at q
    omega
theorem frA_1 {t d : Nat} (r : RS S M) (ht : t < 4) (hd : d < 1000) (w : WF S) (h1 : S 2 t d = 1) : ∃ k : Nat, (k : Int) < S 1 t 0 ∧ frA (fun k => M 3 t k) (d : Int) (S 1 t 0).toNat = (k : Int) ∧ M 3 t k = (d : Int) := by
  rcases frA_r (f := fun k => M 3 t k) (d := (d : Int)) (S 1 t 0).toNat with ⟨a, b⟩ | ⟨k, a, b, c⟩
  · obtain ⟨k, k1, k2⟩ := (r.2.2.2.2 t ht).2.1 d hd h1
    exact absurd k2 (b k (by omega))
  · exact ⟨k, by omega, b, c⟩
theorem m_setFree (P : MP G N M L z h) (r : RS S M) (w : WF S) {c d v : Int} (hc : InR c) (hd : InR d) (hv : v = 0 ∨ v = 1) (hS : (0 ≤ c ∧ c < 4) → (0 ≤ d ∧ d ≤ 999) → (¬ (v = 1 ∧ S 2 c.toNat d.toNat = 0 ∧ 12 ≤ S 1 c.toNat 0)) → FRS S S' c.toNat d.toNat v) : CT G mX11_setFree [.ref (cB G + 169), JV c, JV d, JV v] h N 0 0 (fun r h' N' => ∃ M', (((0 ≤ c ∧ c < 4) ∧ (0 ≤ d ∧ d ≤ 999) ∧ (¬ (v = 1 ∧ S 2 c.toNat d.toNat = 0 ∧ 12 ≤ S 1 c.toNat 0))) ∧ MRG G S' M L z h N M' h' N' ∧ r = some (JV (S 2 c.toNat d.toNat))) ∨ (¬ (0 ≤ c ∧ c < 4) ∧ MRB G S M L z h N 1 M' h' N' ∧ r = some (JV 0)) ∨ (((0 ≤ c ∧ c < 4) ∧ ¬ (0 ≤ d ∧ d ≤ 999)) ∧ MRB G S M L z h N 2 M' h' N' ∧ r = some (JV 0)) ∨ (((0 ≤ c ∧ c < 4) ∧ (0 ≤ d ∧ d ≤ 999) ∧ ¬ (¬ (v = 1 ∧ S 2 c.toNat d.toNat = 0 ∧ 12 ≤ S 1 c.toNat 0))) ∧ MRB G S M L z h N 3 M' h' N' ∧ r = some (JV 0))) := by
  have wT := w.nT
  have wL := w.nL
  have wR := w.rule
  have hN0 := P.nN
  refine CT_of (by decide +kernel) rfl (by simp [Value.category]) (Nat.le_of_ble_eq_true rfl) ?_
  change WP G mX11_setFree _ noX _ _ h N 0 [some (.ref (cB G + 169)), some (JV c), some (JV d), some (JV v), none] []
  refine wp_aload_n dX11_setFree_0 rfl ?_
  refine wp_iload_n dX11_setFree_1 rfl ?_
  refine wp_s1p (m_isCalendar (N := N) hc) csX11_191 dX11_setFree_2 ⟨Nat.le_of_ble_eq_true rfl, Nat.le_of_ble_eq_true rfl⟩ (Nat.le_of_ble_eq_true rfl) ?_
  refine wp_if_ne 12 dX11_setFree_5 (by decide) (bI_r _) (fun c_5 => ?_) (fun c_5 => ?_)
  · have q_5 := bI_p c_5
    refine wp_iload_n dX11_setFree_12 rfl ?_
    refine wp_iconst dX11_setFree_13 ?_
    refine wp_sipush dX11_setFree_14 rfl ?_
    refine wp_s3p (m_is (N := N) hd ⟨by omega, by omega⟩ ⟨by omega, by omega⟩) csX11_92 dX11_setFree_17 ⟨Nat.le_of_ble_eq_true rfl, Nat.le_of_ble_eq_true rfl⟩ (Nat.le_of_ble_eq_true rfl) ?_
    refine wp_if_ne 27 dX11_setFree_20 (by decide) (bI_r _) (fun c_20 => ?_) (fun c_20 => ?_)
    · have q_20 := bI_p c_20
      obtain ⟨c9, rfl⟩ : ∃ c9 : Nat, c = (c9 : Int) := ⟨c.toNat, by omega⟩
      obtain ⟨d9, rfl⟩ : ∃ d9 : Nat, d = (d9 : Int) := ⟨d.toNat, by omega⟩
      rcases w.fr c9 d9 with s2 | s2
      · have s9 := s2
        rcases hv with rfl | rfl
        · change WP G mX11_setFree _ _ _ _ h N 27 [some (.ref (cB G + 169)), some (JV (c9 : Int)), some (JV (d9 : Int)), some (JV 0), none] [.ref (cB G + 169)]
          refine wp_iload_n dX11_setFree_27 rfl ?_
          refine wp_if_eq 56 dX11_setFree_28 (by decide) ⟨by omega, by omega⟩ (fun c_28 => ?_) (fun c_28 => ?_)
          · have t3 : ¬ (((0 : Int)) = 1 ∧ S 2 (c9 : Int).toNat (d9 : Int).toNat = 0 ∧ 12 ≤ S 1 (c9 : Int).toNat 0) := fun q => by omega
            have fr : FRS S S' c9 d9 0 := hS (by omega) (by omega) t3
            refine wp_iconst dX11_setFree_56 ?_
            refine wp_put fkX11_88 dX11_setFree_57 (P.s0 r) rfl rfl (Nat.le_of_ble_eq_true rfl) ?_
            obtain ⟨h_1, eh_1⟩ : ∃ hh9 : AH, hh9 = hup h (cB G + 169) (eO 11 [JV 0, .ref (cB G + 170), .ref (cB G + 171), .ref (cB G + 172), .ref (cB G + 177), .ref (cB G + 178), JV (S 13 0 0), .ref (cB G + 179), .ref (cB G + 180), .ref (cB G + 181), .ref (cB G + 182), .ref (cB G + 183), .ref (cB G + 208), .ref (cB G + 209), JV (S 14 0 0), .ref (cB G + 212), JV (S 15 0 0), JV (M 17 0 0), .ref (cB G + 253), .ref (cB G + 254), .ref (cB G + 257), .ref (cB G + 260), .ref (cB G + 261), .ref (cB G + 264), JV (M 24 0 0), JV (M 25 0 0), JV (M 26 0 0), .ref (cB G + 265), JV (M 28 0 0), .ref (cB G + 270), .ref (cB G + 273), .ref (cB G + 274), .ref (cB G + 275), .ref (cB G + 276), .long z]) := ⟨_, rfl⟩
            refine WP.heq eh_1 ?_
            obtain ⟨M_1, eM_1⟩ : ∃ ss9 : ST, ss9 = su M 0 0 0 0 := ⟨_, rfl⟩
            have P_1 : MP G (N) M_1 L z h_1 := by rw [eM_1]; exact P.sc (f := 0) (v := 0) (by decide) (eh_1.trans (by simp [cMod, su, r.2.2.1.1, r.2.2.1.2.1, r.2.2.1.2.2]))
            have r_1 : RS S M_1 := by rw [eM_1]; exact r.der (by decide)
            refine wp_aload_n dX11_setFree_60 rfl ?_
            refine wp_get fkX11_88 dX11_setFree_61 (P_1.s0 r_1) rfl ?_
            rw [show M_1 0 0 0 = 0 by rw [eM_1]; exact su_s]
            refine wp_if_le 69 dX11_setFree_64 (by decide) ⟨by omega, by omega⟩ (fun c_64 => ?_) (fun c_64 => ?_)
            · refine wp_aload_n dX11_setFree_69 rfl ?_
              refine wp_iload_n dX11_setFree_70 rfl ?_
              refine wp_iload_n dX11_setFree_71 rfl ?_
              refine wp_v2p (m_freeAt (N := N) P_1 r_1 w (c := c9) (d := (d9 : Int)) (by omega) ⟨by omega, by omega⟩) cvX11_102 dX11_setFree_72 ⟨Nat.le_of_ble_eq_true rfl, Nat.le_of_ble_eq_true rfl⟩ (Nat.le_of_ble_eq_true rfl) (P_1.s0 r_1) rfl rfl ?_
              have fa1 := frA_0 r_1 (t := c9) (d := d9) (by omega) (by omega) w s2
              rw [fa1]
              obtain ⟨n9, hn9⟩ : ∃ n9 : Nat, S 1 c9 0 = (n9 : Int) := ⟨(S 1 c9 0).toNat, by have := w.fc (c := c9) (by omega); omega⟩
              have n12 : S 1 c9 0 ≤ 12 := (w.fc (c := c9) (by omega)).2
              have m1c : M_1 2 c9 0 = S 1 c9 0 := (r_1.1 c9).2.1
              refine wp_istore dX11_setFree_75 (Nat.le_of_ble_eq_true rfl) rfl ?_
              change WP G mX11_setFree _ _ _ _ h_1 N 77 [some (.ref (cB G + 169)), some (JV (c9 : Int)), some (JV (d9 : Int)), some (JV 0), some (JV (-1))] []
              refine wp_aload_n dX11_setFree_77 rfl ?_
              refine wp_iconst dX11_setFree_78 ?_
              refine wp_put fkX11_175 dX11_setFree_79 P_1.c0 rfl rfl (Nat.le_of_ble_eq_true rfl) ?_
              obtain ⟨h_2, eh_2⟩ : ∃ hh9 : AH, hh9 = hup h_1 (cB G + 169) (eO 11 [JV (M_1 0 0 0), .ref (cB G + 170), .ref (cB G + 171), .ref (cB G + 172), .ref (cB G + 177), .ref (cB G + 178), JV (M_1 6 0 0), .ref (cB G + 179), .ref (cB G + 180), .ref (cB G + 181), .ref (cB G + 182), .ref (cB G + 183), .ref (cB G + 208), .ref (cB G + 209), JV (M_1 14 0 0), .ref (cB G + 212), JV (M_1 16 0 0), JV 0, .ref (cB G + 253), .ref (cB G + 254), .ref (cB G + 257), .ref (cB G + 260), .ref (cB G + 261), .ref (cB G + 264), JV (M_1 24 0 0), JV (M_1 25 0 0), JV (M_1 26 0 0), .ref (cB G + 265), JV (M_1 28 0 0), .ref (cB G + 270), .ref (cB G + 273), .ref (cB G + 274), .ref (cB G + 275), .ref (cB G + 276), .long z]) := ⟨_, rfl⟩
              refine WP.heq eh_2 ?_
              obtain ⟨M_2, eM_2⟩ : ∃ ss9 : ST, ss9 = su M_1 17 0 0 0 := ⟨_, rfl⟩
              have P_2 : MP G (N) M_2 L z h_2 := by rw [eM_2]; exact P_1.sc (f := 17) (v := 0) (by decide) (eh_2.trans (by simp [cMod, su]))
              refine wp_iload_n dX11_setFree_82 rfl ?_
              refine wp_if_eq 116 dX11_setFree_83 (by decide) ⟨by omega, by omega⟩ (fun c_83 => ?_) (fun c_83 => ?_)
              · refine wp_iload_n dX11_setFree_116 rfl ?_
                refine wp_if_ne 158 dX11_setFree_117 (by decide) ⟨by omega, by omega⟩ (fun c_117 => ?_) (fun c_117 => ?_)
                · exact absurd c_117 (by omega)
                · refine wp_iload dX11_setFree_120 rfl ?_
                  refine wp_iconst dX11_setFree_122 ?_
                  refine wp_icmp_eq 158 dX11_setFree_123 (by decide) ⟨by omega, by omega⟩ ⟨by omega, by omega⟩ (fun c_123 => ?_) (fun c_123 => ?_)
                  · refine wp_iload dX11_setFree_158 rfl ?_
                    refine wp_iconst dX11_setFree_160 ?_
                    refine wp_icmp_eq 168 dX11_setFree_161 (by decide) ⟨by omega, by omega⟩ ⟨by omega, by omega⟩ (fun c_161 => ?_) (fun c_161 => ?_)
                    · refine wp_iconst dX11_setFree_168 ?_
                      refine wp_zret dX11_setFree_169 rfl (by omega) ?_
                      have r9 : RS S' M_2 := RS_fr r_1 fr (fun f hf h2 h3 => by rw [eM_2, su_f ((show ∀ x ∈ mBS, x ≠ 17 by decide) f hf)]) (fun c hc => ⟨by rw [eM_2, su_f (by decide)], by rw [eM_2, su_f (by decide)]⟩) (by have := fr.2.2.2.2; rw [eM_2, su_f (by decide), m1c]; omega) (FR5.same r_1 (by omega) fr s2 (by rw [eM_2, su_f (by decide)]))
                      exact ⟨M_2, Or.inl ⟨⟨by omega, by omega, t3⟩, ⟨Nat.le_refl _, by omega, P_2, r9, by rw [eM_2, su_f (by decide), eM_1]; exact su_s, by rw [eM_2]; exact su_s, fun f hf => by rw [eM_2, su_f ((show ∀ x ∈ mKP, x ≠ 17 by decide) f hf), eM_1, su_f ((show ∀ x ∈ mKP, x ≠ 0 by decide) f hf)], ((FA.rf.up eh_1 (by omega)).up eh_2 (by omega))⟩, congrArg (fun x => some (JV x)) s2.symm⟩⟩
                    · exact absurd c_161 (by omega)
                  · exact absurd c_123 (by omega)
              · exact absurd c_83 (by omega)
            · exact absurd c_64 (by omega)
          · exact absurd c_28 (by decide)
        · change WP G mX11_setFree _ _ _ _ h N 27 [some (.ref (cB G + 169)), some (JV (c9 : Int)), some (JV (d9 : Int)), some (JV 1), none] [.ref (cB G + 169)]
          have fa := frA_0 r (t := c9) (d := d9) (by omega) (by omega) w s2
          refine wp_iload_n dX11_setFree_27 rfl ?_
          refine wp_if_eq 56 dX11_setFree_28 (by decide) ⟨by omega, by omega⟩ (fun c_28 => ?_) (fun c_28 => ?_)
          · exact absurd c_28 (by decide)
          · refine wp_aload_n dX11_setFree_31 rfl ?_
            refine wp_iload_n dX11_setFree_32 rfl ?_
            refine wp_iload_n dX11_setFree_33 rfl ?_
            refine wp_v2p (m_freeAt (N := N) P r w (c := c9) (d := (d9 : Int)) (by omega) ⟨by omega, by omega⟩) cvX11_102 dX11_setFree_34 ⟨Nat.le_of_ble_eq_true rfl, Nat.le_of_ble_eq_true rfl⟩ (Nat.le_of_ble_eq_true rfl) (P.s0 r) rfl rfl ?_
            rw [fa]
            refine wp_iconst dX11_setFree_37 ?_
            refine wp_icmp_ne 56 dX11_setFree_38 (by decide) ⟨by omega, by omega⟩ ⟨by omega, by omega⟩ (fun c_38 => ?_) (fun c_38 => ?_)
            · exact absurd rfl c_38
            · have n12 := w.fc (c := c9) (by omega)
              refine wp_aload_n dX11_setFree_41 rfl ?_
              refine wp_get fkX11_13 dX11_setFree_42 (P.s0 r) rfl ?_
              refine wp_iload_n dX11_setFree_45 rfl ?_
              refine wp_iaload dX11_setFree_46 (P.s2 r) (by omega) (by omega) (by omega) ?_
              change WP G mX11_setFree _ _ _ _ h N 47 [some (.ref (cB G + 169)), some (JV (c9 : Int)), some (JV (d9 : Int)), some (JV 1), none] [JV (S 1 c9 0), .ref (cB G + 169)]
              refine wp_bipush dX11_setFree_47 rfl ?_
              refine wp_icmp_ne 56 dX11_setFree_49 (by decide) ⟨by omega, by omega⟩ ⟨by omega, by omega⟩ (fun c_49 => ?_) (fun c_49 => ?_)
              · have t3 : ¬ (((1 : Int)) = 1 ∧ S 2 (c9 : Int).toNat (d9 : Int).toNat = 0 ∧ 12 ≤ S 1 (c9 : Int).toNat 0) := fun q => by have q2 : 12 ≤ S 1 c9 0 := q.2.2; omega
                have fr : FRS S S' c9 d9 1 := hS (by omega) (by omega) t3
                refine wp_iconst dX11_setFree_56 ?_
                refine wp_put fkX11_88 dX11_setFree_57 (P.s0 r) rfl rfl (Nat.le_of_ble_eq_true rfl) ?_
                obtain ⟨h_1, eh_1⟩ : ∃ hh9 : AH, hh9 = hup h (cB G + 169) (eO 11 [JV 0, .ref (cB G + 170), .ref (cB G + 171), .ref (cB G + 172), .ref (cB G + 177), .ref (cB G + 178), JV (S 13 0 0), .ref (cB G + 179), .ref (cB G + 180), .ref (cB G + 181), .ref (cB G + 182), .ref (cB G + 183), .ref (cB G + 208), .ref (cB G + 209), JV (S 14 0 0), .ref (cB G + 212), JV (S 15 0 0), JV (M 17 0 0), .ref (cB G + 253), .ref (cB G + 254), .ref (cB G + 257), .ref (cB G + 260), .ref (cB G + 261), .ref (cB G + 264), JV (M 24 0 0), JV (M 25 0 0), JV (M 26 0 0), .ref (cB G + 265), JV (M 28 0 0), .ref (cB G + 270), .ref (cB G + 273), .ref (cB G + 274), .ref (cB G + 275), .ref (cB G + 276), .long z]) := ⟨_, rfl⟩
                refine WP.heq eh_1 ?_
                obtain ⟨M_1, eM_1⟩ : ∃ ss9 : ST, ss9 = su M 0 0 0 0 := ⟨_, rfl⟩
                have P_1 : MP G (N) M_1 L z h_1 := by rw [eM_1]; exact P.sc (f := 0) (v := 0) (by decide) (eh_1.trans (by simp [cMod, su, r.2.2.1.1, r.2.2.1.2.1, r.2.2.1.2.2]))
                have r_1 : RS S M_1 := by rw [eM_1]; exact r.der (by decide)
                refine wp_aload_n dX11_setFree_60 rfl ?_
                refine wp_get fkX11_88 dX11_setFree_61 (P_1.s0 r_1) rfl ?_
                rw [show M_1 0 0 0 = 0 by rw [eM_1]; exact su_s]
                refine wp_if_le 69 dX11_setFree_64 (by decide) ⟨by omega, by omega⟩ (fun c_64 => ?_) (fun c_64 => ?_)
                · refine wp_aload_n dX11_setFree_69 rfl ?_
                  refine wp_iload_n dX11_setFree_70 rfl ?_
                  refine wp_iload_n dX11_setFree_71 rfl ?_
                  refine wp_v2p (m_freeAt (N := N) P_1 r_1 w (c := c9) (d := (d9 : Int)) (by omega) ⟨by omega, by omega⟩) cvX11_102 dX11_setFree_72 ⟨Nat.le_of_ble_eq_true rfl, Nat.le_of_ble_eq_true rfl⟩ (Nat.le_of_ble_eq_true rfl) (P_1.s0 r_1) rfl rfl ?_
                  have fa1 := frA_0 r_1 (t := c9) (d := d9) (by omega) (by omega) w s2
                  rw [fa1]
                  obtain ⟨n9, hn9⟩ : ∃ n9 : Nat, S 1 c9 0 = (n9 : Int) := ⟨(S 1 c9 0).toNat, by have := w.fc (c := c9) (by omega); omega⟩
                  have n12 : S 1 c9 0 ≤ 12 := (w.fc (c := c9) (by omega)).2
                  have m1c : M_1 2 c9 0 = S 1 c9 0 := (r_1.1 c9).2.1
                  refine wp_istore dX11_setFree_75 (Nat.le_of_ble_eq_true rfl) rfl ?_
                  change WP G mX11_setFree _ _ _ _ h_1 N 77 [some (.ref (cB G + 169)), some (JV (c9 : Int)), some (JV (d9 : Int)), some (JV 1), some (JV (-1))] []
                  refine wp_aload_n dX11_setFree_77 rfl ?_
                  refine wp_iconst dX11_setFree_78 ?_
                  refine wp_put fkX11_175 dX11_setFree_79 P_1.c0 rfl rfl (Nat.le_of_ble_eq_true rfl) ?_
                  obtain ⟨h_2, eh_2⟩ : ∃ hh9 : AH, hh9 = hup h_1 (cB G + 169) (eO 11 [JV (M_1 0 0 0), .ref (cB G + 170), .ref (cB G + 171), .ref (cB G + 172), .ref (cB G + 177), .ref (cB G + 178), JV (M_1 6 0 0), .ref (cB G + 179), .ref (cB G + 180), .ref (cB G + 181), .ref (cB G + 182), .ref (cB G + 183), .ref (cB G + 208), .ref (cB G + 209), JV (M_1 14 0 0), .ref (cB G + 212), JV (M_1 16 0 0), JV 0, .ref (cB G + 253), .ref (cB G + 254), .ref (cB G + 257), .ref (cB G + 260), .ref (cB G + 261), .ref (cB G + 264), JV (M_1 24 0 0), JV (M_1 25 0 0), JV (M_1 26 0 0), .ref (cB G + 265), JV (M_1 28 0 0), .ref (cB G + 270), .ref (cB G + 273), .ref (cB G + 274), .ref (cB G + 275), .ref (cB G + 276), .long z]) := ⟨_, rfl⟩
                  refine WP.heq eh_2 ?_
                  obtain ⟨M_2, eM_2⟩ : ∃ ss9 : ST, ss9 = su M_1 17 0 0 0 := ⟨_, rfl⟩
                  have P_2 : MP G (N) M_2 L z h_2 := by rw [eM_2]; exact P_1.sc (f := 17) (v := 0) (by decide) (eh_2.trans (by simp [cMod, su]))
                  refine wp_iload_n dX11_setFree_82 rfl ?_
                  refine wp_if_eq 116 dX11_setFree_83 (by decide) ⟨by omega, by omega⟩ (fun c_83 => ?_) (fun c_83 => ?_)
                  · exact absurd c_83 (by omega)
                  · refine wp_iload dX11_setFree_86 rfl ?_
                    refine wp_iconst dX11_setFree_88 ?_
                    refine wp_icmp_ne 116 dX11_setFree_89 (by decide) ⟨by omega, by omega⟩ ⟨by omega, by omega⟩ (fun c_89 => ?_) (fun c_89 => ?_)
                    · exact absurd c_89 (by omega)
                    · refine wp_aload_n dX11_setFree_92 rfl ?_
                      refine wp_get fkX11_18 dX11_setFree_93 P_2.c0 rfl ?_
                      refine wp_iload_n dX11_setFree_96 rfl ?_
                      refine wp_aaload dX11_setFree_97 P_2.q3 rfl rfl (by omega) (by omega) (by omega) (if_pos (by omega)) ?_
                      change WP G mX11_setFree _ _ _ _ h_2 N 98 [some (.ref (cB G + 169)), some (JV (c9 : Int)), some (JV (d9 : Int)), some (JV 1), some (JV (-1))] [.ref (cB G + 173 + c9)]
                      refine wp_aload_n dX11_setFree_98 rfl ?_
                      refine wp_get fkX11_13 dX11_setFree_99 P_2.c0 rfl ?_
                      refine wp_iload_n dX11_setFree_102 rfl ?_
                      refine wp_iaload dX11_setFree_103 P_2.c2 (by omega) (by omega) (by omega) ?_
                      change WP G mX11_setFree _ _ _ _ h_2 N 104 [some (.ref (cB G + 169)), some (JV (c9 : Int)), some (JV (d9 : Int)), some (JV 1), some (JV (-1))] [JV (M_2 2 c9 0), .ref (cB G + 173 + c9)]
                      rw [show M_2 2 c9 0 = (n9 : Int) by rw [eM_2, su_f (by decide), m1c]; omega]
                      refine wp_iload_n dX11_setFree_104 rfl ?_
                      refine wp_iastore dX11_setFree_105 (P_2.r3 (i := c9) (by omega)) (by omega) (by omega) (by omega) ?_
                      obtain ⟨h_3, eh_3⟩ : ∃ hh9 : AH, hh9 = hup h_2 (cB G + 173 + c9) (eI G 12 (fup (fun j9 => M_2 3 c9 j9) n9 (d9 : Int))) := ⟨_, rfl⟩
                      refine WP.heq eh_3 ?_
                      obtain ⟨M_3, eM_3⟩ : ∃ ss9 : ST, ss9 = su M_2 3 c9 n9 (d9 : Int) := ⟨_, rfl⟩
                      have P_3 : MP G (N) M_3 L z h_3 := by rw [eM_3]; exact P_2.u2 (q := (3, 172, 4, 12)) (i := c9) (j := n9) (v := (d9 : Int)) (by decide) (show c9 < 4 by omega) eh_3
                      refine wp_aload_n dX11_setFree_106 rfl ?_
                      refine wp_get fkX11_13 dX11_setFree_107 P_3.c0 rfl ?_
                      refine wp_iload_n dX11_setFree_110 rfl ?_
                      refine wp_dup2 dX11_setFree_111 rfl rfl ?_
                      refine wp_iaload dX11_setFree_112 P_3.c2 (by omega) (by omega) (by omega) ?_
                      change WP G mX11_setFree _ _ _ _ h_3 N 113 [some (.ref (cB G + 169)), some (JV (c9 : Int)), some (JV (d9 : Int)), some (JV 1), some (JV (-1))] [JV (M_3 2 c9 0), JV (c9 : Int), .ref (cB G + 171)]
                      refine wp_iconst dX11_setFree_113 ?_
                      refine wp_iadd dX11_setFree_114 ?_
                      refine wp_iastore dX11_setFree_115 P_3.c2 (by omega) (by omega) (by omega) ?_
                      obtain ⟨h_4, eh_4⟩ : ∃ hh9 : AH, hh9 = hup h_3 (cB G + 171) (eI G 4 (fup (fun i => M_3 2 i 0) c9 ((M_3 2 c9 0) + 1))) := ⟨_, rfl⟩
                      refine WP.heq eh_4 ?_
                      obtain ⟨M_4, eM_4⟩ : ∃ ss9 : ST, ss9 = su M_3 2 c9 0 ((M_3 2 c9 0) + 1) := ⟨_, rfl⟩
                      have P_4 : MP G (N) M_4 L z h_4 := by rw [eM_4]; exact P_3.u1 (q := (2, 171, 4, false)) (i := c9) (v := (M_3 2 c9 0) + 1) (by decide) eh_4
                      refine wp_iload_n dX11_setFree_116 rfl ?_
                      refine wp_if_ne 158 dX11_setFree_117 (by decide) ⟨by omega, by omega⟩ (fun c_117 => ?_) (fun c_117 => ?_)
                      · refine wp_iload dX11_setFree_158 rfl ?_
                        refine wp_iconst dX11_setFree_160 ?_
                        refine wp_icmp_eq 168 dX11_setFree_161 (by decide) ⟨by omega, by omega⟩ ⟨by omega, by omega⟩ (fun c_161 => ?_) (fun c_161 => ?_)
                        · refine wp_iconst dX11_setFree_168 ?_
                          refine wp_zret dX11_setFree_169 rfl (by omega) ?_
                          have r9 : RS S' M_4 := RS_fr r_1 fr (fun f hf h2 h3 => by rw [eM_4, su_f h2, eM_3, su_f h3, eM_2, su_f ((show ∀ x ∈ mBS, x ≠ 17 by decide) f hf)]) (fun c hc => ⟨by rw [eM_4, su_i hc, eM_3, su_f (by decide), eM_2, su_f (by decide)], by rw [eM_4, su_f (by decide), eM_3, su_rown hc, eM_2, su_f (by decide)]⟩) (by have := fr.2.2.2.2; rw [eM_4, su_s, eM_3, su_f (by decide), eM_2, su_f (by decide), m1c]; omega) (FR5.add r_1 (by omega) (by omega) fr s2 hn9 (by rw [eM_4, su_f (by decide), eM_3, su_row, eM_2, su_f (by decide)]))
                          exact ⟨M_4, Or.inl ⟨⟨by omega, by omega, t3⟩, ⟨Nat.le_refl _, by omega, P_4, r9, by rw [eM_4, su_f (by decide), eM_3, su_f (by decide), eM_2, su_f (by decide), eM_1]; exact su_s, by rw [eM_4, su_f (by decide), eM_3, su_f (by decide), eM_2]; exact su_s, fun f hf => by rw [eM_4, su_f ((show ∀ x ∈ mKP, x ≠ 2 by decide) f hf), eM_3, su_f ((show ∀ x ∈ mKP, x ≠ 3 by decide) f hf), eM_2, su_f ((show ∀ x ∈ mKP, x ≠ 17 by decide) f hf), eM_1, su_f ((show ∀ x ∈ mKP, x ≠ 0 by decide) f hf)], ((((FA.rf.up eh_1 (by omega)).up eh_2 (by omega)).up eh_3 (by omega)).up eh_4 (by omega))⟩, congrArg (fun x => some (JV x)) s2.symm⟩⟩
                        · exact absurd c_161 (by omega)
                      · exact absurd c_117 (by omega)
                · exact absurd c_64 (by omega)
              · refine wp_iconst dX11_setFree_52 ?_
                refine wp_goto 57 dX11_setFree_53 (by decide) ?_
                refine wp_put fkX11_88 dX11_setFree_57 (P.s0 r) rfl rfl (Nat.le_of_ble_eq_true rfl) ?_
                obtain ⟨h_1, eh_1⟩ : ∃ hh9 : AH, hh9 = hup h (cB G + 169) (eO 11 [JV 3, .ref (cB G + 170), .ref (cB G + 171), .ref (cB G + 172), .ref (cB G + 177), .ref (cB G + 178), JV (S 13 0 0), .ref (cB G + 179), .ref (cB G + 180), .ref (cB G + 181), .ref (cB G + 182), .ref (cB G + 183), .ref (cB G + 208), .ref (cB G + 209), JV (S 14 0 0), .ref (cB G + 212), JV (S 15 0 0), JV (M 17 0 0), .ref (cB G + 253), .ref (cB G + 254), .ref (cB G + 257), .ref (cB G + 260), .ref (cB G + 261), .ref (cB G + 264), JV (M 24 0 0), JV (M 25 0 0), JV (M 26 0 0), .ref (cB G + 265), JV (M 28 0 0), .ref (cB G + 270), .ref (cB G + 273), .ref (cB G + 274), .ref (cB G + 275), .ref (cB G + 276), .long z]) := ⟨_, rfl⟩
                refine WP.heq eh_1 ?_
                obtain ⟨M_1, eM_1⟩ : ∃ ss9 : ST, ss9 = su M 0 0 0 3 := ⟨_, rfl⟩
                have P_1 : MP G (N) M_1 L z h_1 := by rw [eM_1]; exact P.sc (f := 0) (v := 3) (by decide) (eh_1.trans (by simp [cMod, su, r.2.2.1.1, r.2.2.1.2.1, r.2.2.1.2.2]))
                have r_1 : RS S M_1 := by rw [eM_1]; exact r.der (by decide)
                refine wp_aload_n dX11_setFree_60 rfl ?_
                refine wp_get fkX11_88 dX11_setFree_61 (P_1.s0 r_1) rfl ?_
                rw [show M_1 0 0 0 = 3 by rw [eM_1]; exact su_s]
                refine wp_if_le 69 dX11_setFree_64 (by decide) ⟨by omega, by omega⟩ (fun c_64 => ?_) (fun c_64 => ?_)
                · exact absurd c_64 (by decide)
                · refine wp_iconst dX11_setFree_67 ?_
                  refine wp_zret dX11_setFree_68 rfl (by omega) ?_
                  exact ⟨M_1, Or.inr (Or.inr (Or.inr ⟨⟨by omega, by omega, fun q => q ⟨rfl, s2, show 12 ≤ S 1 c9 0 by omega⟩⟩, ⟨Nat.le_refl _, by omega, P_1, r_1, by rw [eM_1]; exact su_s, fun f h0 => by rw [eM_1, su_f h0], FA.rf.up eh_1 (by omega)⟩, rfl⟩))⟩
      · have s9 := s2
        rcases hv with rfl | rfl
        · change WP G mX11_setFree _ _ _ _ h N 27 [some (.ref (cB G + 169)), some (JV (c9 : Int)), some (JV (d9 : Int)), some (JV 0), none] [.ref (cB G + 169)]
          refine wp_iload_n dX11_setFree_27 rfl ?_
          refine wp_if_eq 56 dX11_setFree_28 (by decide) ⟨by omega, by omega⟩ (fun c_28 => ?_) (fun c_28 => ?_)
          · have t3 : ¬ (((0 : Int)) = 1 ∧ S 2 (c9 : Int).toNat (d9 : Int).toNat = 0 ∧ 12 ≤ S 1 (c9 : Int).toNat 0) := fun q => by omega
            have fr : FRS S S' c9 d9 0 := hS (by omega) (by omega) t3
            refine wp_iconst dX11_setFree_56 ?_
            refine wp_put fkX11_88 dX11_setFree_57 (P.s0 r) rfl rfl (Nat.le_of_ble_eq_true rfl) ?_
            obtain ⟨h_1, eh_1⟩ : ∃ hh9 : AH, hh9 = hup h (cB G + 169) (eO 11 [JV 0, .ref (cB G + 170), .ref (cB G + 171), .ref (cB G + 172), .ref (cB G + 177), .ref (cB G + 178), JV (S 13 0 0), .ref (cB G + 179), .ref (cB G + 180), .ref (cB G + 181), .ref (cB G + 182), .ref (cB G + 183), .ref (cB G + 208), .ref (cB G + 209), JV (S 14 0 0), .ref (cB G + 212), JV (S 15 0 0), JV (M 17 0 0), .ref (cB G + 253), .ref (cB G + 254), .ref (cB G + 257), .ref (cB G + 260), .ref (cB G + 261), .ref (cB G + 264), JV (M 24 0 0), JV (M 25 0 0), JV (M 26 0 0), .ref (cB G + 265), JV (M 28 0 0), .ref (cB G + 270), .ref (cB G + 273), .ref (cB G + 274), .ref (cB G + 275), .ref (cB G + 276), .long z]) := ⟨_, rfl⟩
            refine WP.heq eh_1 ?_
            obtain ⟨M_1, eM_1⟩ : ∃ ss9 : ST, ss9 = su M 0 0 0 0 := ⟨_, rfl⟩
            have P_1 : MP G (N) M_1 L z h_1 := by rw [eM_1]; exact P.sc (f := 0) (v := 0) (by decide) (eh_1.trans (by simp [cMod, su, r.2.2.1.1, r.2.2.1.2.1, r.2.2.1.2.2]))
            have r_1 : RS S M_1 := by rw [eM_1]; exact r.der (by decide)
            refine wp_aload_n dX11_setFree_60 rfl ?_
            refine wp_get fkX11_88 dX11_setFree_61 (P_1.s0 r_1) rfl ?_
            rw [show M_1 0 0 0 = 0 by rw [eM_1]; exact su_s]
            refine wp_if_le 69 dX11_setFree_64 (by decide) ⟨by omega, by omega⟩ (fun c_64 => ?_) (fun c_64 => ?_)
            · refine wp_aload_n dX11_setFree_69 rfl ?_
              refine wp_iload_n dX11_setFree_70 rfl ?_
              refine wp_iload_n dX11_setFree_71 rfl ?_
              refine wp_v2p (m_freeAt (N := N) P_1 r_1 w (c := c9) (d := (d9 : Int)) (by omega) ⟨by omega, by omega⟩) cvX11_102 dX11_setFree_72 ⟨Nat.le_of_ble_eq_true rfl, Nat.le_of_ble_eq_true rfl⟩ (Nat.le_of_ble_eq_true rfl) (P_1.s0 r_1) rfl rfl ?_
              obtain ⟨k9, k1, fa1, k2⟩ := frA_1 r_1 (t := c9) (d := d9) (by omega) (by omega) w s2
              rw [fa1]
              obtain ⟨n9, hn9⟩ : ∃ n9 : Nat, S 1 c9 0 = (n9 : Int) + 1 := ⟨(S 1 c9 0 - 1).toNat, by omega⟩
              have n12 : S 1 c9 0 ≤ 12 := (w.fc (c := c9) (by omega)).2
              have m1c : M_1 2 c9 0 = S 1 c9 0 := (r_1.1 c9).2.1
              refine wp_istore dX11_setFree_75 (Nat.le_of_ble_eq_true rfl) rfl ?_
              change WP G mX11_setFree _ _ _ _ h_1 N 77 [some (.ref (cB G + 169)), some (JV (c9 : Int)), some (JV (d9 : Int)), some (JV 0), some (JV (k9 : Int))] []
              refine wp_aload_n dX11_setFree_77 rfl ?_
              refine wp_iconst dX11_setFree_78 ?_
              refine wp_put fkX11_175 dX11_setFree_79 P_1.c0 rfl rfl (Nat.le_of_ble_eq_true rfl) ?_
              obtain ⟨h_2, eh_2⟩ : ∃ hh9 : AH, hh9 = hup h_1 (cB G + 169) (eO 11 [JV (M_1 0 0 0), .ref (cB G + 170), .ref (cB G + 171), .ref (cB G + 172), .ref (cB G + 177), .ref (cB G + 178), JV (M_1 6 0 0), .ref (cB G + 179), .ref (cB G + 180), .ref (cB G + 181), .ref (cB G + 182), .ref (cB G + 183), .ref (cB G + 208), .ref (cB G + 209), JV (M_1 14 0 0), .ref (cB G + 212), JV (M_1 16 0 0), JV 0, .ref (cB G + 253), .ref (cB G + 254), .ref (cB G + 257), .ref (cB G + 260), .ref (cB G + 261), .ref (cB G + 264), JV (M_1 24 0 0), JV (M_1 25 0 0), JV (M_1 26 0 0), .ref (cB G + 265), JV (M_1 28 0 0), .ref (cB G + 270), .ref (cB G + 273), .ref (cB G + 274), .ref (cB G + 275), .ref (cB G + 276), .long z]) := ⟨_, rfl⟩
              refine WP.heq eh_2 ?_
              obtain ⟨M_2, eM_2⟩ : ∃ ss9 : ST, ss9 = su M_1 17 0 0 0 := ⟨_, rfl⟩
              have P_2 : MP G (N) M_2 L z h_2 := by rw [eM_2]; exact P_1.sc (f := 17) (v := 0) (by decide) (eh_2.trans (by simp [cMod, su]))
              refine wp_iload_n dX11_setFree_82 rfl ?_
              refine wp_if_eq 116 dX11_setFree_83 (by decide) ⟨by omega, by omega⟩ (fun c_83 => ?_) (fun c_83 => ?_)
              · refine wp_iload_n dX11_setFree_116 rfl ?_
                refine wp_if_ne 158 dX11_setFree_117 (by decide) ⟨by omega, by omega⟩ (fun c_117 => ?_) (fun c_117 => ?_)
                · exact absurd c_117 (by omega)
                · refine wp_iload dX11_setFree_120 rfl ?_
                  refine wp_iconst dX11_setFree_122 ?_
                  refine wp_icmp_eq 158 dX11_setFree_123 (by decide) ⟨by omega, by omega⟩ ⟨by omega, by omega⟩ (fun c_123 => ?_) (fun c_123 => ?_)
                  · exact absurd c_123 (by omega)
                  · refine wp_aload_n dX11_setFree_126 rfl ?_
                    refine wp_get fkX11_13 dX11_setFree_127 P_2.c0 rfl ?_
                    refine wp_iload_n dX11_setFree_130 rfl ?_
                    refine wp_dup2 dX11_setFree_131 rfl rfl ?_
                    refine wp_iaload dX11_setFree_132 P_2.c2 (by omega) (by omega) (by omega) ?_
                    change WP G mX11_setFree _ _ _ _ h_2 N 133 [some (.ref (cB G + 169)), some (JV (c9 : Int)), some (JV (d9 : Int)), some (JV 0), some (JV (k9 : Int))] [JV (M_2 2 c9 0), JV (c9 : Int), .ref (cB G + 171)]
                    refine wp_iconst dX11_setFree_133 ?_
                    refine wp_isub dX11_setFree_134 ?_
                    refine wp_iastore dX11_setFree_135 P_2.c2 (by omega) (by omega) (by omega) ?_
                    obtain ⟨h_3, eh_3⟩ : ∃ hh9 : AH, hh9 = hup h_2 (cB G + 171) (eI G 4 (fup (fun i => M_2 2 i 0) c9 ((M_2 2 c9 0) - 1))) := ⟨_, rfl⟩
                    refine WP.heq eh_3 ?_
                    obtain ⟨M_3, eM_3⟩ : ∃ ss9 : ST, ss9 = su M_2 2 c9 0 ((M_2 2 c9 0) - 1) := ⟨_, rfl⟩
                    have P_3 : MP G (N) M_3 L z h_3 := by rw [eM_3]; exact P_2.u1 (q := (2, 171, 4, false)) (i := c9) (v := (M_2 2 c9 0) - 1) (by decide) eh_3
                    refine wp_aload_n dX11_setFree_136 rfl ?_
                    refine wp_get fkX11_18 dX11_setFree_137 P_3.c0 rfl ?_
                    refine wp_iload_n dX11_setFree_140 rfl ?_
                    refine wp_aaload dX11_setFree_141 P_3.q3 rfl rfl (by omega) (by omega) (by omega) (if_pos (by omega)) ?_
                    change WP G mX11_setFree _ _ _ _ h_3 N 142 [some (.ref (cB G + 169)), some (JV (c9 : Int)), some (JV (d9 : Int)), some (JV 0), some (JV (k9 : Int))] [.ref (cB G + 173 + c9)]
                    refine wp_iload dX11_setFree_142 rfl ?_
                    refine wp_aload_n dX11_setFree_144 rfl ?_
                    refine wp_get fkX11_18 dX11_setFree_145 P_3.c0 rfl ?_
                    refine wp_iload_n dX11_setFree_148 rfl ?_
                    refine wp_aaload dX11_setFree_149 P_3.q3 rfl rfl (by omega) (by omega) (by omega) (if_pos (by omega)) ?_
                    change WP G mX11_setFree _ _ _ _ h_3 N 150 [some (.ref (cB G + 169)), some (JV (c9 : Int)), some (JV (d9 : Int)), some (JV 0), some (JV (k9 : Int))] [.ref (cB G + 173 + c9), JV (k9 : Int), .ref (cB G + 173 + c9)]
                    refine wp_aload_n dX11_setFree_150 rfl ?_
                    refine wp_get fkX11_13 dX11_setFree_151 P_3.c0 rfl ?_
                    refine wp_iload_n dX11_setFree_154 rfl ?_
                    refine wp_iaload dX11_setFree_155 P_3.c2 (by omega) (by omega) (by omega) ?_
                    change WP G mX11_setFree _ _ _ _ h_3 N 156 [some (.ref (cB G + 169)), some (JV (c9 : Int)), some (JV (d9 : Int)), some (JV 0), some (JV (k9 : Int))] [JV (M_3 2 c9 0), .ref (cB G + 173 + c9), JV (k9 : Int), .ref (cB G + 173 + c9)]
                    rw [show M_3 2 c9 0 = (n9 : Int) by rw [eM_3, su_s, eM_2, su_f (by decide), m1c]; omega]
                    refine wp_iaload dX11_setFree_156 (P_3.r3 (i := c9) (by omega)) (by omega) (by omega) (by omega) ?_
                    change WP G mX11_setFree _ _ _ _ h_3 N 157 [some (.ref (cB G + 169)), some (JV (c9 : Int)), some (JV (d9 : Int)), some (JV 0), some (JV (k9 : Int))] [JV (M_3 3 c9 n9), JV (k9 : Int), .ref (cB G + 173 + c9)]
                    refine wp_iastore dX11_setFree_157 (P_3.r3 (i := c9) (by omega)) (by omega) (by omega) (by omega) ?_
                    obtain ⟨h_4, eh_4⟩ : ∃ hh9 : AH, hh9 = hup h_3 (cB G + 173 + c9) (eI G 12 (fup (fun j9 => M_3 3 c9 j9) k9 (M_3 3 c9 n9))) := ⟨_, rfl⟩
                    refine WP.heq eh_4 ?_
                    obtain ⟨M_4, eM_4⟩ : ∃ ss9 : ST, ss9 = su M_3 3 c9 k9 (M_3 3 c9 n9) := ⟨_, rfl⟩
                    have P_4 : MP G (N) M_4 L z h_4 := by rw [eM_4]; exact P_3.u2 (q := (3, 172, 4, 12)) (i := c9) (j := k9) (v := M_3 3 c9 n9) (by decide) (show c9 < 4 by omega) eh_4
                    refine wp_iload dX11_setFree_158 rfl ?_
                    refine wp_iconst dX11_setFree_160 ?_
                    refine wp_icmp_eq 168 dX11_setFree_161 (by decide) ⟨by omega, by omega⟩ ⟨by omega, by omega⟩ (fun c_161 => ?_) (fun c_161 => ?_)
                    · exact absurd c_161 (by omega)
                    · refine wp_iconst dX11_setFree_164 ?_
                      refine wp_goto 169 dX11_setFree_165 (by decide) ?_
                      refine wp_zret dX11_setFree_169 rfl (by omega) ?_
                      have r9 : RS S' M_4 := RS_fr r_1 fr (fun f hf h2 h3 => by rw [eM_4, su_f h3, eM_3, su_f h2, eM_2, su_f ((show ∀ x ∈ mBS, x ≠ 17 by decide) f hf)]) (fun c hc => ⟨by rw [eM_4, su_f (by decide), eM_3, su_i hc, eM_2, su_f (by decide)], by rw [eM_4, su_rown hc, eM_3, su_f (by decide), eM_2, su_f (by decide)]⟩) (by have := fr.2.2.2.2; rw [eM_4, su_f (by decide), eM_3, su_s, eM_2, su_f (by decide), m1c]; omega) (FR5.rem r_1 (by omega) fr s2 hn9 (i := k9) (by omega) k2 (by rw [eM_4, su_row, eM_3, su_f (by decide), eM_2, su_f (by decide)]))
                      exact ⟨M_4, Or.inl ⟨⟨by omega, by omega, t3⟩, ⟨Nat.le_refl _, by omega, P_4, r9, by rw [eM_4, su_f (by decide), eM_3, su_f (by decide), eM_2, su_f (by decide), eM_1]; exact su_s, by rw [eM_4, su_f (by decide), eM_3, su_f (by decide), eM_2]; exact su_s, fun f hf => by rw [eM_4, su_f ((show ∀ x ∈ mKP, x ≠ 3 by decide) f hf), eM_3, su_f ((show ∀ x ∈ mKP, x ≠ 2 by decide) f hf), eM_2, su_f ((show ∀ x ∈ mKP, x ≠ 17 by decide) f hf), eM_1, su_f ((show ∀ x ∈ mKP, x ≠ 0 by decide) f hf)], ((((FA.rf.up eh_1 (by omega)).up eh_2 (by omega)).up eh_3 (by omega)).up eh_4 (by omega))⟩, congrArg (fun x => some (JV x)) s2.symm⟩⟩
              · exact absurd c_83 (by omega)
            · exact absurd c_64 (by omega)
          · exact absurd c_28 (by decide)
        · change WP G mX11_setFree _ _ _ _ h N 27 [some (.ref (cB G + 169)), some (JV (c9 : Int)), some (JV (d9 : Int)), some (JV 1), none] [.ref (cB G + 169)]
          have n12 := w.fc (c := c9) (by omega)
          obtain ⟨k8, k81, fa, k82⟩ := frA_1 r (t := c9) (d := d9) (by omega) (by omega) w s2
          refine wp_iload_n dX11_setFree_27 rfl ?_
          refine wp_if_eq 56 dX11_setFree_28 (by decide) ⟨by omega, by omega⟩ (fun c_28 => ?_) (fun c_28 => ?_)
          · exact absurd c_28 (by decide)
          · refine wp_aload_n dX11_setFree_31 rfl ?_
            refine wp_iload_n dX11_setFree_32 rfl ?_
            refine wp_iload_n dX11_setFree_33 rfl ?_
            refine wp_v2p (m_freeAt (N := N) P r w (c := c9) (d := (d9 : Int)) (by omega) ⟨by omega, by omega⟩) cvX11_102 dX11_setFree_34 ⟨Nat.le_of_ble_eq_true rfl, Nat.le_of_ble_eq_true rfl⟩ (Nat.le_of_ble_eq_true rfl) (P.s0 r) rfl rfl ?_
            rw [fa]
            refine wp_iconst dX11_setFree_37 ?_
            refine wp_icmp_ne 56 dX11_setFree_38 (by decide) ⟨by omega, by omega⟩ ⟨by omega, by omega⟩ (fun c_38 => ?_) (fun c_38 => ?_)
            · have t3 : ¬ (((1 : Int)) = 1 ∧ S 2 (c9 : Int).toNat (d9 : Int).toNat = 0 ∧ 12 ≤ S 1 (c9 : Int).toNat 0) := fun q => by have q2 : S 2 c9 d9 = 0 := q.2.1; omega
              have fr : FRS S S' c9 d9 1 := hS (by omega) (by omega) t3
              refine wp_iconst dX11_setFree_56 ?_
              refine wp_put fkX11_88 dX11_setFree_57 (P.s0 r) rfl rfl (Nat.le_of_ble_eq_true rfl) ?_
              obtain ⟨h_1, eh_1⟩ : ∃ hh9 : AH, hh9 = hup h (cB G + 169) (eO 11 [JV 0, .ref (cB G + 170), .ref (cB G + 171), .ref (cB G + 172), .ref (cB G + 177), .ref (cB G + 178), JV (S 13 0 0), .ref (cB G + 179), .ref (cB G + 180), .ref (cB G + 181), .ref (cB G + 182), .ref (cB G + 183), .ref (cB G + 208), .ref (cB G + 209), JV (S 14 0 0), .ref (cB G + 212), JV (S 15 0 0), JV (M 17 0 0), .ref (cB G + 253), .ref (cB G + 254), .ref (cB G + 257), .ref (cB G + 260), .ref (cB G + 261), .ref (cB G + 264), JV (M 24 0 0), JV (M 25 0 0), JV (M 26 0 0), .ref (cB G + 265), JV (M 28 0 0), .ref (cB G + 270), .ref (cB G + 273), .ref (cB G + 274), .ref (cB G + 275), .ref (cB G + 276), .long z]) := ⟨_, rfl⟩
              refine WP.heq eh_1 ?_
              obtain ⟨M_1, eM_1⟩ : ∃ ss9 : ST, ss9 = su M 0 0 0 0 := ⟨_, rfl⟩
              have P_1 : MP G (N) M_1 L z h_1 := by rw [eM_1]; exact P.sc (f := 0) (v := 0) (by decide) (eh_1.trans (by simp [cMod, su, r.2.2.1.1, r.2.2.1.2.1, r.2.2.1.2.2]))
              have r_1 : RS S M_1 := by rw [eM_1]; exact r.der (by decide)
              refine wp_aload_n dX11_setFree_60 rfl ?_
              refine wp_get fkX11_88 dX11_setFree_61 (P_1.s0 r_1) rfl ?_
              rw [show M_1 0 0 0 = 0 by rw [eM_1]; exact su_s]
              refine wp_if_le 69 dX11_setFree_64 (by decide) ⟨by omega, by omega⟩ (fun c_64 => ?_) (fun c_64 => ?_)
              · refine wp_aload_n dX11_setFree_69 rfl ?_
                refine wp_iload_n dX11_setFree_70 rfl ?_
                refine wp_iload_n dX11_setFree_71 rfl ?_
                refine wp_v2p (m_freeAt (N := N) P_1 r_1 w (c := c9) (d := (d9 : Int)) (by omega) ⟨by omega, by omega⟩) cvX11_102 dX11_setFree_72 ⟨Nat.le_of_ble_eq_true rfl, Nat.le_of_ble_eq_true rfl⟩ (Nat.le_of_ble_eq_true rfl) (P_1.s0 r_1) rfl rfl ?_
                obtain ⟨k9, k1, fa1, k2⟩ := frA_1 r_1 (t := c9) (d := d9) (by omega) (by omega) w s2
                rw [fa1]
                obtain ⟨n9, hn9⟩ : ∃ n9 : Nat, S 1 c9 0 = (n9 : Int) + 1 := ⟨(S 1 c9 0 - 1).toNat, by omega⟩
                have n12 : S 1 c9 0 ≤ 12 := (w.fc (c := c9) (by omega)).2
                have m1c : M_1 2 c9 0 = S 1 c9 0 := (r_1.1 c9).2.1
                refine wp_istore dX11_setFree_75 (Nat.le_of_ble_eq_true rfl) rfl ?_
                change WP G mX11_setFree _ _ _ _ h_1 N 77 [some (.ref (cB G + 169)), some (JV (c9 : Int)), some (JV (d9 : Int)), some (JV 1), some (JV (k9 : Int))] []
                refine wp_aload_n dX11_setFree_77 rfl ?_
                refine wp_iconst dX11_setFree_78 ?_
                refine wp_put fkX11_175 dX11_setFree_79 P_1.c0 rfl rfl (Nat.le_of_ble_eq_true rfl) ?_
                obtain ⟨h_2, eh_2⟩ : ∃ hh9 : AH, hh9 = hup h_1 (cB G + 169) (eO 11 [JV (M_1 0 0 0), .ref (cB G + 170), .ref (cB G + 171), .ref (cB G + 172), .ref (cB G + 177), .ref (cB G + 178), JV (M_1 6 0 0), .ref (cB G + 179), .ref (cB G + 180), .ref (cB G + 181), .ref (cB G + 182), .ref (cB G + 183), .ref (cB G + 208), .ref (cB G + 209), JV (M_1 14 0 0), .ref (cB G + 212), JV (M_1 16 0 0), JV 0, .ref (cB G + 253), .ref (cB G + 254), .ref (cB G + 257), .ref (cB G + 260), .ref (cB G + 261), .ref (cB G + 264), JV (M_1 24 0 0), JV (M_1 25 0 0), JV (M_1 26 0 0), .ref (cB G + 265), JV (M_1 28 0 0), .ref (cB G + 270), .ref (cB G + 273), .ref (cB G + 274), .ref (cB G + 275), .ref (cB G + 276), .long z]) := ⟨_, rfl⟩
                refine WP.heq eh_2 ?_
                obtain ⟨M_2, eM_2⟩ : ∃ ss9 : ST, ss9 = su M_1 17 0 0 0 := ⟨_, rfl⟩
                have P_2 : MP G (N) M_2 L z h_2 := by rw [eM_2]; exact P_1.sc (f := 17) (v := 0) (by decide) (eh_2.trans (by simp [cMod, su]))
                refine wp_iload_n dX11_setFree_82 rfl ?_
                refine wp_if_eq 116 dX11_setFree_83 (by decide) ⟨by omega, by omega⟩ (fun c_83 => ?_) (fun c_83 => ?_)
                · exact absurd c_83 (by omega)
                · refine wp_iload dX11_setFree_86 rfl ?_
                  refine wp_iconst dX11_setFree_88 ?_
                  refine wp_icmp_ne 116 dX11_setFree_89 (by decide) ⟨by omega, by omega⟩ ⟨by omega, by omega⟩ (fun c_89 => ?_) (fun c_89 => ?_)
                  · refine wp_iload_n dX11_setFree_116 rfl ?_
                    refine wp_if_ne 158 dX11_setFree_117 (by decide) ⟨by omega, by omega⟩ (fun c_117 => ?_) (fun c_117 => ?_)
                    · refine wp_iload dX11_setFree_158 rfl ?_
                      refine wp_iconst dX11_setFree_160 ?_
                      refine wp_icmp_eq 168 dX11_setFree_161 (by decide) ⟨by omega, by omega⟩ ⟨by omega, by omega⟩ (fun c_161 => ?_) (fun c_161 => ?_)
                      · exact absurd c_161 (by omega)
                      · refine wp_iconst dX11_setFree_164 ?_
                        refine wp_goto 169 dX11_setFree_165 (by decide) ?_
                        refine wp_zret dX11_setFree_169 rfl (by omega) ?_
                        have r9 : RS S' M_2 := RS_fr r_1 fr (fun f hf h2 h3 => by rw [eM_2, su_f ((show ∀ x ∈ mBS, x ≠ 17 by decide) f hf)]) (fun c hc => ⟨by rw [eM_2, su_f (by decide)], by rw [eM_2, su_f (by decide)]⟩) (by have := fr.2.2.2.2; rw [eM_2, su_f (by decide), m1c]; omega) (FR5.same r_1 (by omega) fr s2 (by rw [eM_2, su_f (by decide)]))
                        exact ⟨M_2, Or.inl ⟨⟨by omega, by omega, t3⟩, ⟨Nat.le_refl _, by omega, P_2, r9, by rw [eM_2, su_f (by decide), eM_1]; exact su_s, by rw [eM_2]; exact su_s, fun f hf => by rw [eM_2, su_f ((show ∀ x ∈ mKP, x ≠ 17 by decide) f hf), eM_1, su_f ((show ∀ x ∈ mKP, x ≠ 0 by decide) f hf)], ((FA.rf.up eh_1 (by omega)).up eh_2 (by omega))⟩, congrArg (fun x => some (JV x)) s2.symm⟩⟩
                    · exact absurd c_117 (by omega)
                  · exact absurd c_89 (by omega)
              · exact absurd c_64 (by omega)
            · exact absurd c_38 (by omega)
    · refine wp_iconst dX11_setFree_23 ?_
      refine wp_goto 57 dX11_setFree_24 (by decide) ?_
      refine wp_put fkX11_88 dX11_setFree_57 (P.s0 r) rfl rfl (Nat.le_of_ble_eq_true rfl) ?_
      obtain ⟨h_1, eh_1⟩ : ∃ hh9 : AH, hh9 = hup h (cB G + 169) (eO 11 [JV 2, .ref (cB G + 170), .ref (cB G + 171), .ref (cB G + 172), .ref (cB G + 177), .ref (cB G + 178), JV (S 13 0 0), .ref (cB G + 179), .ref (cB G + 180), .ref (cB G + 181), .ref (cB G + 182), .ref (cB G + 183), .ref (cB G + 208), .ref (cB G + 209), JV (S 14 0 0), .ref (cB G + 212), JV (S 15 0 0), JV (M 17 0 0), .ref (cB G + 253), .ref (cB G + 254), .ref (cB G + 257), .ref (cB G + 260), .ref (cB G + 261), .ref (cB G + 264), JV (M 24 0 0), JV (M 25 0 0), JV (M 26 0 0), .ref (cB G + 265), JV (M 28 0 0), .ref (cB G + 270), .ref (cB G + 273), .ref (cB G + 274), .ref (cB G + 275), .ref (cB G + 276), .long z]) := ⟨_, rfl⟩
      refine WP.heq eh_1 ?_
      obtain ⟨M_1, eM_1⟩ : ∃ ss9 : ST, ss9 = su M 0 0 0 2 := ⟨_, rfl⟩
      have P_1 : MP G (N) M_1 L z h_1 := by rw [eM_1]; exact P.sc (f := 0) (v := 2) (by decide) (eh_1.trans (by simp [cMod, su, r.2.2.1.1, r.2.2.1.2.1, r.2.2.1.2.2]))
      have r_1 : RS S M_1 := by rw [eM_1]; exact r.der (by decide)
      refine wp_aload_n dX11_setFree_60 rfl ?_
      refine wp_get fkX11_88 dX11_setFree_61 (P_1.s0 r_1) rfl ?_
      rw [show M_1 0 0 0 = 2 by rw [eM_1]; exact su_s]
      refine wp_if_le 69 dX11_setFree_64 (by decide) ⟨by omega, by omega⟩ (fun c_64 => ?_) (fun c_64 => ?_)
      · exact absurd c_64 (by decide)
      · refine wp_iconst dX11_setFree_67 ?_
        refine wp_zret dX11_setFree_68 rfl (by omega) ?_
        exact ⟨M_1, Or.inr (Or.inr (Or.inl ⟨⟨by omega, (fun q => by rw [decide_eq_true (show 0 ≤ d ∧ d ≤ 999 by omega)] at c_20; exact absurd c_20 (by decide))⟩, ⟨Nat.le_refl _, by omega, P_1, r_1, by rw [eM_1]; exact su_s, fun f h0 => by rw [eM_1, su_f h0], FA.rf.up eh_1 (by omega)⟩, rfl⟩))⟩
  · refine wp_iconst dX11_setFree_8 ?_
    refine wp_goto 57 dX11_setFree_9 (by decide) ?_
    refine wp_put fkX11_88 dX11_setFree_57 (P.s0 r) rfl rfl (Nat.le_of_ble_eq_true rfl) ?_
    obtain ⟨h_1, eh_1⟩ : ∃ hh9 : AH, hh9 = hup h (cB G + 169) (eO 11 [JV 1, .ref (cB G + 170), .ref (cB G + 171), .ref (cB G + 172), .ref (cB G + 177), .ref (cB G + 178), JV (S 13 0 0), .ref (cB G + 179), .ref (cB G + 180), .ref (cB G + 181), .ref (cB G + 182), .ref (cB G + 183), .ref (cB G + 208), .ref (cB G + 209), JV (S 14 0 0), .ref (cB G + 212), JV (S 15 0 0), JV (M 17 0 0), .ref (cB G + 253), .ref (cB G + 254), .ref (cB G + 257), .ref (cB G + 260), .ref (cB G + 261), .ref (cB G + 264), JV (M 24 0 0), JV (M 25 0 0), JV (M 26 0 0), .ref (cB G + 265), JV (M 28 0 0), .ref (cB G + 270), .ref (cB G + 273), .ref (cB G + 274), .ref (cB G + 275), .ref (cB G + 276), .long z]) := ⟨_, rfl⟩
    refine WP.heq eh_1 ?_
    obtain ⟨M_1, eM_1⟩ : ∃ ss9 : ST, ss9 = su M 0 0 0 1 := ⟨_, rfl⟩
    have P_1 : MP G (N) M_1 L z h_1 := by rw [eM_1]; exact P.sc (f := 0) (v := 1) (by decide) (eh_1.trans (by simp [cMod, su, r.2.2.1.1, r.2.2.1.2.1, r.2.2.1.2.2]))
    have r_1 : RS S M_1 := by rw [eM_1]; exact r.der (by decide)
    refine wp_aload_n dX11_setFree_60 rfl ?_
    refine wp_get fkX11_88 dX11_setFree_61 (P_1.s0 r_1) rfl ?_
    rw [show M_1 0 0 0 = 1 by rw [eM_1]; exact su_s]
    refine wp_if_le 69 dX11_setFree_64 (by decide) ⟨by omega, by omega⟩ (fun c_64 => ?_) (fun c_64 => ?_)
    · exact absurd c_64 (by decide)
    · refine wp_iconst dX11_setFree_67 ?_
      refine wp_zret dX11_setFree_68 rfl (by omega) ?_
      exact ⟨M_1, Or.inr (Or.inl ⟨(fun q => by rw [decide_eq_true (show 0 ≤ c ∧ c ≤ 3 by omega)] at c_5; exact absurd c_5 (by decide)), ⟨Nat.le_refl _, by omega, P_1, r_1, by rw [eM_1]; exact su_s, fun f h0 => by rw [eM_1, su_f h0], FA.rf.up eh_1 (by omega)⟩, rfl⟩)⟩

end Mfr

/-! ===== the reference: a free day told ===== -/
section Mfr
variable {G : Ctx} {h h1 : AH} {N : Nat} {S S' M M' : ST} {L L' : Nat → Nat} {z : Int64} {K : KTup}
/-- a day set free or not -/
def FRS (S S' : ST) (t d : Nat) (v : Int) : Prop := (∀ f, f ≠ 1 → f ≠ 2 → S' f = S f) ∧ (∀ c' d', (c' ≠ t ∨ d' ≠ d) → S' 2 c' d' = S 2 c' d') ∧ S' 2 t d = v ∧ (∀ c', c' ≠ t → S' 1 c' 0 = S 1 c' 0) ∧ S' 1 t 0 = S 1 t 0 + v - S 2 t d
theorem wsum_one {f g : Nat → Int} {d : Nat} (e : ∀ x, x ≠ d → g x = f x) : ∀ n, wsum g n = wsum f n + (if d < n then g d - f d else 0)
  | 0 => by rw [if_neg (by omega)]; rfl
  | n + 1 => by
    rw [wsum, wsum, wsum_one e n]
    by_cases hn : n = d
    · rw [hn, if_neg (by omega), if_pos (by omega)]; omega
    · rw [e n hn]
      by_cases hd : d < n
      · rw [if_pos hd, if_pos (by omega)]; omega
      · rw [if_neg hd, if_neg (by omega)]; omega
theorem FRS.of {t d : Nat} {v : Int} (x : XI S) (x' : XI S') (ht : t < 4) (hd : d < 1000) (a : ∀ f, f ≠ 1 → f ≠ 2 → S' f = S f) (b : ∀ c' d', (c' ≠ t ∨ d' ≠ d) → S' 2 c' d' = S 2 c' d') (c : S' 2 t d = v) (e : ∀ c', c' ≠ t → S' 1 c' 0 = S 1 c' 0) : FRS S S' t d v := by
  refine ⟨a, b, c, e, ?_⟩
  rw [x'.1 t ht, x.1 t ht, wsum_one (f := fun d => S 2 t d) (g := fun d => S' 2 t d) (d := d) (fun y hy => b t y (Or.inr hy)) 1000, if_pos hd]
  show wsum (fun d => S 2 t d) 1000 + (S' 2 t d - S 2 t d) = _
  rw [c]
  omega
def FR5 (S M : ST) (t : Nat) : Prop := (∀ k : Nat, (k : Int) < S 1 t 0 → (0 ≤ M 3 t k ∧ M 3 t k ≤ 999) ∧ S 2 t (M 3 t k).toNat = 1) ∧ (∀ d : Nat, d < 1000 → S 2 t d = 1 → ∃ k : Nat, (k : Int) < S 1 t 0 ∧ M 3 t k = (d : Int)) ∧ ∀ k k' : Nat, (k : Int) < S 1 t 0 → (k' : Int) < S 1 t 0 → M 3 t k = M 3 t k' → k = k'
theorem RS_fr {t d : Nat} {v : Int} (r : RS S M) (fr : FRS S S' t d v) (m1 : ∀ f ∈ mBS, f ≠ 2 → f ≠ 3 → M' f = M f) (m2 : ∀ c, c ≠ t → M' 2 c 0 = M 2 c 0 ∧ M' 3 c = M 3 c) (m3 : M' 2 t 0 = S' 1 t 0) (m5 : FR5 S' M' t) : RS S' M' := by
  obtain ⟨a, b, c, q, f⟩ := r
  obtain ⟨e, e2, e3, e4, e5⟩ := fr
  unfold RS lF lT lK lG
  unfold lF lT lK lG at q
  simp only [e 0 (by decide) (by decide), e 3 (by decide) (by decide), e 4 (by decide) (by decide), e 5 (by decide) (by decide), e 6 (by decide) (by decide), e 7 (by decide) (by decide), e 8 (by decide) (by decide), e 9 (by decide) (by decide), e 10 (by decide) (by decide), e 11 (by decide) (by decide), e 12 (by decide) (by decide), e 13 (by decide) (by decide), e 14 (by decide) (by decide), e 15 (by decide) (by decide), e 18 (by decide) (by decide), e 19 (by decide) (by decide), e 20 (by decide) (by decide), e 21 (by decide) (by decide), e 22 (by decide) (by decide), m1 1 (by decide) (by decide) (by decide), m1 4 (by decide) (by decide) (by decide), m1 5 (by decide) (by decide) (by decide), m1 6 (by decide) (by decide) (by decide), m1 7 (by decide) (by decide) (by decide), m1 8 (by decide) (by decide) (by decide), m1 9 (by decide) (by decide) (by decide), m1 10 (by decide) (by decide) (by decide), m1 11 (by decide) (by decide) (by decide), m1 12 (by decide) (by decide) (by decide), m1 13 (by decide) (by decide) (by decide), m1 14 (by decide) (by decide) (by decide), m1 15 (by decide) (by decide) (by decide), m1 16 (by decide) (by decide) (by decide)]
  refine ⟨fun x => ⟨(a x).1, ?_, (a x).2.2⟩, b, c, q, fun x hx => ?_⟩
  · by_cases hxt : x = t
    · rw [hxt]; exact m3
    · rw [(m2 x hxt).1, e4 x hxt]; exact (a x).2.1
  · by_cases hxt : x = t
    · rw [hxt]; exact m5
    · rw [(m2 x hxt).2, e4 x hxt, show S' 2 x = S 2 x from funext fun y => e2 x y (Or.inl hxt)]
      exact f x hx
theorem FR5.same {t d : Nat} {v : Int} (r : RS S M) (ht : t < 4) (fr : FRS S S' t d v) (hv : S 2 t d = v) (m : M' 3 t = M 3 t) : FR5 S' M' t := by
  obtain ⟨e, e2, e3, e4, e5⟩ := fr
  have q2 : S' 2 t = S 2 t := funext fun y => by
    by_cases hy : y = d
    · rw [hy, e3, hv]
    · exact e2 t y (Or.inr hy)
  have q1 : S' 1 t 0 = S 1 t 0 := by omega
  unfold FR5
  rw [q2, q1, m]
  exact r.2.2.2.2 t ht
theorem FR5.add {t d n : Nat} (r : RS S M) (ht : t < 4) (hd : d < 1000) (fr : FRS S S' t d 1) (h0 : S 2 t d = 0) (hn : S 1 t 0 = (n : Int)) (m : M' 3 t = fup (M 3 t) n (d : Int)) : FR5 S' M' t := by
  obtain ⟨e, e2, e3, e4, e5⟩ := fr
  obtain ⟨i1, i2, i3⟩ := r.2.2.2.2 t ht
  have q1 : S' 1 t 0 = (n : Int) + 1 := by omega
  have nd : ∀ k : Nat, k < n → M 3 t k ≠ (d : Int) := fun k hk q => by
    have := (i1 k (by omega)).2
    rw [q, show (d : Int).toNat = d from rfl] at this
    omega
  unfold FR5
  rw [q1, m]
  refine ⟨fun k hk => ?_, fun x hx hs => ?_, fun k k' hk hk' q => ?_⟩
  · by_cases hkn : k = n
    · rw [hkn, fupe]; exact ⟨by omega, e3⟩
    · have a := i1 k (by omega)
      have b := nd k (by omega)
      rw [fupn hkn]; exact ⟨a.1, by rw [e2 t _ (Or.inr (by omega))]; exact a.2⟩
  · by_cases hxd : x = d
    · exact ⟨n, by omega, by rw [hxd]; exact fupe⟩
    · rw [e2 t x (Or.inr hxd)] at hs
      obtain ⟨k, k1, k2⟩ := i2 x hx hs
      exact ⟨k, by omega, by rw [fupn (by omega)]; exact k2⟩
  · by_cases h1 : k = n <;> by_cases h2 : k' = n
    · omega
    · rw [h1, fupe, fupn h2] at q; exact absurd q.symm (nd k' (by omega))
    · rw [h2, fupe, fupn h1] at q; exact absurd q (nd k (by omega))
    · rw [fupn h1, fupn h2] at q; exact i3 k k' (by omega) (by omega) q
theorem FR5.rem {t d n i : Nat} (r : RS S M) (ht : t < 4) (fr : FRS S S' t d 0) (h1 : S 2 t d = 1) (hn : S 1 t 0 = (n : Int) + 1) (hi : i < n + 1) (hd : M 3 t i = (d : Int)) (m : M' 3 t = fup (M 3 t) i (M 3 t n)) : FR5 S' M' t := by
  obtain ⟨e, e2, e3, e4, e5⟩ := fr
  obtain ⟨i1, i2, i3⟩ := r.2.2.2.2 t ht
  have q1 : S' 1 t 0 = (n : Int) := by omega
  have nd : ∀ k : Nat, k < n + 1 → k ≠ i → M 3 t k ≠ (d : Int) := fun k hk hki q => hki (i3 k i (by omega) (by omega) (q.trans hd.symm))
  have st : ∀ k : Nat, k < n + 1 → k ≠ i → (0 ≤ M 3 t k ∧ M 3 t k ≤ 999) ∧ S' 2 t (M 3 t k).toNat = 1 := fun k hk hki => by
    have a := i1 k (by omega)
    have b := nd k hk hki
    exact ⟨a.1, by rw [e2 t _ (Or.inr (by omega))]; exact a.2⟩
  unfold FR5
  rw [q1, m]
  refine ⟨fun k hk => ?_, fun x hx hs => ?_, fun k k' hk hk' q => ?_⟩
  · by_cases hki : k = i
    · rw [hki, fupe]; exact st n (by omega) (by omega)
    · rw [fupn hki]; exact st k (by omega) hki
  · have hxd : x ≠ d := fun q => by rw [q, e3] at hs; omega
    rw [e2 t x (Or.inr hxd)] at hs
    obtain ⟨k, k1, k2⟩ := i2 x hx hs
    have hki : k ≠ i := fun q => hxd (by rw [q, hd] at k2; omega)
    by_cases hkn : k = n
    · exact ⟨i, by omega, by rw [fupe, ← hkn]; exact k2⟩
    · exact ⟨k, by omega, by rw [fupn hki]; exact k2⟩
  · by_cases h1 : k = i <;> by_cases h2 : k' = i
    · omega
    · rw [h1, fupe, fupn h2] at q; have := i3 n k' (by omega) (by omega) q; omega
    · rw [h2, fupe, fupn h1] at q; have := i3 k n (by omega) (by omega) q; omega
    · rw [fupn h1, fupn h2] at q; exact i3 k k' (by omega) (by omega) q
theorem frA_0 {t d : Nat} (r : RS S M) (ht : t < 4) (hd : d < 1000) (w : WF S) (h0 : S 2 t d = 0) : frA (fun k => M 3 t k) (d : Int) (S 1 t 0).toNat = -1 := by
  rcases frA_r (f := fun k => M 3 t k) (d := (d : Int)) (S 1 t 0).toNat with ⟨a, b⟩ | ⟨k, a, b, c⟩
  · exact a
  · have q := ((r.2.2.2.2 t ht).1 k (by omega)).2
    rw [show M 3 t k = (d : Int) from c, show (d : Int).toNat = d from rfl] at q
    omega
theorem frA_1 {t d : Nat} (r : RS S M) (ht : t < 4) (hd : d < 1000) (w : WF S) (h1 : S 2 t d = 1) : ∃ k : Nat, (k : Int) < S 1 t 0 ∧ frA (fun k => M 3 t k) (d : Int) (S 1 t 0).toNat = (k : Int) ∧ M 3 t k = (d : Int) := by
  rcases frA_r (f := fun k => M 3 t k) (d := (d : Int)) (S 1 t 0).toNat with ⟨a, b⟩ | ⟨k, a, b, c⟩
  · obtain ⟨k, k1, k2⟩ := (r.2.2.2.2 t ht).2.1 d hd h1
    exact absurd k2 (b k (by omega))
  · exact ⟨k, by omega, b, c⟩
end Mfr

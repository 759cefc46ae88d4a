/-! ===== days: counts, ends, first and latest begins ===== -/
section Days
variable {wk : Nat → Bool}
/-- how many days are worked on ahead of a day -/
def Cn (wk : Nat → Bool) : Nat → Nat
  | 0 => 0
  | n + 1 => Cn wk n + (if wk n = true then 1 else 0)
theorem Cn_t {n : Nat} (h : wk n = true) : Cn wk (n + 1) = Cn wk n + 1 := by rw [Cn, if_pos h]
theorem Cn_f {n : Nat} (h : ¬ wk n = true) : Cn wk (n + 1) = Cn wk n := by rw [Cn, if_neg h]; rfl
theorem Cn_le (n : Nat) : Cn wk n ≤ Cn wk (n + 1) ∧ Cn wk (n + 1) ≤ Cn wk n + 1 := by
  rw [Cn]
  split <;> omega
theorem Cn_mono {a : Nat} : ∀ b, a ≤ b → Cn wk a ≤ Cn wk b
  | 0, h => by rw [show a = 0 by omega]; exact Nat.le_refl _
  | b + 1, h => by
    by_cases hb : a = b + 1
    · rw [hb]; exact Nat.le_refl _
    · exact Nat.le_trans (Cn_mono b (by omega)) (Cn_le b).1
theorem Cn_lt {a b : Nat} (h : wk a = true) (hab : a < b) : Cn wk a < Cn wk b := by
  have := Cn_mono (wk := wk) b (show a + 1 ≤ b by omega)
  rw [Cn_t h] at this
  omega
theorem cnt_C : ∀ n d, cnt wk n d = (Cn wk (d + n) : Int) - (Cn wk d : Int)
  | 0, d => by rw [cnt, Nat.add_zero]; omega
  | n + 1, d => by
    rw [cnt, cnt_C n (d + 1), show d + 1 + n = d + (n + 1) by omega]
    by_cases h : wk d = true
    · rw [bI_t h, Cn_t h]; omega
    · rw [bI_f (by simpa using h), Cn_f h]; omega
theorem endF_C : ∀ n d l y, y < d + n → (endF wk n d l ≤ y ↔ d ≤ y ∧ Cn wk d + l ≤ Cn wk y)
  | 0, d, l, y, h => by unfold endF; omega
  | n + 1, d, 0, y, h => by
    rw [endF]
    exact ⟨fun q => ⟨q, by have := Cn_mono (wk := wk) y q; omega⟩, fun q => q.1⟩
  | n + 1, d, l + 1, y, h => by
    rw [endF, endF_C n (d + 1) _ y (by omega)]
    have e : Cn wk (d + 1) + (if wk d = true then l else l + 1) = Cn wk d + (l + 1) := by
      by_cases hw : wk d = true
      · rw [if_pos hw, Cn_t hw]; omega
      · rw [if_neg hw, Cn_f hw]
    rw [e]
    constructor
    · intro q; exact ⟨by omega, q.2⟩
    · intro q
      refine ⟨?_, q.2⟩
      by_cases hy : y = d
      · subst hy; omega
      · omega
/-- some day of each week is worked on from day 1000 on -/
def WKP (wk : Nat → Bool) : Prop := ∀ d, 1000 ≤ d → ∃ x, d ≤ x ∧ x < d + 7 ∧ wk x = true
theorem Cn_7 (k : WKP wk) {d : Nat} (hd : 1000 ≤ d) : ∀ l, Cn wk d + l ≤ Cn wk (d + 7 * l)
  | 0 => Nat.le_refl _
  | l + 1 => by
    have a := Cn_7 k hd l
    obtain ⟨x, x1, x2, x3⟩ := k (d + 7 * l) (by omega)
    have b := Cn_mono (wk := wk) x x1
    have c := Cn_mono (wk := wk) (d + 7 * (l + 1)) (show x + 1 ≤ d + 7 * (l + 1) by omega)
    rw [Cn_t x3] at c
    omega
/-- the end, however far -/
def EN (wk : Nat → Bool) (l b : Nat) : Nat := endF wk 20000 b l
theorem EN_le {l b y : Nat} (hy : y < 20000) : EN wk l b ≤ y ↔ b ≤ y ∧ Cn wk b + l ≤ Cn wk y := endF_C 20000 b l y (by omega)
theorem EN_ge {l b : Nat} : b ≤ EN wk l b := (endF_le wk 20000 b l).2
theorem EN_r (k : WKP wk) {l b : Nat} (hb : b ≤ 10000) (hl : l ≤ 100) : EN wk l b ≤ max b 1000 + 7 * l := by
  rw [EN_le (by omega)]
  refine ⟨by omega, ?_⟩
  have a := Cn_7 k (d := max b 1000) (by omega) l
  have c := Cn_mono (wk := wk) (max b 1000) (show b ≤ max b 1000 by omega)
  omega
theorem EN_0 {b : Nat} (hb : b < 20000) : EN wk 0 b = b := by
  have a := (EN_le (wk := wk) (l := 0) (b := b) hb).mpr ⟨Nat.le_refl _, Nat.le_refl _⟩
  have c := EN_ge (wk := wk) (l := 0) (b := b)
  omega
theorem EN_mono {l b b' : Nat} (h : b ≤ b') (hy : EN wk l b' < 20000) : EN wk l b ≤ EN wk l b' := by
  have a := (EN_le (wk := wk) (l := l) (b := b') hy).mp (Nat.le_refl _)
  rw [EN_le hy]
  have c := Cn_mono (wk := wk) b' h
  omega
theorem E_eq {l b : Nat} (h : EN wk l b < 5000) : endF wk (5000 - b) b l = EN wk l b := by
  have g := EN_ge (wk := wk) (l := l) (b := b)
  have a := (endF_C (wk := wk) (5000 - b) b l (EN wk l b) (by omega)).mpr ((EN_le (by omega)).mp (Nat.le_refl _))
  have c := (EN_le (wk := wk) (l := l) (b := b) (y := endF wk (5000 - b) b l) (by omega)).mpr ((endF_C (wk := wk) (5000 - b) b l _ (by omega)).mp (Nat.le_refl _))
  omega
theorem nxt_s : ∀ n d, (∀ x, d ≤ x → x < nxt wk n d → ¬ wk x = true) ∧ (nxt wk n d < d + n → wk (nxt wk n d) = true)
  | 0, d => ⟨fun x h1 h2 => by rw [nxt] at h2; omega, fun h => by rw [nxt] at h; omega⟩
  | n + 1, d => by
    rw [nxt]
    by_cases h : wk d = true
    · rw [if_pos h]
      exact ⟨fun x h1 h2 => by omega, fun _ => h⟩
    · rw [if_neg h]
      have a := nxt_s n (d + 1)
      refine ⟨fun x h1 h2 => ?_, fun q => a.2 (by omega)⟩
      by_cases hx : x = d
      · rw [hx]; exact h
      · exact a.1 x (by omega) h2
theorem nxt_r (k : WKP wk) {d : Nat} (hd : d ≤ 4990) : d ≤ nxt wk (5000 - d) d ∧ nxt wk (5000 - d) d ≤ max d 1000 + 6 ∧ wk (nxt wk (5000 - d) d) = true ∧ ∀ b, wk b = true → (nxt wk (5000 - d) d ≤ b ↔ d ≤ b) := by
  have a := nxt_le wk (5000 - d) d
  have s := nxt_s (wk := wk) (5000 - d) d
  obtain ⟨x, x1, x2, x3⟩ := k (max d 1000) (by omega)
  have h1 : nxt wk (5000 - d) d ≤ x := by
    rcases Nat.lt_or_ge x (nxt wk (5000 - d) d) with q | q
    · exact absurd x3 (s.1 x (by omega) q)
    · exact q
  refine ⟨a.2, by omega, s.2 (by omega), fun b hb => ⟨fun q => by omega, fun q => ?_⟩⟩
  rcases Nat.lt_or_ge b (nxt wk (5000 - d) d) with z | z
  · exact absurd hb (s.1 b q z)
  · exact z
theorem cbk_C : ∀ n (l : Nat), 1 ≤ l → ∀ b : Nat, wk b = true → ((b : Int) ≤ cbk wk n (l : Int) ↔ b < n ∧ Cn wk b + l ≤ Cn wk n)
  | 0, l, _, b, _ => by rw [cbk]; omega
  | n + 1, l, hl, b, hb => by
    rw [cbk]
    by_cases h : wk n = true
    · rw [if_pos h, Cn_t h]
      by_cases h1 : l = 1
      · rw [if_pos (by omega)]
        constructor
        · intro q
          have := Cn_mono (wk := wk) n (show b ≤ n by omega)
          omega
        · intro q; omega
      · rw [if_neg (by omega), show (l : Int) - 1 = ((l - 1 : Nat) : Int) by omega, cbk_C n (l - 1) (by omega) b hb]
        constructor
        · intro q; omega
        · intro q
          by_cases hbn : b = n
          · subst hbn; omega
          · omega
    · rw [if_neg h, Cn_f h, cbk_C n l hl b hb]
      constructor
      · intro q; omega
      · intro q
        by_cases hbn : b = n
        · subst hbn; exact absurd hb h
        · omega
theorem cbk_w : ∀ n (l : Int), cbk wk n l = -1 ∨ ∃ q : Nat, cbk wk n l = (q : Int) ∧ q < n ∧ wk q = true
  | 0, l => Or.inl rfl
  | n + 1, l => by
    rw [cbk]
    have up : ∀ l : Int, cbk wk n l = -1 ∨ ∃ q : Nat, cbk wk n l = (q : Int) ∧ q < n + 1 ∧ wk q = true := fun l => by
      rcases cbk_w n l with a | ⟨q, a, b, c⟩
      · exact Or.inl a
      · exact Or.inr ⟨q, a, by omega, c⟩
    by_cases h : wk n = true
    · rw [if_pos h]
      split
      · exact Or.inr ⟨n, rfl, by omega, h⟩
      · exact up _
    · rw [if_neg h]
      exact up _
/-- the first day to begin on with which P holds -/
def LBq (wk : Nat → Bool) (l : Nat) (P : Nat → Prop) (y : Nat) : Prop := (l = 0 ∨ wk y = true) ∧ ∀ b, b < 20000 → (l = 0 ∨ wk b = true) → (y ≤ b ↔ P b)
theorem LBq.uniq {l : Nat} {P : Nat → Prop} {y y' : Nat} (a : LBq wk l P y) (b : LBq wk l P y') (hy : y < 20000) (hy' : y' < 20000) : y = y' := by
  have h1 := (a.2 y' hy' b.1).mpr ((b.2 y' hy' b.1).mp (Nat.le_refl _))
  have h2 := (b.2 y hy a.1).mpr ((a.2 y hy a.1).mp (Nat.le_refl _))
  omega
theorem LBq.congr {l : Nat} {P P' : Nat → Prop} {y : Nat} (a : LBq wk l P y) (h : ∀ b, b < 20000 → (l = 0 ∨ wk b = true) → (P b ↔ P' b)) : LBq wk l P' y := ⟨a.1, fun b hb ok => (a.2 b hb ok).trans (h b hb ok)⟩
theorem fbeg_LB (k : WKP wk) {l : Nat} {fr ef : Int} (hf : 0 ≤ fr ∧ fr ≤ 4900) (he : 0 ≤ ef ∧ ef ≤ 4900) : ∃ y : Nat, fbeg wk (l : Int) fr ef = (y : Int) ∧ (y : Int) ≤ max (max fr ef) 1000 + 6 ∧ LBq wk l (fun b => fr ≤ (b : Int) ∧ ef ≤ (EN wk l b : Int)) y := by
  by_cases hl : l = 0
  · subst hl
    refine ⟨(max fr ef).toNat, ?_, by omega, Or.inl rfl, fun b hb _ => ?_⟩
    · unfold fbeg
      rw [if_pos (by omega)]
      omega
    · show (max fr ef).toNat ≤ b ↔ fr ≤ (b : Int) ∧ ef ≤ (EN wk 0 b : Int)
      rw [EN_0 hb]
      omega
  · obtain ⟨f, rfl⟩ := Int.eq_ofNat_of_zero_le hf.1
    have hf := hf.2
    obtain ⟨g, eg⟩ : ∃ g : Nat, (max (ef - 1) 0).toNat = g := ⟨_, rfl⟩
    have r1 := nxt_r k (d := f) (by omega)
    have r2 := nxt_r k (d := g) (by omega)
    have s2 := nxt_s (wk := wk) (5000 - g) g
    obtain ⟨a, ea⟩ : ∃ a : Nat, nxt wk (5000 - f) f = a := ⟨_, rfl⟩
    obtain ⟨L, eL⟩ : ∃ L : Nat, nxt wk (5000 - g) g = L := ⟨_, rfl⟩
    have e : fbeg wk (l : Int) (f : Int) ef = max (a : Int) (cbk wk (L + 1) (l : Int)) := by
      unfold fbeg
      rw [if_neg (by omega), eg, show (max (f : Int) 0).toNat = f by omega, ea, eL]
    rw [e]
    rw [ea] at r1
    rw [eL] at r2 s2
    have CL : Cn wk (L + 1) = Cn wk L + 1 := Cn_t r2.2.2.1
    have CL2 : Cn wk L = Cn wk g := by
      have z : ∀ m, g + m ≤ L → Cn wk (g + m) = Cn wk g := fun m => by
        induction m with
        | zero => intro _; rfl
        | succ m ih =>
          intro h
          rw [show g + (m + 1) = (g + m) + 1 by omega, Cn_f (s2.1 (g + m) (by omega) (by omega)), ih (by omega)]
      have := z (L - g) (by omega)
      rw [show g + (L - g) = L by omega] at this
      exact this
    have key : ∀ b : Nat, b < 20000 → wk b = true → (cbk wk (L + 1) (l : Int) ≤ (b : Int) ↔ ef ≤ (EN wk l b : Int)) := fun b hb hw => by
      by_cases h0 : ef = 0
      · subst h0
        have hg : g = 0 := by omega
        subst hg
        refine ⟨fun _ => by omega, fun _ => ?_⟩
        rcases cbk_w (wk := wk) (L + 1) (l : Int) with q | ⟨q, q1, q2, q3⟩
        · omega
        · have c := (cbk_C (wk := wk) (L + 1) l (by omega) q q3).mp (by omega)
          rw [CL, CL2] at c
          rw [show Cn wk 0 = 0 from rfl] at c
          rw [q1]
          have : L ≤ b := by
            rcases Nat.lt_or_ge b L with z | z
            · exact absurd hw (s2.1 b (by omega) z)
            · exact z
          omega
      · have hg : (g : Int) = ef - 1 := by omega
        have en := EN_le (wk := wk) (l := l) (b := b) (y := g) (by omega)
        constructor
        · intro q
          rcases Int.lt_or_le (EN wk l b : Int) ef with z | z
          · have z2 := en.mp (by omega)
            rcases cbk_w (wk := wk) (L + 1) (l : Int) with u | ⟨u, u1, u2, u3⟩
            · have := (cbk_C (wk := wk) (L + 1) l (by omega) b hw).mpr ⟨by omega, by rw [CL, CL2]; omega⟩
              omega
            · have c := (cbk_C (wk := wk) (L + 1) l (by omega) b hw).mpr ⟨by omega, by rw [CL, CL2]; omega⟩
              have c2 := (cbk_C (wk := wk) (L + 1) l (by omega) u u3).mp (by omega)
              have : u = b := by omega
              subst this
              -- a day behind b is as good
              have hlt : Cn wk u + l < Cn wk (L + 1) := by rw [CL, CL2]; omega
              have : ∃ v, u < v ∧ wk v = true ∧ Cn wk v + l ≤ Cn wk (L + 1) ∧ v < L + 1 := by
                have : ∀ m, u + 1 + m ≤ L + 1 → (∀ v, u < v → v < u + 1 + m → ¬ wk v = true) ∨ ∃ v, u < v ∧ wk v = true ∧ Cn wk v ≤ Cn wk u + 1 ∧ v < u + 1 + m := fun m => by
                  induction m with
                  | zero => intro _; exact Or.inl (fun v h1 h2 => by omega)
                  | succ m ih =>
                    intro hm
                    rcases ih (by omega) with a | ⟨v, v1, v2, v3, v4⟩
                    · by_cases hv : wk (u + 1 + m) = true
                      · refine Or.inr ⟨u + 1 + m, by omega, hv, ?_, by omega⟩
                        have z : ∀ m', m' ≤ m → Cn wk (u + 1 + m') = Cn wk (u + 1) := fun m' => by
                          induction m' with
                          | zero => intro _; rfl
                          | succ m' ih2 =>
                            intro h
                            rw [show u + 1 + (m' + 1) = (u + 1 + m') + 1 by omega, Cn_f (a (u + 1 + m') (by omega) (by omega)), ih2 (by omega)]
                        rw [z m (Nat.le_refl _), Cn_t u3]
                        exact Nat.le_refl _
                      · refine Or.inl (fun v h1 h2 => ?_)
                        by_cases hvm : v = u + 1 + m
                        · rw [hvm]; exact hv
                        · exact a v h1 (by omega)
                    · exact Or.inr ⟨v, v1, v2, v3, by omega⟩
                rcases this (L - u) (by omega) with a | ⟨v, v1, v2, v3, v4⟩
                · by_cases huL : u = L
                  · subst huL; omega
                  · exact absurd r2.2.2.1 (a L (by omega) (by omega))
                · exact ⟨v, v1, v2, by omega, by omega⟩
              obtain ⟨v, v1, v2, v3, v4⟩ := this
              have := (cbk_C (wk := wk) (L + 1) l (by omega) v v2).mpr ⟨v4, v3⟩
              omega
          · exact z
        · intro q
          rcases cbk_w (wk := wk) (L + 1) (l : Int) with u | ⟨u, u1, u2, u3⟩
          · omega
          · rw [u1]
            rcases Nat.lt_or_ge b u with z | z
            · have c2 := (cbk_C (wk := wk) (L + 1) l (by omega) u u3).mp (by omega)
              rw [CL, CL2] at c2
              have c3 := Cn_lt hw z
              have hbg : b ≤ g := by
                rcases Nat.lt_or_ge g b with y | y
                · have := Cn_mono (wk := wk) b (show g ≤ b by omega)
                  omega
                · exact y
              have := en.mpr ⟨hbg, by omega⟩
              omega
            · omega
    rcases cbk_w (wk := wk) (L + 1) (l : Int) with q | ⟨q, q1, q2, q3⟩
    · refine ⟨a, by omega, by omega, Or.inr r1.2.2.1, fun b hb ok => ?_⟩
      have hw : wk b = true := by rcases ok with z | z; exact absurd z hl; exact z
      have k1 := r1.2.2.2 b hw
      have k2 := key b hb hw
      omega
    · refine ⟨max a q, by omega, by omega, Or.inr ?_, fun b hb ok => ?_⟩
      · by_cases haq : a ≤ q
        · rw [show max a q = q by omega]; exact q3
        · rw [show max a q = a by omega]; exact r1.2.2.1
      · have hw : wk b = true := by rcases ok with z | z; exact absurd z hl; exact z
        have k1 := r1.2.2.2 b hw
        have k2 := key b hb hw
        omega
theorem lbeg_iff {l : Nat} {t et : Int} (he : et < 20000) {b : Nat} (hb : b < 20000) (ok : l = 0 ∨ wk b = true) : ((b : Int) ≤ lbeg wk (l : Int) t et ↔ (b : Int) ≤ t ∧ (EN wk l b : Int) ≤ et) := by
  unfold lbeg
  by_cases hl : l = 0
  · subst hl
    rw [if_pos (by omega), EN_0 hb]
    omega
  · have hw : wk b = true := by rcases ok with z | z; exact absurd z hl; exact z
    rw [if_neg (by omega)]
    have c1 := cbk_C (wk := wk) (t + 1).toNat 1 (Nat.le_refl _) b hw
    have c2 := cbk_C (wk := wk) et.toNat l (by omega) b hw
    have h1 : (b : Int) ≤ cbk wk (t + 1).toNat 1 ↔ (b : Int) ≤ t := by
      rw [show ((1 : Nat) : Int) = 1 from rfl] at c1
      rw [c1]
      constructor
      · intro q; omega
      · intro q
        refine ⟨by omega, ?_⟩
        have := Cn_mono (wk := wk) (t + 1).toNat (show b + 1 ≤ (t + 1).toNat by omega)
        rw [Cn_t hw] at this
        exact this
    have h2 : (b : Int) ≤ cbk wk et.toNat (l : Int) ↔ (EN wk l b : Int) ≤ et := by
      rw [c2]
      by_cases h0 : et < 0
      · constructor
        · intro q; omega
        · intro q; omega
      · have en := EN_le (wk := wk) (l := l) (b := b) (y := et.toNat) (by omega)
        constructor
        · intro q
          have := en.mpr ⟨by omega, q.2⟩
          omega
        · intro q
          have := en.mp (by omega)
          refine ⟨?_, this.2⟩
          by_cases hbe : b = et.toNat
          · rw [← hbe] at this; omega
          · omega
    omega
theorem lbeg_w {l : Nat} {t et : Int} : lbeg wk (l : Int) t et < 0 ∨ ∃ q : Nat, lbeg wk (l : Int) t et = (q : Int) ∧ (l = 0 ∨ wk q = true) := by
  unfold lbeg
  by_cases hl : l = 0
  · rw [if_pos (by omega)]
    rcases Int.lt_or_le (min t et) 0 with z | z
    · exact Or.inl z
    · exact Or.inr ⟨(min t et).toNat, by omega, Or.inl hl⟩
  · rw [if_neg (by omega)]
    rcases cbk_w (wk := wk) (t + 1).toNat 1 with u | ⟨u, u1, u2, u3⟩
    · exact Or.inl (by omega)
    · rcases cbk_w (wk := wk) et.toNat (l : Int) with v | ⟨v, v1, v2, v3⟩
      · exact Or.inl (by omega)
      · refine Or.inr ⟨min u v, by omega, Or.inr ?_⟩
        by_cases huv : u ≤ v
        · rw [show min u v = u by omega]; exact u3
        · rw [show min u v = v by omega]; exact v3
end Days

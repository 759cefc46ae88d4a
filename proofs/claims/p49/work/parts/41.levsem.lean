/-! ===== levelling: the first day with crews; what has one meaning ===== -/
section LevSem
variable {S : ST}
/-- the crews suffice on all days of a task that begins on b -/
def GDP (S : ST) (g : Nat → Nat → Int) (t b : Nat) : Prop := ((S 5 t 0).toNat = 0 ∨ wkS S (S 6 t 0).toNat b = true) ∧ ∀ d, b ≤ d → d < EN (wkS S (S 6 t 0).toNat) (S 5 t 0).toNat b → wkS S (S 6 t 0).toNat d = true → suf S g t (d : Int) 4 0 = true
theorem EN_lt {wk : Nat → Bool} {l b y : Nat} (hy : y < 20000) : y < EN wk l b ↔ y < b ∨ Cn wk y < Cn wk b + l := by
  have := EN_le (wk := wk) (l := l) (b := b) hy
  omega
/-- the walk over the days: d is next, f fit in a row since y -/
theorem fwc_spec {g : Nat → Nat → Int} {t : Nat} {wk : Nat → Bool} {l : Nat} (hl : 1 ≤ l) (el : S 5 t 0 = (l : Int)) (ew : wkS S (S 6 t 0).toNat = wk) {fr top : Nat} (htop : top < 5000) (hgt : fr ≤ top) (hgd : GDP S g t top) (het : EN wk l top < 5000) : ∀ (m d f y : Nat), d + m = 5000 → f < l → fr ≤ y → fr ≤ d →
    (f = 0 ∨ (wk y = true ∧ y < d ∧ Cn wk d = Cn wk y + f ∧ ∀ x, y ≤ x → x < d → wk x = true → suf S g t (x : Int) 4 0 = true)) →
    (∀ b, fr ≤ b → b < 20000 → GDP S g t b → (if f = 0 then d else y) ≤ b) →
    ∃ z : Nat, fwc S g t m d (f : Int) (y : Int) = (z : Int) ∧ fr ≤ z ∧ z < 5000 ∧ GDP S g t z ∧ ∀ b, fr ≤ b → b < 20000 → GDP S g t b → z ≤ b
  | 0, d, f, y, hm, hf, hy, hd, hp, hn => by
    exfalso
    have q := hn top hgt (by omega) hgd
    have e := (EN_le (wk := wk) (l := l) (b := top) (y := EN wk l top) (by omega)).mp (Nat.le_refl _)
    rcases hp with h0 | ⟨p1, p2, p3, p4⟩
    · rw [if_pos h0] at q
      omega
    · by_cases h0 : f = 0
      · rw [if_pos h0] at q; omega
      · rw [if_neg h0] at q
        have c1 := Cn_mono (wk := wk) top q
        have c2 := Cn_mono (wk := wk) d (show EN wk l top ≤ d by omega)
        omega
  | m + 1, d, f, y, hm, hf, hy, hd, hp, hn => by
    rw [fwc, if_pos (by omega), ew]
    by_cases hw : wk d = true
    · rw [if_pos hw]
      by_cases hs : suf S g t (d : Int) 4 0 = true
      · rw [if_pos hs]
        obtain ⟨y2, ey⟩ : ∃ y2 : Nat, (if (f : Int) = 0 then (d : Int) else (y : Int)) = (y2 : Int) ∧ y2 = (if f = 0 then d else y) := by
          by_cases h0 : f = 0
          · exact ⟨d, by rw [if_pos (by omega), if_pos h0]; exact ⟨rfl, rfl⟩⟩
          · exact ⟨y, by rw [if_neg (by omega), if_neg h0]; exact ⟨rfl, rfl⟩⟩
        rw [ey.1, show (f : Int) + 1 = ((f + 1 : Nat) : Int) by omega]
        have ey2 := ey.2
        have hfr : fr ≤ y2 := by
          rw [ey2]; split <;> omega
        have hst : wk y2 = true ∧ y2 < d + 1 ∧ Cn wk (d + 1) = Cn wk y2 + (f + 1) ∧ ∀ x, y2 ≤ x → x < d + 1 → wk x = true → suf S g t (x : Int) 4 0 = true := by
          rw [Cn_t hw]
          by_cases h0 : f = 0
          · rw [if_pos h0] at ey2
            subst ey2
            exact ⟨hw, by omega, by omega, fun x h1 h2 _ => by rw [show x = y2 by omega]; exact hs⟩
          · rw [if_neg h0] at ey2
            subst ey2
            rcases hp with q | ⟨p1, p2, p3, p4⟩
            · exact absurd q h0
            · refine ⟨p1, by omega, by omega, fun x h1 h2 h3 => ?_⟩
              by_cases hx : x = d
              · rw [hx]; exact hs
              · exact p4 x h1 (by omega) h3
        rw [← ey2] at hn
        by_cases hfl : f + 1 < l
        · exact fwc_spec hl el ew htop hgt hgd het m (d + 1) (f + 1) y2 (by omega) hfl hfr (by omega) (Or.inr hst) (fun b h1 h2 h3 => by rw [if_neg (by omega)]; exact hn b h1 h2 h3)
        · have e1 : fwc S g t m (d + 1) ((f + 1 : Nat) : Int) (y2 : Int) = (y2 : Int) := by
            cases m with
            | zero => rfl
            | succ m => rw [fwc, if_neg (by omega)]
          refine ⟨y2, e1, hfr, by omega, ⟨Or.inr (by rw [ew]; exact hst.1), fun x h1 h2 h3 => ?_⟩, hn⟩
          rw [ew] at h2 h3
          rw [show (S 5 t 0).toNat = l by omega] at h2
          refine hst.2.2.2 x h1 ?_ h3
          have en := (EN_le (wk := wk) (l := l) (b := y2) (y := d + 1) (by omega)).mpr ⟨by omega, by omega⟩
          omega
      · rw [if_neg hs]
        refine fwc_spec hl el ew htop hgt hgd het m (d + 1) 0 y (by omega) (by omega) hy (by omega) (Or.inl rfl) (fun b h1 h2 h3 => ?_)
        rw [if_pos rfl]
        rcases Nat.lt_or_ge d b with z | z
        · exact z
        · exfalso
          refine hs (h3.2 d z ?_ (by rw [ew]; exact hw))
          rw [ew, show (S 5 t 0).toNat = l by omega, EN_lt (by omega)]
          refine Or.inr ?_
          have q := hn b h1 h2 h3
          by_cases h0 : f = 0
          · rw [if_pos h0] at q
            rw [show b = d by omega]
            omega
          · rw [if_neg h0] at q
            rcases hp with p | ⟨p1, p2, p3, p4⟩
            · exact absurd p h0
            · have c1 := Cn_mono (wk := wk) b q
              omega
    · rw [if_neg hw]
      refine fwc_spec hl el ew htop hgt hgd het m (d + 1) f y (by omega) hf hy (by omega) ?_ (fun b h1 h2 h3 => ?_)
      · rcases hp with p | ⟨p1, p2, p3, p4⟩
        · exact Or.inl p
        · refine Or.inr ⟨p1, by omega, by rw [Cn_f hw]; exact p3, fun x h4 h5 h6 => ?_⟩
          by_cases hx : x = d
          · subst hx; exact absurd h6 hw
          · exact p4 x h4 (by omega) h6
      · have q := hn b h1 h2 h3
        by_cases h0 : f = 0
        · rw [if_pos h0] at q ⊢
          by_cases hb : b = d
          · subst hb
            rcases h3.1 with z | z
            · omega
            · rw [ew] at z; exact absurd z hw
          · omega
        · rw [if_neg h0] at q ⊢
          exact q
/-- where nothing is used any more the crews suffice -/
theorem suf_0 (w : WF S) {g : Nat → Nat → Int} {t : Nat} {d : Nat} (hg : ∀ c, c < 4 → g c d = 0) (hb : tooL S t = false) (hl : S 5 t 0 ≠ 0) : suf S g t (d : Int) 4 0 = true := by
  have hbig : ∀ m c, big S t m c = false → ∀ x, c ≤ x → x < c + m → S 12 t x ≤ S 3 x 0 := fun m => by
    induction m with
    | zero => intro c _ x h1 h2; exact absurd h2 (by omega)
    | succ m ih =>
      intro c h x h1 h2
      rw [big] at h
      by_cases hc : S 12 t c > S 3 c 0
      · rw [if_pos hc] at h; cases h
      · rw [if_neg hc] at h
        by_cases hx : x = c
        · subst hx; omega
        · exact ih (c + 1) h x (by omega) (by omega)
  have h4 := hbig 4 0 (by unfold tooL at hb; rw [if_neg hl] at hb; exact hb)
  have hs : ∀ m c, c + m ≤ 4 → suf S g t (d : Int) m c = true := fun m => by
    induction m with
    | zero => intro c _; rfl
    | succ m ih =>
      intro c hc
      have q := h4 c (Nat.zero_le _) (by omega)
      have on0 : onF g c (d : Int) = 0 := by
        unfold onF
        split
        · rw [Int.toNat_natCast]; exact hg c (by omega)
        · rfl
      rw [suf, on0, if_neg (by omega)]
      exact ih (c + 1) (by omega)
  exact hs 4 0 (by omega)
/-- the first day for a task in a levelling whose crews are free from u on -/
theorem begL_spec (w : WF S) {s : LState} {t u y0 : Nat} (ht : t < 24) (hu : ∀ c, c < 4 → ∀ d : Nat, u ≤ d → ldg S s.1 s.2.1 s.2.2.1 c d = 0) (htl : tooL S t = false) (hy0 : fday S s.1 s.2.1 t = (y0 : Int)) (hok : (S 5 t 0).toNat = 0 ∨ wkS S (S 6 t 0).toNat y0 = true) (hb : max (max y0 u) 1000 ≤ 4850) :
    ∃ z : Nat, begL S s t = (z : Int) ∧ y0 ≤ z ∧ z ≤ max y0 (max u 1000 + 6) ∧ GDP S (ldg S s.1 s.2.1 s.2.2.1) t z ∧ ∀ b, y0 ≤ b → b < 20000 → GDP S (ldg S s.1 s.2.1 s.2.2.1) t b → z ≤ b := by
  have wt := w.task ht
  have k := wkS_WK w (c := (S 6 t 0).toNat) (by omega)
  unfold begL
  rw [hy0, Int.toNat_natCast]
  by_cases hl : (S 5 t 0).toNat = 0
  · have e1 : fwc S (ldg S s.1 s.2.1 s.2.2.1) t (5000 - y0) y0 0 (y0 : Int) = (y0 : Int) := by
      rw [show 5000 - y0 = (4999 - y0) + 1 by omega, fwc, if_neg (by omega)]
    rw [e1]
    refine ⟨y0, rfl, Nat.le_refl _, by omega, ⟨Or.inl hl, fun d h1 h2 _ => ?_⟩, fun b h1 _ _ => h1⟩
    rw [hl, EN_0 (by omega)] at h2
    omega
  · obtain ⟨x, x1, x2, x3, x4⟩ : ∃ x, y0 ≤ x ∧ u ≤ x ∧ x ≤ max y0 (max u 1000 + 6) ∧ wkS S (S 6 t 0).toNat x = true := by
      by_cases huy : u ≤ y0
      · exact ⟨y0, Nat.le_refl _, huy, by omega, hok.resolve_left hl⟩
      · obtain ⟨x, x1, x2, x3⟩ := k (max u 1000) (by omega)
        exact ⟨x, by omega, by omega, by omega, x3⟩
    have r := EN_r k (l := (S 5 t 0).toNat) (b := x) (by omega) (by omega)
    have gx : GDP S (ldg S s.1 s.2.1 s.2.2.1) t x := ⟨Or.inr x4, fun d h1 _ _ => suf_0 w (fun c hc => hu c hc d (by omega)) htl (by omega)⟩
    obtain ⟨z, z1, z2, z3, z4, z5⟩ := fwc_spec (S := S) (g := ldg S s.1 s.2.1 s.2.2.1) (t := t) (wk := wkS S (S 6 t 0).toNat) (l := (S 5 t 0).toNat) (by omega) (by omega) rfl (fr := y0) (top := x) (by omega) (by omega) gx (by omega) (5000 - y0) y0 0 y0 (by omega) (by omega) (Nat.le_refl _) (Nat.le_refl _) (Or.inl rfl) (fun b h1 _ _ => by rw [if_pos rfl]; exact h1)
    refine ⟨z, z1, z2, ?_, z4, z5⟩
    have := z5 x (by omega) (by omega) gx
    omega
end LevSem

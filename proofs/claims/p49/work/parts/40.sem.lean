/-! ===== what the plans are: first days, ends, bounds; there is but one ===== -/
section Sem
variable {S : ST}
theorem bits7 : ∀ n, n < 128 → 1 ≤ n → ∃ j, j < 7 ∧ n / 2 ^ j % 2 = 1 := by decide +kernel
theorem wkS_WK (w : WF S) {c : Nat} (hc : c < 4) : WKP (wkS S c) := by
  intro d hd
  have wc := w.1 c hc
  obtain ⟨j, j1, j2⟩ := bits7 (S 0 c 0).toNat (by omega) (by omega)
  refine ⟨d + (j + 7 - d % 7) % 7, by omega, by omega, ?_⟩
  unfold wkS wkd
  rw [show (d + (j + 7 - d % 7) % 7) % 7 = j by omega]
  rw [decide_eq_true j2, decide_eq_true (show 1000 ≤ d + (j + 7 - d % 7) % 7 by omega)]
  rfl
theorem askL_1 {b e : Nat → Int} {t : Nat} : ∀ (m i : Nat) (x y z : Int), (askL S b e t m i x y).1 ≤ z ↔ x ≤ z ∧ ∀ j, i ≤ j → j < i + m → lT S j = (t : Int) → bAsk b e (lF S j) (lK S j) (lG S j) ≤ z
  | 0, i, x, y, z => ⟨fun q => ⟨q, fun j h1 h2 => by omega⟩, fun q => q.1⟩
  | m + 1, i, x, y, z => by
    rw [askL]
    by_cases h : lT S i = (t : Int)
    · rw [if_pos h, askL_1 m (i + 1)]
      constructor
      · intro q
        refine ⟨by omega, fun j h1 h2 h3 => ?_⟩
        by_cases hj : j = i
        · rw [hj]; omega
        · exact q.2 j (by omega) (by omega) h3
      · intro q
        have := q.2 i (Nat.le_refl _) (by omega) h
        exact ⟨by omega, fun j h1 h2 h3 => q.2 j (by omega) (by omega) h3⟩
    · rw [if_neg h, askL_1 m (i + 1)]
      refine and_congr_right fun _ => ⟨fun q j h1 h2 h3 => ?_, fun q j h1 h2 h3 => q j (by omega) (by omega) h3⟩
      by_cases hj : j = i
      · exact absurd (hj ▸ h3) h
      · exact q j (by omega) (by omega) h3
theorem askL_2 {b e : Nat → Int} {t : Nat} : ∀ (m i : Nat) (x y z : Int), (askL S b e t m i x y).2 ≤ z ↔ y ≤ z ∧ ∀ j, i ≤ j → j < i + m → lT S j = (t : Int) → eAsk e (lF S j) (lK S j) (lG S j) ≤ z
  | 0, i, x, y, z => ⟨fun q => ⟨q, fun j h1 h2 => by omega⟩, fun q => q.1⟩
  | m + 1, i, x, y, z => by
    rw [askL]
    by_cases h : lT S i = (t : Int)
    · rw [if_pos h, askL_2 m (i + 1)]
      constructor
      · intro q
        refine ⟨by omega, fun j h1 h2 h3 => ?_⟩
        by_cases hj : j = i
        · rw [hj]; omega
        · exact q.2 j (by omega) (by omega) h3
      · intro q
        have := q.2 i (Nat.le_refl _) (by omega) h
        exact ⟨by omega, fun j h1 h2 h3 => q.2 j (by omega) (by omega) h3⟩
    · rw [if_neg h, askL_2 m (i + 1)]
      refine and_congr_right fun _ => ⟨fun q j h1 h2 h3 => ?_, fun q j h1 h2 h3 => q j (by omega) (by omega) h3⟩
      by_cases hj : j = i
      · exact absurd (hj ▸ h3) h
      · exact q j (by omega) (by omega) h3
/-- on the day x FIRST and the links to t hold -/
def FDP (S : ST) (b e : Nat → Int) (t x : Nat) : Prop := S 8 t 0 ≤ (x : Int) ∧ ∀ j : Nat, (j : Int) < S 14 0 0 → lT S j = (t : Int) → bAsk b e (lF S j) (lK S j) (lG S j) ≤ (x : Int) ∧ eAsk e (lF S j) (lK S j) (lG S j) ≤ (EN (wkS S (S 6 t 0).toNat) (S 5 t 0).toNat x : Int)
theorem bAsk_le {b e : Nat → Int} {f k g M : Int} (hb : b f.toNat ≤ M) (he : e f.toNat ≤ M) (hM : 0 ≤ M) (hg : 0 ≤ g ∧ g ≤ 20) : bAsk b e f k g ≤ M + 20 := by
  unfold bAsk
  split
  · omega
  · split <;> omega
theorem eAsk_le {e : Nat → Int} {f k g M : Int} (he : e f.toNat ≤ M) (hM : 0 ≤ M) (hg : 0 ≤ g ∧ g ≤ 20) : eAsk e f k g ≤ M + 20 := by
  unfold eAsk
  split
  · omega
  · split <;> omega
/-- the same for the first m links -/
def FDk (S : ST) (b e : Nat → Int) (t m x : Nat) : Prop := S 8 t 0 ≤ (x : Int) ∧ ∀ j : Nat, j < m → lT S j = (t : Int) → bAsk b e (lF S j) (lK S j) (lG S j) ≤ (x : Int) ∧ eAsk e (lF S j) (lK S j) (lG S j) ≤ (EN (wkS S (S 6 t 0).toNat) (S 5 t 0).toNat x : Int)
theorem fdk_LB (w : WF S) {b e : Nat → Int} {t : Nat} (ht : t < 24) {M : Int} (hM : 0 ≤ M ∧ M ≤ 4850) {m : Nat} (hm : (m : Int) ≤ S 14 0 0) (h : ∀ j : Nat, (j : Int) < S 14 0 0 → lT S j = (t : Int) → b (lF S j).toNat ≤ M ∧ e (lF S j).toNat ≤ M) :
    ∃ y : Nat, fbeg (wkS S (S 6 t 0).toNat) (S 5 t 0) (askL S b e t m 0 (S 8 t 0) 0).1 (askL S b e t m 0 (S 8 t 0) 0).2 = (y : Int) ∧ (y : Int) ≤ max (M + 20) 1000 + 6 ∧ LBq (wkS S (S 6 t 0).toNat) (S 5 t 0).toNat (FDk S b e t m) y := by
  have wt := w.task ht
  have wL := w.nL
  obtain ⟨fr, efr⟩ : ∃ fr, (askL S b e t m 0 (S 8 t 0) 0).1 = fr := ⟨_, rfl⟩
  obtain ⟨ef, eef⟩ : ∃ ef, (askL S b e t m 0 (S 8 t 0) 0).2 = ef := ⟨_, rfl⟩
  have a1 := askL_1 (S := S) (b := b) (e := e) (t := t) m 0 (S 8 t 0) 0
  have a2 := askL_2 (S := S) (b := b) (e := e) (t := t) m 0 (S 8 t 0) 0
  rw [efr] at a1
  rw [eef] at a2
  have hj : ∀ j : Nat, 0 ≤ j → j < 0 + m → (j : Int) < S 14 0 0 := fun j _ h2 => by omega
  have r1 : S 8 t 0 ≤ fr := ((a1 fr).mp (Int.le_refl _)).1
  have r2 : 0 ≤ ef := ((a2 ef).mp (Int.le_refl _)).1
  have r3 : fr ≤ max 999 (M + 20) := (a1 _).mpr ⟨by omega, fun j h1 h2 h3 => by
    have q := h j (hj j h1 h2) h3
    have wj := w.at (i := j) (by have := hj j h1 h2; omega)
    have := bAsk_le (k := lK S j) (g := lG S j) q.1 q.2 hM.1 wj.2.2.2.2
    omega⟩
  have r4 : ef ≤ M + 20 := (a2 _).mpr ⟨by omega, fun j h1 h2 h3 => by
    have q := h j (hj j h1 h2) h3
    have wj := w.at (i := j) (by have := hj j h1 h2; omega)
    exact eAsk_le (k := lK S j) (g := lG S j) q.2 hM.1 wj.2.2.2.2⟩
  obtain ⟨y, y1, y2, y3⟩ := fbeg_LB (wkS_WK w (c := (S 6 t 0).toNat) (by omega)) (l := (S 5 t 0).toNat) (fr := fr) (ef := ef) (by omega) (by omega)
  refine ⟨y, ?_, by omega, y3.congr fun x hx ok => ?_⟩
  · rw [efr, eef, ← y1, show (((S 5 t 0).toNat : Nat) : Int) = S 5 t 0 by omega]
  · rw [a1, a2]
    unfold FDk
    constructor
    · intro q
      exact ⟨q.1.1, fun j h1 h2 => ⟨q.1.2 j (Nat.zero_le _) (by omega) h2, q.2.2 j (Nat.zero_le _) (by omega) h2⟩⟩
    · intro q
      exact ⟨⟨q.1, fun j h1 h2 h3 => (q.2 j (by omega) h3).1⟩, by omega, fun j h1 h2 h3 => (q.2 j (by omega) h3).2⟩
theorem fday_LB (w : WF S) {b e : Nat → Int} {t : Nat} (ht : t < 24) {M : Int} (hM : 0 ≤ M ∧ M ≤ 4850) (h : ∀ j : Nat, (j : Int) < S 14 0 0 → lT S j = (t : Int) → b (lF S j).toNat ≤ M ∧ e (lF S j).toNat ≤ M) :
    ∃ y : Nat, fday S b e t = (y : Int) ∧ (y : Int) ≤ max (M + 20) 1000 + 6 ∧ LBq (wkS S (S 6 t 0).toNat) (S 5 t 0).toNat (FDP S b e t) y := by
  have wL := w.nL
  obtain ⟨y, y1, y2, y3⟩ := fdk_LB w ht hM (m := (S 14 0 0).toNat) (by omega) h
  refine ⟨y, y1, y2, y3.congr fun x _ _ => ?_⟩
  unfold FDk FDP
  exact and_congr_right fun _ => ⟨fun q j h1 h2 => q j (by omega) h2, fun q j h1 h2 => q j (by omega) h2⟩
theorem endS_EN {t y : Nat} (h : EN (wkS S (S 6 t 0).toNat) (S 5 t 0).toNat y < 5000) : endS S t (y : Int) = (EN (wkS S (S 6 t 0).toNat) (S 5 t 0).toNat y : Int) := by
  unfold endS
  rw [Int.toNat_natCast, E_eq h]
/-- begins and ends of a plan within bounds, each on its first day -/
def EOK (S : ST) (b e : Nat → Int) (t : Nat) (M : Int) : Prop := (0 ≤ b t ∧ b t ≤ M ∧ 0 ≤ e t ∧ e t ≤ M) ∧ (S 9 t 0 = 0 → ∃ y : Nat, b t = (y : Int) ∧ e t = (EN (wkS S (S 6 t 0).toNat) (S 5 t 0).toNat y : Int) ∧ LBq (wkS S (S 6 t 0).toNat) (S 5 t 0).toNat (FDP S b e t) y)
theorem EPt_OK (w : WF S) {b e : Nat → Int} {t : Nat} (ht : t < 24) (ep : EPt S b e t) {M : Int} (hM : 1000 ≤ M ∧ M ≤ 4818) (h : ∀ j : Nat, (j : Int) < S 14 0 0 → lT S j = (t : Int) → b (lF S j).toNat ≤ M ∧ e (lF S j).toNat ≤ M) : EOK S b e t (M + 166) := by
  have wt := w.task ht
  by_cases h9 : S 9 t 0 = 0
  · have q := ep.2 h9
    obtain ⟨y, y1, y2, y3⟩ := fday_LB w ht (b := b) (e := e) (M := M) (by omega) h
    have r := EN_r (wkS_WK w (c := (S 6 t 0).toNat) (by omega)) (l := (S 5 t 0).toNat) (b := y) (by omega) (by omega)
    have hb : b t = (y : Int) := q.1.trans y1
    have he : e t = (EN (wkS S (S 6 t 0).toNat) (S 5 t 0).toNat y : Int) := by rw [q.2, hb]; exact endS_EN (by omega)
    exact ⟨by omega, fun _ => ⟨y, hb, he, y3⟩⟩
  · have q := ep.1 h9
    exact ⟨by omega, fun z => absurd z h9⟩
theorem EP_OK (w : WF S) (tp : TOP S) {b e : Nat → Int} (ep : EP S b e) : ∀ k : Nat, (k : Int) ≤ S 13 0 0 → ∀ i : Nat, i < k → EOK S b e (S 16 i 0).toNat (1000 + 166 * (i + 1 : Int))
  | 0, _, i, hi => absurd hi (by omega)
  | k + 1, hk, i, hi => by
    have ih := EP_OK w tp ep k (by omega)
    by_cases hik : i = k
    · subst hik
      have s := tp.2.1 i (by omega)
      have wT := w.nT
      have q := EPt_OK w (t := (S 16 i 0).toNat) (by omega) (ep _ (by omega)) (M := 1000 + 166 * (i : Int)) (by omega) (fun j h1 h2 => by
        obtain ⟨i2, i3, i4⟩ := tp.2.2.2.2 i j (by omega) h1 (by rw [h2]; omega)
        have z := (ih i2 i3).1
        rw [i4] at z
        omega)
      rw [show (1000 : Int) + 166 * (i + 1 : Int) = 1000 + 166 * (i : Int) + 166 by omega]
      exact q
    · exact ih i (by omega)
theorem EOK.le {b e : Nat → Int} {t : Nat} {M M' : Int} (h : EOK S b e t M) (hM : M ≤ M') : EOK S b e t M' := ⟨by have := h.1; omega, h.2⟩
/-- every plan EARLY keeps within bounds -/
theorem EP_all (w : WF S) (tp : TOP S) {b e : Nat → Int} (ep : EP S b e) {t : Nat} (ht : (t : Int) < S 13 0 0) : EOK S b e t 4984 := by
  have wT := w.nT
  obtain ⟨k, k1, k2⟩ := tp.2.2.2.1 t (by omega) ht
  have q := EP_OK w tp ep (k + 1) (by omega) k (by omega)
  rw [k2, Int.toNat_natCast] at q
  exact q.le (by omega)
theorem askL_cg {b e b' e' : Nat → Int} {t : Nat} : ∀ (m i : Nat) (x y : Int), (∀ j, i ≤ j → j < i + m → lT S j = (t : Int) → b (lF S j).toNat = b' (lF S j).toNat ∧ e (lF S j).toNat = e' (lF S j).toNat) → askL S b e t m i x y = askL S b' e' t m i x y
  | 0, _, _, _, _ => rfl
  | m + 1, i, x, y, h => by
    rw [askL, askL]
    have ih := fun x y => askL_cg m (i + 1) x y (fun j h1 h2 h3 => h j (by omega) (by omega) h3)
    by_cases hl : lT S i = (t : Int)
    · have q := h i (Nat.le_refl _) (by omega) hl
      rw [if_pos hl, if_pos hl, ih]
      unfold bAsk eAsk
      rw [q.1, q.2]
    · rw [if_neg hl, if_neg hl, ih]
theorem fday_cg {b e b' e' : Nat → Int} {t : Nat} (h : ∀ j : Nat, (j : Int) < S 14 0 0 → lT S j = (t : Int) → b (lF S j).toNat = b' (lF S j).toNat ∧ e (lF S j).toNat = e' (lF S j).toNat) : fday S b e t = fday S b' e' t := by
  unfold fday
  rw [askL_cg (S := S) (b := b) (e := e) (b' := b') (e' := e') (t := t) (S 14 0 0).toNat 0 (S 8 t 0) 0 (fun j h1 h2 h3 => h j (by omega) h3)]
/-- there is but one plan EARLY -/
theorem EP_uniq (tp : TOP S) {b e b' e' : Nat → Int} (ep : EP S b e) (ep' : EP S b' e') {t : Nat} (ht : (t : Int) < S 13 0 0) : b t = b' t ∧ e t = e' t := by
  have key : ∀ k : Nat, (k : Int) ≤ S 13 0 0 → ∀ i : Nat, i < k → b (S 16 i 0).toNat = b' (S 16 i 0).toNat ∧ e (S 16 i 0).toNat = e' (S 16 i 0).toNat := fun k => by
    induction k with
    | zero => intro _ i hi; exact absurd hi (by omega)
    | succ k ih =>
      intro hk i hi
      have ih := ih (by omega)
      by_cases hik : i = k
      · subst hik
        have s := tp.2.1 i (by omega)
        have p := ep (S 16 i 0).toNat (by omega)
        have p' := ep' (S 16 i 0).toNat (by omega)
        by_cases h9 : S 9 (S 16 i 0).toNat 0 = 0
        · have f : fday S b e (S 16 i 0).toNat = fday S b' e' (S 16 i 0).toNat := fday_cg fun j h1 h2 => by
            obtain ⟨i2, i3, i4⟩ := tp.2.2.2.2 i j (by omega) h1 (by rw [h2]; omega)
            have z := ih i2 i3
            rw [i4] at z
            exact z
          have q := p.2 h9
          have q' := p'.2 h9
          have hb : b (S 16 i 0).toNat = b' (S 16 i 0).toNat := by rw [q.1, q'.1, f]
          exact ⟨hb, by rw [q.2, q'.2, hb]⟩
        · have q := p.1 h9
          have q' := p'.1 h9
          exact ⟨q.1.trans q'.1.symm, q.2.trans q'.2.symm⟩
      · exact ih i (by omega)
  obtain ⟨k, k1, k2⟩ := tp.2.2.2.1 t (by omega) ht
  have q := key (k + 1) (by omega) k (by omega)
  rw [k2, Int.toNat_natCast] at q
  exact q
theorem askU_cg {b e b' e' : Nat → Int} {t : Nat} : ∀ (m i : Nat) (x y : Int), (∀ j, i ≤ j → j < i + m → lF S j = (t : Int) → b (lT S j).toNat = b' (lT S j).toNat ∧ e (lT S j).toNat = e' (lT S j).toNat) → askU S b e t m i x y = askU S b' e' t m i x y
  | 0, _, _, _, _ => rfl
  | m + 1, i, x, y, h => by
    rw [askU, askU]
    have ih := fun x y => askU_cg m (i + 1) x y (fun j h1 h2 h3 => h j (by omega) (by omega) h3)
    by_cases hl : lF S i = (t : Int) ∧ S 9 (lT S i).toNat 0 = 0
    · have q := h i (Nat.le_refl _) (by omega) hl.1
      rw [if_pos hl, if_pos hl, q.1, q.2, ih, ih]
    · rw [if_neg hl, if_neg hl, ih]
theorem askU_1 {lb le : Nat → Int} {t : Nat} : ∀ (m i : Nat) (x y z : Int), z ≤ (askU S lb le t m i x y).1 ↔ z ≤ x ∧ ∀ j, i ≤ j → j < i + m → lF S j = (t : Int) → S 9 (lT S j).toNat 0 = 0 → lK S j = 1 → z ≤ lb (lT S j).toNat - lG S j
  | 0, i, x, y, z => ⟨fun q => ⟨q, fun j h1 h2 => by omega⟩, fun q => q.1⟩
  | m + 1, i, x, y, z => by
    rw [askU]
    by_cases h : lF S i = (t : Int) ∧ S 9 (lT S i).toNat 0 = 0
    · rw [if_pos h]
      by_cases hk : lK S i = 1
      · rw [if_pos hk, askU_1 m (i + 1)]
        constructor
        · intro q
          refine ⟨by omega, fun j h1 h2 h3 h4 h5 => ?_⟩
          by_cases hj : j = i
          · rw [hj]; omega
          · exact q.2 j (by omega) (by omega) h3 h4 h5
        · intro q
          have := q.2 i (Nat.le_refl _) (by omega) h.1 h.2 hk
          exact ⟨by omega, fun j h1 h2 h3 h4 h5 => q.2 j (by omega) (by omega) h3 h4 h5⟩
      · rw [if_neg hk, askU_1 m (i + 1)]
        refine and_congr_right fun _ => ⟨fun q j h1 h2 h3 h4 h5 => ?_, fun q j h1 h2 h3 h4 h5 => q j (by omega) (by omega) h3 h4 h5⟩
        by_cases hj : j = i
        · exact absurd (hj ▸ h5) hk
        · exact q j (by omega) (by omega) h3 h4 h5
    · rw [if_neg h, askU_1 m (i + 1)]
      refine and_congr_right fun _ => ⟨fun q j h1 h2 h3 h4 h5 => ?_, fun q j h1 h2 h3 h4 h5 => q j (by omega) (by omega) h3 h4 h5⟩
      by_cases hj : j = i
      · exact absurd (hj ▸ ⟨h3, h4⟩) h
      · exact q j (by omega) (by omega) h3 h4 h5
theorem askU_2 {lb le : Nat → Int} {t : Nat} : ∀ (m i : Nat) (x y z : Int), z ≤ (askU S lb le t m i x y).2 ↔ z ≤ y ∧ ∀ j, i ≤ j → j < i + m → lF S j = (t : Int) → S 9 (lT S j).toNat 0 = 0 → ¬ lK S j = 1 → z ≤ (if lK S j = 0 then lb (lT S j).toNat else le (lT S j).toNat) - lG S j
  | 0, i, x, y, z => ⟨fun q => ⟨q, fun j h1 h2 => by omega⟩, fun q => q.1⟩
  | m + 1, i, x, y, z => by
    rw [askU]
    by_cases h : lF S i = (t : Int) ∧ S 9 (lT S i).toNat 0 = 0
    · rw [if_pos h]
      by_cases hk : lK S i = 1
      · rw [if_pos hk, askU_2 m (i + 1)]
        refine and_congr_right fun _ => ⟨fun q j h1 h2 h3 h4 h5 => ?_, fun q j h1 h2 h3 h4 h5 => q j (by omega) (by omega) h3 h4 h5⟩
        by_cases hj : j = i
        · exact absurd hk (hj ▸ h5)
        · exact q j (by omega) (by omega) h3 h4 h5
      · rw [if_neg hk, askU_2 m (i + 1)]
        constructor
        · intro q
          refine ⟨by omega, fun j h1 h2 h3 h4 h5 => ?_⟩
          by_cases hj : j = i
          · rw [hj]; omega
          · exact q.2 j (by omega) (by omega) h3 h4 h5
        · intro q
          have := q.2 i (Nat.le_refl _) (by omega) h.1 h.2 hk
          exact ⟨by omega, fun j h1 h2 h3 h4 h5 => q.2 j (by omega) (by omega) h3 h4 h5⟩
    · rw [if_neg h, askU_2 m (i + 1)]
      refine and_congr_right fun _ => ⟨fun q j h1 h2 h3 h4 h5 => ?_, fun q j h1 h2 h3 h4 h5 => q j (by omega) (by omega) h3 h4 h5⟩
      by_cases hj : j = i
      · exact absurd (hj ▸ ⟨h3, h4⟩) h
      · exact q j (by omega) (by omega) h3 h4 h5
/-- on the day x a task can still begin, so that all holds late -/
def LTP (S : ST) (lb le : Nat → Int) (ld : Int) (t x : Nat) : Prop := (EN (wkS S (S 6 t 0).toNat) (S 5 t 0).toNat x : Int) ≤ ld ∧ ∀ j : Nat, (j : Int) < S 14 0 0 → lF S j = (t : Int) → S 9 (lT S j).toNat 0 = 0 → (if lK S j = 1 then (x : Int) else (EN (wkS S (S 6 t 0).toNat) (S 5 t 0).toNat x : Int)) + lG S j ≤ (if lK S j ≤ 1 then lb (lT S j).toNat else le (lT S j).toNat)
/-- the late begin is the greatest such day, not ahead of the early one -/
theorem lday_iff (w : WF S) {eb lb le : Nat → Int} {ld : Int} {t : Nat} (ht : t < 24) (hld : ld < 20000) {x : Nat} (hx : x < 20000) (ok : (S 5 t 0).toNat = 0 ∨ wkS S (S 6 t 0).toNat x = true) :
    ((x : Int) ≤ lday S eb lb le ld t ↔ (x : Int) ≤ eb t ∨ LTP S lb le ld t x) := by
  have wt := w.task ht
  have wL := w.nL
  have a1 := askU_1 (S := S) (lb := lb) (le := le) (t := t) (S 14 0 0).toNat 0 ld ld
  have a2 := askU_2 (S := S) (lb := lb) (le := le) (t := t) (S 14 0 0).toNat 0 ld ld
  obtain ⟨p, ep⟩ : ∃ p, (askU S lb le t (S 14 0 0).toNat 0 ld ld).1 = p := ⟨_, rfl⟩
  obtain ⟨q, eq⟩ : ∃ q, (askU S lb le t (S 14 0 0).toNat 0 ld ld).2 = q := ⟨_, rfl⟩
  rw [ep] at a1
  rw [eq] at a2
  have hq : q < 20000 := by have := ((a2 q).mp (Int.le_refl _)).1; omega
  have l1 := lbeg_iff (wk := wkS S (S 6 t 0).toNat) (l := (S 5 t 0).toNat) (t := p) hq hx ok
  rw [show (((S 5 t 0).toNat : Nat) : Int) = S 5 t 0 by omega, a1, a2] at l1
  unfold lday
  rw [ep, eq]
  have g := EN_ge (wk := wkS S (S 6 t 0).toNat) (l := (S 5 t 0).toNat) (b := x)
  have hk : ∀ j : Nat, (j : Int) < S 14 0 0 → 0 ≤ lK S j ∧ lK S j ≤ 2 := fun j h => (w.at (i := j) (by omega)).2.2.2.1
  have e : ((x : Int) ≤ lbeg (wkS S (S 6 t 0).toNat) (S 5 t 0) p q) ↔ LTP S lb le ld t x := by
    rw [l1]
    unfold LTP
    constructor
    · intro z
      refine ⟨z.2.1, fun j h1 h2 h3 => ?_⟩
      have kj := hk j h1
      by_cases h4 : lK S j = 1
      · have := z.1.2 j (Nat.zero_le _) (by omega) h2 h3 h4
        rw [if_pos h4, if_pos (by omega)]
        omega
      · have := z.2.2 j (Nat.zero_le _) (by omega) h2 h3 h4
        rw [if_neg h4]
        by_cases h5 : lK S j = 0
        · rw [if_pos (by omega)]
          rw [if_pos h5] at this
          omega
        · rw [if_neg (by omega)]
          rw [if_neg h5] at this
          omega
    · intro z
      refine ⟨⟨by omega, fun j _ h1 h2 h3 h4 => ?_⟩, z.1, fun j _ h1 h2 h3 h4 => ?_⟩
      · have := z.2 j (by omega) h2 h3
        rw [if_pos h4, if_pos (by omega)] at this
        omega
      · have kj := hk j (by omega)
        have := z.2 j (by omega) h2 h3
        rw [if_neg h4] at this
        by_cases h5 : lK S j = 0
        · rw [if_pos (by omega)] at this
          rw [if_pos h5]
          omega
        · rw [if_neg (by omega)] at this
          rw [if_neg h5]
          omega
  rw [← e]
  omega
theorem lday_w (w : WF S) {eb lb le : Nat → Int} {ld : Int} {t : Nat} (ht : t < 24) (h0 : 0 ≤ eb t) : lday S eb lb le ld t = eb t ∨ ∃ q : Nat, lday S eb lb le ld t = (q : Int) ∧ eb t < (q : Int) ∧ ((S 5 t 0).toNat = 0 ∨ wkS S (S 6 t 0).toNat q = true) := by
  have wt := w.task ht
  have q := lbeg_w (wk := wkS S (S 6 t 0).toNat) (l := (S 5 t 0).toNat) (t := (askU S lb le t (S 14 0 0).toNat 0 ld ld).1) (et := (askU S lb le t (S 14 0 0).toNat 0 ld ld).2)
  rw [show (((S 5 t 0).toNat : Nat) : Int) = S 5 t 0 by omega] at q
  unfold lday
  obtain ⟨z, ez⟩ : ∃ z, lbeg (wkS S (S 6 t 0).toNat) (S 5 t 0) (askU S lb le t (S 14 0 0).toNat 0 ld ld).1 (askU S lb le t (S 14 0 0).toNat 0 ld ld).2 = z := ⟨_, rfl⟩
  rw [ez] at q ⊢
  rcases q with q | ⟨q, q1, q2⟩
  · exact Or.inl (by omega)
  · by_cases hz : z ≤ eb t
    · exact Or.inl (by omega)
    · exact Or.inr ⟨q, by omega, by omega, q2⟩
/-- there is but one plan LATE -/
theorem LATE_uniq (tp : TOP S) {eb eb' lb le rm lb' le' rm' : Nat → Int} {ld : Int} (hb : ∀ t : Nat, (t : Int) < S 13 0 0 → eb t = eb' t) (lt : LATE S eb lb le rm ld) (lt' : LATE S eb' lb' le' rm' ld) {t : Nat} (ht : (t : Int) < S 13 0 0) : lb t = lb' t ∧ le t = le' t ∧ rm t = rm' t := by
  have key : ∀ m k : Nat, (k : Int) + m = S 13 0 0 → ∀ i : Nat, k ≤ i → (i : Int) < S 13 0 0 → lb (S 16 i 0).toNat = lb' (S 16 i 0).toNat ∧ le (S 16 i 0).toNat = le' (S 16 i 0).toNat ∧ rm (S 16 i 0).toNat = rm' (S 16 i 0).toNat := fun m => by
    induction m with
    | zero => intro k hk i h1 h2; exact absurd h2 (by omega)
    | succ m ih =>
      intro k hk i h1 h2
      have ih := ih (k + 1) (by omega)
      by_cases hik : i = k
      · subst hik
        have s := tp.2.1 i (by omega)
        have p := lt (S 16 i 0).toNat (by omega)
        have p' := lt' (S 16 i 0).toNat (by omega)
        by_cases h9 : S 9 (S 16 i 0).toNat 0 = 0
        · have q := p.2 h9
          have q' := p'.2 h9
          have f : lday S eb lb le ld (S 16 i 0).toNat = lday S eb' lb' le' ld (S 16 i 0).toNat := by
            unfold lday
            rw [hb _ (by omega), askU_cg (S := S) (b := lb) (e := le) (b' := lb') (e' := le') (t := (S 16 i 0).toNat) (S 14 0 0).toNat 0 ld ld (fun j _ h4 h5 => by
              have r1 := tp.1 j (by omega)
              obtain ⟨q, q1, q2⟩ := tp.2.2.2.1 (lT S j) r1.2.1 r1.2.2
              obtain ⟨i9, j1, j2⟩ := tp.2.2.2.2 q j q1 (by omega) q2.symm
              have r2 := tp.2.2.1 i9 i (by omega) (by omega) (by rw [j2, h5]; omega)
              have z := ih q (by omega) q1
              rw [q2] at z
              exact ⟨z.1, z.2.1⟩)]
          have h1 : lb (S 16 i 0).toNat = lb' (S 16 i 0).toNat := by rw [q.1, q'.1, f]
          refine ⟨h1, by rw [q.2.1, q'.2.1, h1], ?_⟩
          rw [q.2.2, q'.2.2, h1]
          unfold roomF
          rw [hb _ (by omega)]
        · have q := p.1 h9
          have q' := p'.1 h9
          exact ⟨q.1.trans q'.1.symm, q.2.1.trans q'.2.1.symm, q.2.2.trans q'.2.2.symm⟩
      · exact ih i (by omega) h2
  obtain ⟨k, k1, k2⟩ := tp.2.2.2.1 t (by omega) ht
  have q := key (S 13 0 0 - k).toNat k (by omega) k (Nat.le_refl _) k1
  rw [k2, Int.toNat_natCast] at q
  exact q
end Sem

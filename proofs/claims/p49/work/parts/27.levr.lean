/-! ===== the levelling reckoned ===== -/
theorem wsum_congr {f f' : Nat → Int} : ∀ n, (∀ x, x < n → f x = f' x) → wsum f n = wsum f' n
  | 0, _ => rfl
  | n + 1, h => by rw [wsum, wsum, wsum_congr n (fun x hx => h x (by omega)), h n (by omega)]
theorem wsum_up {f f' : Nat → Int} {t : Nat} : ∀ n, t < n → (∀ x, x < n → x ≠ t → f' x = f x) → wsum f' n = wsum f n + (f' t - f t)
  | 0, h, _ => absurd h (by omega)
  | n + 1, h, k => by
    rw [wsum, wsum]
    by_cases hn : t = n
    · subst hn
      rw [wsum_congr t (fun x hx => k x (by omega) (by omega))]
      omega
    · rw [wsum_up n (by omega) (fun x hx => k x (by omega)), k n (by omega) (by omega)]
      omega
theorem wsum_r {f : Nat → Int} {M : Int} : ∀ n : Nat, (∀ x, x < n → 0 ≤ f x ∧ f x ≤ M) → 0 ≤ wsum f n ∧ wsum f n ≤ M * (n : Int)
  | 0, _ => ⟨Int.le_refl _, by show (0 : Int) ≤ M * 0; omega⟩
  | n + 1, h => by
    have a := wsum_r n (fun x hx => h x (by omega))
    have b := h n (by omega)
    rw [wsum]
    have e : M * ((n + 1 : Nat) : Int) = M * (n : Int) + M := by
      rw [show ((n + 1 : Nat) : Int) = (n : Int) + 1 by omega, Int.mul_add, Int.mul_one]
    omega
/-- the hands of crew c on day d by the tasks that are in -/
def ldg (S : ST) (b e inn : Nat → Int) (c d : Nat) : Int := wsum (fun t => if inn t = 1 ∧ b t ≤ (d : Int) ∧ (d : Int) < min (e t) 5000 ∧ wkS S (S 6 t 0).toNat d = true then S 12 t c else 0) 24
theorem ldg_r {S : ST} (w : WF S) {b e inn : Nat → Int} (c d : Nat) : 0 ≤ ldg S b e inn c d ∧ ldg S b e inn c d ≤ 216 := by
  have := wsum_r (f := fun t => if inn t = 1 ∧ b t ≤ (d : Int) ∧ (d : Int) < min (e t) 5000 ∧ wkS S (S 6 t 0).toNat d = true then S 12 t c else 0) (M := 9) 24 (fun x _ => by
    have := w.need x c
    have q : ∀ (P : Prop) [Decidable P], 0 ≤ (if P then S 12 x c else 0) ∧ (if P then S 12 x c else 0) ≤ 9 := fun P _ => by split <;> omega
    exact q _)
  unfold ldg
  omega
theorem ldg_put {S : ST} {b e inn : Nat → Int} {t : Nat} {x y : Int} (ht : t < 24) (h0 : inn t = 0) (c d : Nat) : ldg S (fup b t x) (fup e t y) (fup inn t 1) c d = if x ≤ (d : Int) ∧ (d : Int) < min y 5000 ∧ wkS S (S 6 t 0).toNat d = true then ldg S b e inn c d + S 12 t c else ldg S b e inn c d := by
  unfold ldg
  rw [wsum_up (f := fun t => if inn t = 1 ∧ b t ≤ (d : Int) ∧ (d : Int) < min (e t) 5000 ∧ wkS S (S 6 t 0).toNat d = true then S 12 t c else 0) 24 ht (fun z _ hz => by simp only [fupn hz])]
  simp only [fupe, true_and]
  rw [if_neg (show ¬(inn t = 1 ∧ b t ≤ (d : Int) ∧ (d : Int) < min (e t) 5000 ∧ wkS S (S 6 t 0).toNat d = true) from fun q => by omega)]
  by_cases hc : x ≤ (d : Int) ∧ (d : Int) < min y 5000 ∧ wkS S (S 6 t 0).toNat d = true
  · rw [if_pos hc, if_pos hc]
    omega
  · rw [if_neg hc, if_neg hc]
    omega
theorem ldg_0 {S : ST} {b e : Nat → Int} (c d : Nat) : ldg S b e (fun _ => 0) c d = 0 := by
  have := wsum_r (f := fun t => if (fun _ => (0 : Int)) t = 1 ∧ b t ≤ (d : Int) ∧ (d : Int) < min (e t) 5000 ∧ wkS S (S 6 t 0).toNat d = true then S 12 t c else 0) (M := 0) 24 (fun x _ => by
    simp)
  unfold ldg
  omega
theorem LD.congr {G : Ctx} {h : AH} {a : Nat} {g g' : Nat → Nat → Int} {u : Int} (p : LD G h a g u) (q : ∀ c, c < 4 → ∀ d, g c d = g' c d) : LD G h a g' u := ⟨p.1, p.2.1, fun c hc => by rw [p.2.2 c hc, show g c = g' c from funext (q c hc)]⟩
theorem LV.congr {G : Ctx} {h : AH} {a : Nat} {b e : Nat → Int} {g g' : Nat → Nat → Int} {u : Int} {inn od : Nat → Int} {ct ld : Int} (p : LV G h a b e g u inn od ct ld) (q : ∀ c, c < 4 → ∀ d, g c d = g' c d) : LV G h a b e g' u inn od ct ld := ⟨p.1, p.2.1, p.2.2.1.congr q, p.2.2.2⟩
/-- a levelling under way: begins, ends, what is in, order, how many, the last day -/
abbrev LState : Type := (Nat → Int) × (Nat → Int) × (Nat → Int) × (Nat → Int) × Int × Int
def putS (s : LState) (t : Nat) (x y : Int) : LState := (fup s.1 t x, fup s.2.1 t y, fup s.2.2.1 t 1, fup s.2.2.2.1 s.2.2.2.2.1.toNat (t : Int), s.2.2.2.2.1 + 1, max s.2.2.2.2.2 y)
def LVS (G : Ctx) (h : AH) (a : Nat) (S : ST) (s : LState) (u : Int) : Prop := LV G h a s.1 s.2.1 (ldg S s.1 s.2.1 s.2.2.1) u s.2.2.1 s.2.2.2.1 s.2.2.2.2.1 s.2.2.2.2.2
/-- what holds of it all along -/
def LI (s : LState) (u : Int) : Prop := (∀ x, s.2.2.1 x = 0 ∨ s.2.2.1 x = 1) ∧ (∀ x, x < 24 → (-1 ≤ s.1 x ∧ s.1 x ≤ 5000 + 20 * s.2.2.2.2.1) ∧ -1 ≤ s.2.1 x ∧ s.2.1 x ≤ 5000 + 20 * s.2.2.2.2.1) ∧ wsum s.2.2.1 24 = s.2.2.2.2.1 ∧ (∀ x, x < 24 → s.2.2.1 x = 1 → min (s.2.1 x) 5000 ≤ u) ∧ (0 ≤ u ∧ u ≤ 5000) ∧ (0 ≤ s.2.2.2.2.2 ∧ s.2.2.2.2.2 ≤ 5000 + 20 * s.2.2.2.2.1) ∧ 0 ≤ s.2.2.2.2.1 ∧ s.2.2.2.2.1 ≤ 24
theorem LI.lt {s : LState} {u : Int} (p : LI s u) {t : Nat} (ht : t < 24) (h0 : s.2.2.1 t = 0) : s.2.2.2.2.1 ≤ 23 := by
  have a := wsum_up (f := s.2.2.1) (f' := fup s.2.2.1 t 1) 24 ht (fun x _ hx => fupn hx)
  have b := wsum_r (f := fup s.2.2.1 t 1) (M := 1) 24 (fun x _ => by
    have := p.1 x
    unfold fup
    split <;> omega)
  rw [fupe, h0, p.2.2.1] at a
  omega
theorem LI.put {s : LState} {u : Int} (p : LI s u) {t : Nat} {x y : Int} (ht : t < 24) (h0 : s.2.2.1 t = 0) (hx : 0 ≤ x ∧ x ≤ 5000 + 20 * (s.2.2.2.2.1 + 1)) (hy : 0 ≤ y ∧ y ≤ 5000 + 20 * (s.2.2.2.2.1 + 1)) : LI (putS s t x y) (max u (min y 5000)) := by
  have hl := p.lt ht h0
  obtain ⟨p1, p2, p3, p4, p5, p6, p7⟩ := p
  refine ⟨fun z => ?_, fun z hz => ?_, ?_, fun z hz hi => ?_, by omega, ?_, ?_⟩
  · show fup s.2.2.1 t 1 z = 0 ∨ fup s.2.2.1 t 1 z = 1
    have := p1 z
    unfold fup
    split <;> omega
  · show (-1 ≤ fup s.1 t x z ∧ fup s.1 t x z ≤ 5000 + 20 * (s.2.2.2.2.1 + 1)) ∧ -1 ≤ fup s.2.1 t y z ∧ fup s.2.1 t y z ≤ 5000 + 20 * (s.2.2.2.2.1 + 1)
    have := p2 z hz
    unfold fup
    split <;> omega
  · show wsum (fup s.2.2.1 t 1) 24 = s.2.2.2.2.1 + 1
    rw [wsum_up (f := s.2.2.1) (f' := fup s.2.2.1 t 1) 24 ht (fun x _ hx => fupn hx), fupe, h0, p3]
    omega
  · have hi : fup s.2.2.1 t 1 z = 1 := hi
    show min (fup s.2.1 t y z) 5000 ≤ max u (min y 5000)
    by_cases hzt : z = t
    · rw [hzt, fupe]; omega
    · rw [fupn hzt] at hi ⊢
      have := p4 z hz hi
      omega
  · show 0 ≤ max s.2.2.2.2.2 y ∧ max s.2.2.2.2.2 y ≤ 5000 + 20 * (s.2.2.2.2.1 + 1)
    omega
  · show 0 ≤ s.2.2.2.2.1 + 1 ∧ s.2.2.2.2.1 + 1 ≤ 24
    omega
section Levr
variable {G : Ctx} {h : AH} {N a : Nat} {S : ST}
theorem c_putIn0 {t : Nat} {b e : Nat → Int} {u x y : Int} {inn od : Nat → Int} {ct ld : Int} (ha : cB G + 108 ≤ a) (V : LV G h a b e (ldg S b e inn) u inn od ct ld) (H : HP G S h) (w : WF S) (ht : t < 24) (hi0 : inn t = 0) (hx : 0 ≤ x ∧ x ≤ 20000) (hy : 0 ≤ y ∧ y ≤ 20000) (hu : 0 ≤ u ∧ u ≤ 5000) (hct : 0 ≤ ct ∧ ct < 24) (hld : 0 ≤ ld ∧ ld ≤ 20000) : CT G mX3_putIn [.ref a, JV (t : Int), JV x, JV y] h N 0 0 (fun r h' N' => r = none ∧ N' = N ∧ LV G h' a (fup b t x) (fup e t y) (ldg S (fup b t x) (fup e t y) (fup inn t 1)) (max u (min y 5000)) (fup inn t 1) (fup od ct.toNat (t : Int)) (ct + 1) (max ld y) ∧ HP G S h' ∧ FR a (a + 12) h h') := by
  refine CT_of (by decide +kernel) rfl (by simp [Value.category]) (Nat.le_of_ble_eq_true rfl) ?_
  change WP G mX3_putIn _ noX _ _ h N 0 [some (.ref a), some (JV (t : Int)), some (JV x), some (JV y)] []
  have wt := w.task ht
  refine wp_aload_n dX3_putIn_0 rfl ?_
  refine wp_get fkX3_12 dX3_putIn_1 V.1 rfl ?_
  refine wp_iload_n dX3_putIn_4 rfl ?_
  refine wp_iload_n dX3_putIn_5 rfl ?_
  refine wp_iload_n dX3_putIn_6 rfl ?_
  refine wp_v3 0 0 (c_set (N := N) (t := (t : Int)) (x := x) (y := y) V.2.1 (by omega)) cvX3_97 dX3_putIn_7 ⟨Nat.le_of_ble_eq_true rfl, Nat.le_of_ble_eq_true rfl⟩ (Nat.le_of_ble_eq_true rfl) V.2.1.1 rfl rfl (by omega) (by omega) (fun r h9 N9 hq => ?_)
  obtain ⟨rfl, hN9, p9, f9⟩ := hq
  rw [hN9]
  rw [Int.toNat_natCast] at p9
  obtain ⟨b9, hb9⟩ : ∃ f9 : Nat → Int, f9 = fup b t x := ⟨_, rfl⟩
  obtain ⟨e9, he9⟩ : ∃ f9 : Nat → Int, f9 = fup e t y := ⟨_, rfl⟩
  rw [← hb9, ← he9] at p9
  have V9 := V.pl p9 f9
  have H9 := H.fr f9 (by omega)
  change WP G mX3_putIn _ _ _ _ h9 N 10 [some (.ref a), some (JV (t : Int)), some (JV x), some (JV y)] []
  refine wp_aload_n dX3_putIn_10 rfl ?_
  refine wp_get fkX3_21 dX3_putIn_11 V9.1 rfl ?_
  refine wp_aload_n dX3_putIn_14 rfl ?_
  refine wp_get fkX3_33 dX3_putIn_15 V9.1 rfl ?_
  refine wp_get fkX3_46 dX3_putIn_18 H9.1 rfl ?_
  refine wp_iload_n dX3_putIn_21 rfl ?_
  refine wp_aaload dX3_putIn_22 H9.2.2.2.1 rfl rfl (by omega) (by omega) (by omega) (if_pos (by omega)) ?_
  change WP G mX3_putIn _ _ _ _ h9 N 23 [some (.ref a), some (JV (t : Int)), some (JV x), some (JV y)] [.ref (cB G + 20 + 2 * t), .ref (a + 4)]
  refine wp_aload_n dX3_putIn_23 rfl ?_
  refine wp_get fkX3_33 dX3_putIn_24 V9.1 rfl ?_
  refine wp_iload_n dX3_putIn_27 rfl ?_
  refine wp_v1p (c_calendarOf (N := N) H9 w ht) cvX3_78 dX3_putIn_28 ⟨Nat.le_of_ble_eq_true rfl, Nat.le_of_ble_eq_true rfl⟩ (Nat.le_of_ble_eq_true rfl) H9.1 rfl rfl ?_
  refine wp_iload_n dX3_putIn_31 rfl ?_
  refine wp_iload_n dX3_putIn_32 rfl ?_
  refine wp_v4 0 0 (c_add (N := N) (t := t) (q := (S 6 t 0).toNat) (b := x) (e := y) V9.2.2.1 H9 (by omega) w ht (by omega) (by omega) (by omega) hu) cvX3_100 dX3_putIn_33 ⟨Nat.le_of_ble_eq_true rfl, Nat.le_of_ble_eq_true rfl⟩ (Nat.le_of_ble_eq_true rfl) V9.2.2.1.1 rfl rfl (by omega) (by omega) (fun r h8 N9 hq => ?_)
  obtain ⟨rfl, hN9, g8, p8, H8', q8, f8⟩ := hq
  rw [hN9]
  have V8 := V9.ldU p8 f8
  have H8 := H9.fr f8 (by omega)
  have V8 := V8.congr (g' := ldg S b9 e9 (fup inn t 1)) (fun c hc d => by rw [q8 c hc d, hb9, he9, ldg_put ht hi0])
  change WP G mX3_putIn _ _ _ _ h8 N 36 [some (.ref a), some (JV (t : Int)), some (JV x), some (JV y)] []
  refine wp_aload_n dX3_putIn_36 rfl ?_
  refine wp_get fkX3_25 dX3_putIn_37 V8.1 rfl ?_
  refine wp_iload_n dX3_putIn_40 rfl ?_
  refine wp_iconst dX3_putIn_41 ?_
  refine wp_zastore dX3_putIn_42 V8.2.2.2.1 (by omega) (by omega) (by omega) (Or.inr rfl) ?_
  obtain ⟨h_1, eh_1⟩ : ∃ hh9 : AH, hh9 = hup h8 (a + 10) (eZ G 24 (fup inn t 1)) := ⟨_, rfl⟩
  refine WP.heq eh_1 ?_
  obtain ⟨inn_1, einn_1⟩ : ∃ ss9 : Nat → Int, ss9 = fup inn t 1 := ⟨_, rfl⟩
  have V_1 : LV G h_1 a b9 e9 (ldg S b9 e9 (fup inn t 1)) (max u (min y 5000)) inn_1 od ct ld := by rw [einn_1]; exact V8.inU eh_1
  have HX_1 : HP G S h_1 := H8.frame (fun q9 hq9 hq8 => hup_at eh_1 (by omega))
  refine wp_aload_n dX3_putIn_43 rfl ?_
  refine wp_get fkX3_29 dX3_putIn_44 V_1.1 rfl ?_
  refine wp_aload_n dX3_putIn_47 rfl ?_
  refine wp_get fkX3_91 dX3_putIn_48 V_1.1 rfl ?_
  refine wp_iload_n dX3_putIn_51 rfl ?_
  refine wp_iastore dX3_putIn_52 V_1.2.2.2.2 (by omega) (by omega) (by omega) ?_
  obtain ⟨h_2, eh_2⟩ : ∃ hh9 : AH, hh9 = hup h_1 (a + 11) (eI G 24 (fup od ct.toNat (t : Int))) := ⟨_, rfl⟩
  refine WP.heq eh_2 ?_
  obtain ⟨od_2, eod_2⟩ : ∃ ss9 : Nat → Int, ss9 = fup od ct.toNat (t : Int) := ⟨_, rfl⟩
  have V_2 : LV G h_2 a b9 e9 (ldg S b9 e9 (fup inn t 1)) (max u (min y 5000)) inn_1 od_2 ct ld := by rw [eod_2]; exact V_1.ordr eh_2
  have HX_2 : HP G S h_2 := HX_1.frame (fun q9 hq9 hq8 => hup_at eh_2 (by omega))
  refine wp_aload_n dX3_putIn_53 rfl ?_
  refine wp_dup dX3_putIn_54 rfl ?_
  refine wp_get fkX3_91 dX3_putIn_55 V_2.1 rfl ?_
  refine wp_iconst dX3_putIn_58 ?_
  refine wp_iadd dX3_putIn_59 ?_
  refine wp_put fkX3_91 dX3_putIn_60 V_2.1 rfl rfl (Nat.le_of_ble_eq_true rfl) ?_
  obtain ⟨h_3, eh_3⟩ : ∃ hh9 : AH, hh9 = hup h_2 a (eO 3 [.ref (cB G + 1), .ref (a + 1), .ref (a + 4), .ref (a + 10), .ref (a + 11), JV (ct + 1), JV ld]) := ⟨_, rfl⟩
  refine WP.heq eh_3 ?_
  obtain ⟨ct_3, ect_3⟩ : ∃ ss9 : Int, ss9 = ct + 1 := ⟨_, rfl⟩
  have V_3 : LV G h_3 a b9 e9 (ldg S b9 e9 (fup inn t 1)) (max u (min y 5000)) inn_1 od_2 ct_3 ld := by rw [ect_3]; exact V_2.up eh_3
  have HX_3 : HP G S h_3 := HX_2.frame (fun q9 hq9 hq8 => hup_at eh_3 (by omega))
  refine wp_aload_n dX3_putIn_63 rfl ?_
  refine wp_aload_n dX3_putIn_64 rfl ?_
  refine wp_get fkX3_94 dX3_putIn_65 V_3.1 rfl ?_
  refine wp_iload_n dX3_putIn_68 rfl ?_
  refine wp_max dX3_putIn_69 maX3_104 w_max (Nat.le_of_ble_eq_true rfl) (Nat.le_of_ble_eq_true rfl) ⟨by omega, by omega⟩ ⟨by omega, by omega⟩ ?_
  refine wp_put fkX3_94 dX3_putIn_72 V_3.1 rfl rfl (Nat.le_of_ble_eq_true rfl) ?_
  obtain ⟨h_4, eh_4⟩ : ∃ hh9 : AH, hh9 = hup h_3 a (eO 3 [.ref (cB G + 1), .ref (a + 1), .ref (a + 4), .ref (a + 10), .ref (a + 11), JV ct_3, JV (max ld y)]) := ⟨_, rfl⟩
  refine WP.heq eh_4 ?_
  obtain ⟨ld_4, eld_4⟩ : ∃ ss9 : Int, ss9 = max ld y := ⟨_, rfl⟩
  have V_4 : LV G h_4 a b9 e9 (ldg S b9 e9 (fup inn t 1)) (max u (min y 5000)) inn_1 od_2 ct_3 ld_4 := by rw [eld_4]; exact V_3.up eh_4
  have HX_4 : HP G S h_4 := HX_3.frame (fun q9 hq9 hq8 => hup_at eh_4 (by omega))
  refine wp_vret dX3_putIn_75 rfl ?_
  refine ⟨rfl, rfl, ?_, HX_4, ?_⟩
  · have := V_4
    rw [ect_3, einn_1, eod_2, eld_4, hb9, he9] at this
    exact this
  · exact ((((((f9.mono (lo' := a) (hi' := a + 12) (by omega) (by omega)).tr (f8.mono (by omega) (by omega))).up eh_1 ⟨by omega, by omega⟩).up eh_2 ⟨by omega, by omega⟩).up eh_3 ⟨by omega, by omega⟩).up eh_4 ⟨by omega, by omega⟩)

theorem c_putIn {t : Nat} {s : LState} {u x y : Int} (ha : cB G + 108 ≤ a) (V : LVS G h a S s u) (H : HP G S h) (w : WF S) (li : LI s u) (ht : t < 24) (hi0 : s.2.2.1 t = 0) (hx : 0 ≤ x ∧ x ≤ 20000) (hy : 0 ≤ y ∧ y ≤ 20000) : CT G mX3_putIn [.ref a, JV (t : Int), JV x, JV y] h N 0 0 (fun r h' N' => r = none ∧ N' = N ∧ LVS G h' a S (putS s t x y) (max u (min y 5000)) ∧ HP G S h' ∧ FR a (a + 12) h h') := by
  have hl := li.lt ht hi0
  obtain ⟨p1, p2, p3, p4, p5, p6, p7⟩ := li
  exact c_putIn0 ha V H w ht hi0 hx hy p5 ⟨p7.1, by omega⟩ (by omega)
theorem LV.ext {μ : MI} {Q : PQ} {X : PX} {k n pc : Nat} {L : List (Option Value)} {st : List Value} {b e b' e' : Nat → Int} {g : Nat → Nat → Int} {u : Int} {inn inn' od : Nat → Int} {ct ld : Int} (V : LV G h a b e g u inn od ct ld) (hb : ∀ j, j < 24 → b j = b' j) (he : ∀ j, j < 24 → e j = e' j) (hi : ∀ j, j < 24 → inn j = inn' j) (kk : ∀ h', LV G h' a b' e' g u inn' od ct ld → FR a (a + 12) h h' → WP G μ Q X k n h' N pc L st) : WP G μ Q X k n h N pc L st := by
  refine WP.ext V.2.1.2.1 (ext_i hb) ?_
  have V1 : LV G (hup h (a + 1 + 1) (eI G 24 b')) a b' e g u inn od ct ld := V.pl ⟨(hup_ne (by omega)).trans V.2.1.1, hup_self _ _ _, (hup_ne (by omega)).trans V.2.1.2.2⟩ (FR.rf.up rfl ⟨by omega, by omega⟩)
  refine WP.ext V1.2.1.2.2 (ext_i he) ?_
  have V2 : LV G (hup (hup h (a + 1 + 1) (eI G 24 b')) (a + 1 + 2) (eI G 24 e')) a b' e' g u inn od ct ld := V1.pl ⟨(hup_ne (by omega)).trans V1.2.1.1, (hup_ne (by omega)).trans V1.2.1.2.1, hup_self _ _ _⟩ (FR.rf.up rfl ⟨by omega, by omega⟩)
  refine WP.ext V2.2.2.2.1 (ext_i hi) ?_
  exact kk _ (V2.inU rfl) (((FR.rf.up rfl ⟨by omega, by omega⟩).up rfl ⟨by omega, by omega⟩).up rfl ⟨by omega, by omega⟩)
theorem l_clearL {Q : PQ} {X : PX} {k9 n9 : Nat} {h0 : AH} {g : Nat → Nat → Int} {od : Nat → Int} : ∀ (m : Nat) (i : Nat) (b e inn : Nat → Int) (h : AH), (24 - i = m) → (i ≤ 24) → (LV G h a b e g 0 inn od 0 0) → (∀ x, x < i → b x = -1 ∧ e x = -1 ∧ inn x = 0) → (FR a (a + 12) h0 h) → (∀ (h' : AH), LV G h' a (fun _ => -1) (fun _ => -1) g 0 (fun _ => 0) od 0 0 → FR a (a + 12) h0 h' → Q none h' N) → WP G mX3_clear Q X k9 n9 h N 19 [some (.ref a), some (JV (i : Int))] [] := by
  intro m
  induction m with
  | zero =>
    intro i b e inn h hm hi V hz fr kk
    refine wp_iload_n dX3_clear_19 rfl ?_
    refine wp_bipush dX3_clear_20 rfl ?_
    refine wp_icmp_ge 48 dX3_clear_22 (by decide) ⟨by omega, by omega⟩ ⟨by omega, by omega⟩ (fun c_22 => ?_) (fun c_22 => ?_)
    · refine V.ext (fun j hj => (hz j (by omega)).1) (fun j hj => (hz j (by omega)).2.1) (fun j hj => (hz j (by omega)).2.2) (fun h8 V8 f8 => ?_)
      refine wp_vret dX3_clear_48 rfl ?_
      exact kk h8 V8 (fr.tr f8)
    · exact absurd c_22 (by omega)
  | succ m ih =>
    intro i b e inn h hm hi V hz fr kk
    refine wp_iload_n dX3_clear_19 rfl ?_
    refine wp_bipush dX3_clear_20 rfl ?_
    refine wp_icmp_ge 48 dX3_clear_22 (by decide) ⟨by omega, by omega⟩ ⟨by omega, by omega⟩ (fun c_22 => ?_) (fun c_22 => ?_)
    · exact absurd c_22 (by omega)
    · refine wp_aload_n dX3_clear_25 rfl ?_
      refine wp_get fkX3_25 dX3_clear_26 V.1 rfl ?_
      refine wp_iload_n dX3_clear_29 rfl ?_
      refine wp_iconst dX3_clear_30 ?_
      refine wp_zastore dX3_clear_31 V.2.2.2.1 (by omega) (by omega) (by omega) (Or.inl rfl) ?_
      obtain ⟨h_1, eh_1⟩ : ∃ hh9 : AH, hh9 = hup h (a + 10) (eZ G 24 (fup inn i 0)) := ⟨_, rfl⟩
      refine WP.heq eh_1 ?_
      obtain ⟨inn_1, einn_1⟩ : ∃ ss9 : Nat → Int, ss9 = fup inn i 0 := ⟨_, rfl⟩
      have V_1 : LV G h_1 a b e g 0 inn_1 od 0 0 := by rw [einn_1]; exact V.inU eh_1
      refine wp_aload_n dX3_clear_32 rfl ?_
      refine wp_get fkX3_12 dX3_clear_33 V_1.1 rfl ?_
      refine wp_iload_n dX3_clear_36 rfl ?_
      refine wp_iconst dX3_clear_37 ?_
      refine wp_iconst dX3_clear_38 ?_
      refine wp_v3 k9 n9 (c_set (N := N) (t := (i : Int)) (x := -1) (y := -1) V_1.2.1 (by omega)) cvX3_97 dX3_clear_39 ⟨Nat.le_of_ble_eq_true rfl, Nat.le_of_ble_eq_true rfl⟩ (Nat.le_of_ble_eq_true rfl) V_1.2.1.1 rfl rfl (by omega) (by omega) (fun r h9 N9 hq => ?_)
      obtain ⟨rfl, hN9, p9, f9⟩ := hq
      rw [hN9]
      rw [Int.toNat_natCast] at p9
      have V9 := V_1.pl p9 f9
      change WP G mX3_clear _ _ _ _ h9 N 42 [some (.ref a), some (JV (i : Int))] []
      refine wp_iinc dX3_clear_42 rfl (Nat.le_of_ble_eq_true rfl) rfl ?_
      change WP G mX3_clear _ _ _ _ h9 N 45 [some (.ref a), some (JV ((i : Int) + 1))] []
      refine wp_goto 19 dX3_clear_45 (by decide) ?_
      refine ih (i + 1) _ _ _ _ (by omega) (by omega) V9 (fun x hx => ?_) ((fr.up eh_1 ⟨by omega, by omega⟩).tr (f9.mono (by omega) (by omega))) kk
      rw [einn_1]
      by_cases hxi : x = i
      · rw [hxi, fupe, fupe, fupe]; exact ⟨rfl, rfl, rfl⟩
      · rw [fupn hxi, fupn hxi, fupn hxi]; exact hz x (by omega)

theorem c_clearL {b e : Nat → Int} {g : Nat → Nat → Int} {u : Int} {inn od : Nat → Int} {ct ld : Int} (V : LV G h a b e g u inn od ct ld) (hu : 0 ≤ u ∧ u ≤ 5000) (hz : ∀ c, c < 4 → ∀ d : Nat, u ≤ (d : Int) → g c d = 0) : CT G mX3_clear [.ref a] h N 0 0 (fun r h' N' => r = none ∧ N' = N ∧ LV G h' a (fun _ => -1) (fun _ => -1) (fun _ _ => 0) 0 (fun _ => 0) od 0 0 ∧ FR a (a + 12) h h') := by
  refine CT_of (by decide +kernel) rfl (by simp [Value.category]) (Nat.le_of_ble_eq_true rfl) ?_
  change WP G mX3_clear _ noX _ _ h N 0 [some (.ref a), none] []
  refine wp_aload_n dX3_clear_0 rfl ?_
  refine wp_get fkX3_21 dX3_clear_1 V.1 rfl ?_
  refine wp_v0 0 0 (c_clear (N := N) V.2.2.1 hu) cvX3_90 dX3_clear_4 ⟨Nat.le_of_ble_eq_true rfl, Nat.le_of_ble_eq_true rfl⟩ (Nat.le_of_ble_eq_true rfl) V.2.2.1.1 rfl rfl (by omega) (by omega) (fun r h9 N9 hq => ?_)
  obtain ⟨rfl, hN9, g9, p9, q9, f9⟩ := hq
  rw [hN9]
  have V9 := V.ldU p9 f9
  have V9 := V9.congr (g' := fun _ _ => 0) (fun c hc d => by rw [q9 c hc d]; split; rfl; exact hz c hc d (by omega))
  change WP G mX3_clear _ _ _ _ h9 N 7 [some (.ref a), none] []
  refine wp_aload_n dX3_clear_7 rfl ?_
  refine wp_iconst dX3_clear_8 ?_
  refine wp_put fkX3_91 dX3_clear_9 V9.1 rfl rfl (Nat.le_of_ble_eq_true rfl) ?_
  obtain ⟨h_1, eh_1⟩ : ∃ hh9 : AH, hh9 = hup h9 a (eO 3 [.ref (cB G + 1), .ref (a + 1), .ref (a + 4), .ref (a + 10), .ref (a + 11), JV 0, JV ld]) := ⟨_, rfl⟩
  refine WP.heq eh_1 ?_
  obtain ⟨ct_1, ect_1⟩ : ∃ ss9 : Int, ss9 = 0 := ⟨_, rfl⟩
  have V_1 : LV G h_1 a b e (fun _ _ => 0) 0 inn od ct_1 ld := by rw [ect_1]; exact V9.up eh_1
  refine wp_aload_n dX3_clear_12 rfl ?_
  refine wp_iconst dX3_clear_13 ?_
  refine wp_put fkX3_94 dX3_clear_14 V_1.1 rfl rfl (Nat.le_of_ble_eq_true rfl) ?_
  obtain ⟨h_2, eh_2⟩ : ∃ hh9 : AH, hh9 = hup h_1 a (eO 3 [.ref (cB G + 1), .ref (a + 1), .ref (a + 4), .ref (a + 10), .ref (a + 11), JV ct_1, JV 0]) := ⟨_, rfl⟩
  refine WP.heq eh_2 ?_
  obtain ⟨ld_2, eld_2⟩ : ∃ ss9 : Int, ss9 = 0 := ⟨_, rfl⟩
  have V_2 : LV G h_2 a b e (fun _ _ => 0) 0 inn od ct_1 ld_2 := by rw [eld_2]; exact V_1.up eh_2
  refine wp_iconst dX3_clear_17 ?_
  refine wp_istore_n dX3_clear_18 (Nat.le_of_ble_eq_true rfl) rfl ?_
  change WP G mX3_clear _ _ _ _ h_2 N 19 [some (.ref a), some (JV 0)] []
  rw [ect_1, eld_2] at V_2
  refine l_clearL _ 0 b e inn h_2 rfl (by omega) V_2 (fun x hx => absurd hx (by omega)) (((f9.mono (by omega) (by omega)).up eh_1 ⟨by omega, by omega⟩).up eh_2 ⟨by omega, by omega⟩) (fun h8 z1 z2 => ⟨rfl, rfl, z1, z2⟩)

theorem LI.z {S : ST} {s : LState} {u : Int} (p : LI s u) : ∀ c, c < 4 → ∀ d : Nat, u ≤ (d : Int) → ldg S s.1 s.2.1 s.2.2.1 c d = 0 := fun c _ d hd => by
  unfold ldg
  rw [wsum_congr (f' := fun _ => 0) 24 (fun x hx => if_neg (fun q => by have := p.2.2.2.1 x hx q.1; omega))]
  rfl
/-- the levelling before anything is in -/
def lv0 (od : Nat → Int) : LState := (fun _ => -1, fun _ => -1, fun _ => 0, od, 0, 0)
theorem LI.i0 (od : Nat → Int) : LI (lv0 od) 0 := ⟨fun _ => Or.inl rfl, fun x _ => by show (-1 ≤ (-1 : Int) ∧ (-1 : Int) ≤ 5000 + 20 * 0) ∧ -1 ≤ (-1 : Int) ∧ (-1 : Int) ≤ 5000 + 20 * 0; omega, rfl, fun x _ h => absurd (show (0 : Int) = 1 from h) (by decide), by omega, by show 0 ≤ (0 : Int) ∧ (0 : Int) ≤ 5000 + 20 * 0; omega, by show 0 ≤ (0 : Int) ∧ (0 : Int) ≤ 24; omega⟩
def lvD (S : ST) : Nat → Nat → LState → LState
  | 0, _, s => s
  | m + 1, i, s => lvD S m (i + 1) (if S 9 i 0 = 0 then s else putS s i (S 10 i 0) (S 11 i 0))
def nxtL (S : ST) (lb rm : Nat → Int) (rl : Int) (s : LState) : Int := chs S lb rm rl s.2.2.1 (S 13 0 0).toNat 0 (-1) 0
def begL (S : ST) (s : LState) (t : Nat) : Int := fwc S (ldg S s.1 s.2.1 s.2.2.1) t (5000 - (fday S s.1 s.2.1 t).toNat) (fday S s.1 s.2.1 t).toNat 0 (fday S s.1 s.2.1 t)
def lvR (S : ST) (lb rm : Nat → Int) (rl : Int) : Nat → LState → LState
  | 0, s => s
  | m + 1, s => if nxtL S lb rm rl s < 0 then s else lvR S lb rm rl m (putS s (nxtL S lb rm rl s).toNat (begL S s (nxtL S lb rm rl s).toNat) (endS S (nxtL S lb rm rl s).toNat (begL S s (nxtL S lb rm rl s).toNat)))
theorem chs_spec {S : ST} {lb rm : Nat → Int} {rl : Int} {inn : Nat → Int} : ∀ (m i : Nat) (y z : Int), chs S lb rm rl inn m i y z = y ∨ ∃ x : Nat, i ≤ x ∧ x < i + m ∧ chs S lb rm rl inn m i y z = (x : Int) ∧ inn x = 0 ∧ tooL S x = false ∧ opn S inn (x : Int) (S 14 0 0).toNat 0 = true
  | 0, i, y, z => Or.inl rfl
  | m + 1, i, y, z => by
    unfold chs
    split
    · rename_i hc
      rcases chs_spec (S := S) (lb := lb) (rm := rm) (rl := rl) (inn := inn) m (i + 1) (i : Int) (keyF S lb rm rl i) with h | ⟨x, h1, h2, h3, h4⟩
      · exact Or.inr ⟨i, Nat.le_refl _, by omega, h, hc.1, hc.2.1, hc.2.2.1⟩
      · exact Or.inr ⟨x, by omega, by omega, h3, h4⟩
    · rcases chs_spec (S := S) (lb := lb) (rm := rm) (rl := rl) (inn := inn) m (i + 1) y z with h | ⟨x, h1, h2, h3, h4⟩
      · exact Or.inl h
      · exact Or.inr ⟨x, by omega, by omega, h3, h4⟩
theorem fwc_r {S : ST} {g : Nat → Nat → Int} {t : Nat} {M : Int} (hM : 5000 ≤ M) : ∀ (m d : Nat) (f y : Int), (m = 0 ∨ d + m ≤ 5000) → 0 ≤ y → y ≤ M → 0 ≤ fwc S g t m d f y ∧ fwc S g t m d f y ≤ M
  | 0, d, f, y, _, h1, h2 => ⟨h1, h2⟩
  | m + 1, d, f, y, h0, h1, h2 => by
    unfold fwc
    split
    · split
      · split
        · refine fwc_r hM m (d + 1) _ _ (by omega) ?_ ?_ <;> split <;> omega
        · exact fwc_r hM m (d + 1) _ _ (by omega) h1 h2
      · exact fwc_r hM m (d + 1) _ _ (by omega) h1 h2
    · exact ⟨h1, h2⟩
theorem l_reckon2 {Q : PQ} {X : PX} {k9 n9 : Nat} {S : ST} {h0 : AH} {q : Nat} {eb ee lb le rm : Nat → Int} {ld2 rl : Int} (ha : cB G + 108 ≤ a) (hq : q + 8 ≤ a ∨ a + 12 ≤ q) (w : WF S) (pl : PB lb le) (rb : RB rm) (hr : 0 ≤ rl ∧ rl ≤ 3) : ∀ (m : Nat) (j : Nat) (s : LState) (u : Int) (h : AH) (x4 x5 : Option Value), ((S 13 0 0).toNat - j = m) → (j ≤ 24) → (LVS G h a S s u) → (HP G S h) → (NW G h q eb ee lb le rm ld2) → (LI s u) → (FR a (a + 12) h0 h) → (∀ (u' : Int) (h' : AH), LVS G h' a S (lvR S lb rm rl m s) u' → HP G S h' → LI (lvR S lb rm rl m s) u' → FR a (a + 12) h0 h' → Q none h' N) → WP G mX3_reckon Q X k9 n9 h N 59 [some (.ref a), some (.ref q), some (JV rl), some (JV (j : Int)), x4, x5] [] := by
  intro m
  induction m with
  | zero =>
    intro j s u h x4 x5 hm hj V H W li fr kk
    have wT := w.nT
    refine wp_iload_n dX3_reckon_59 rfl ?_
    refine wp_aload_n dX3_reckon_60 rfl ?_
    refine wp_get fkX3_33 dX3_reckon_61 V.1 rfl ?_
    refine wp_get fkX3_40 dX3_reckon_64 H.1 rfl ?_
    refine wp_icmp_ge 146 dX3_reckon_67 (by decide) ⟨by omega, by omega⟩ ⟨by omega, by omega⟩ (fun c_67 => ?_) (fun c_67 => ?_)
    · refine wp_vret dX3_reckon_146 rfl ?_
      exact kk u h V H li fr
    · exact absurd c_67 (by omega)
  | succ m ih =>
    intro j s u h x4 x5 hm hj V H W li fr kk
    have wT := w.nT
    refine wp_iload_n dX3_reckon_59 rfl ?_
    refine wp_aload_n dX3_reckon_60 rfl ?_
    refine wp_get fkX3_33 dX3_reckon_61 V.1 rfl ?_
    refine wp_get fkX3_40 dX3_reckon_64 H.1 rfl ?_
    refine wp_icmp_ge 146 dX3_reckon_67 (by decide) ⟨by omega, by omega⟩ ⟨by omega, by omega⟩ (fun c_67 => ?_) (fun c_67 => ?_)
    · exact absurd c_67 (by omega)
    · refine wp_aload_n dX3_reckon_70 rfl ?_
      refine wp_aload_n dX3_reckon_71 rfl ?_
      refine wp_iload_n dX3_reckon_72 rfl ?_
      refine wp_v2p (c_choose (N := N) V H w W li.1 pl rb hr) cvX3_66 dX3_reckon_73 ⟨Nat.le_of_ble_eq_true rfl, Nat.le_of_ble_eq_true rfl⟩ (Nat.le_of_ble_eq_true rfl) V.1 rfl rfl ?_
      have hsp := chs_spec (S := S) (lb := lb) (rm := rm) (rl := rl) (inn := s.2.2.1) (S 13 0 0).toNat 0 (-1) 0
      have hnr : -1 ≤ nxtL S lb rm rl s ∧ nxtL S lb rm rl s < 24 := by
        unfold nxtL
        rcases hsp with g | ⟨x, x1, x2, x3, _⟩ <;> omega
      refine wp_istore dX3_reckon_76 (Nat.le_of_ble_eq_true rfl) rfl ?_
      change WP G mX3_reckon _ _ _ _ h N 78 [some (.ref a), some (.ref q), some (JV rl), some (JV (j : Int)), some (JV (nxtL S lb rm rl s)), x5] []
      refine wp_iload dX3_reckon_78 rfl ?_
      refine wp_if_ge 84 dX3_reckon_80 (by decide) ⟨by omega, by omega⟩ (fun c_80 => ?_) (fun c_80 => ?_)
      · obtain ⟨t, et, ht, hi0⟩ : ∃ t : Nat, nxtL S lb rm rl s = (t : Int) ∧ t < 24 ∧ s.2.2.1 t = 0 := by
          rcases hsp with g | ⟨x, x1, x2, x3, x4, _⟩
          · have g : nxtL S lb rm rl s = -1 := g
            omega
          · exact ⟨x, x3, by omega, x4⟩
        clear hsp
        rw [lvR, if_neg (show ¬ nxtL S lb rm rl s < 0 by omega), et, Int.toNat_natCast] at kk
        rw [et]
        have hl := li.lt ht hi0
        have li7 := li.2.2.2.2.2.2
        have wt := w.task ht
        have pb : PB s.1 s.2.1 := fun x hx => by have := li.2.1 x hx; omega
        have hfd := fday_r (b := s.1) (e := s.2.1) (M := 5000 + 20 * s.2.2.2.2.1) w ht (by omega) (fun j h1 h2 => by have wi := w.at (i := j) (by have := w.nL; omega); have := li.2.1 (lF S j).toNat (by show (S 19 (S 18 j 0).toNat 0).toNat < 24; omega); exact ⟨this.1.2, this.2.2⟩)
        have hbg : 0 ≤ begL S s t ∧ begL S s t ≤ 5020 + 20 * s.2.2.2.2.1 := fwc_r (M := 5020 + 20 * s.2.2.2.2.1) (by omega) _ _ _ _ (by omega) (by omega) (by omega)
        have hen := endS_r (S := S) (t := t) (d := begL S s t) hbg.1
        obtain ⟨d, ed⟩ : ∃ d : Nat, fday S s.1 s.2.1 t = (d : Int) := ⟨(fday S s.1 s.2.1 t).toNat, by omega⟩
        have ebg : begL S s t = fwc S (ldg S s.1 s.2.1 s.2.2.1) t (5000 - d) d 0 (d : Int) := by unfold begL; rw [ed, Int.toNat_natCast]
        refine wp_aload_n dX3_reckon_84 rfl ?_
        refine wp_iload dX3_reckon_85 rfl ?_
        refine wp_aload_n dX3_reckon_87 rfl ?_
        refine wp_get fkX3_33 dX3_reckon_88 V.1 rfl ?_
        refine wp_iload dX3_reckon_91 rfl ?_
        refine wp_aload_n dX3_reckon_93 rfl ?_
        refine wp_get fkX3_12 dX3_reckon_94 V.1 rfl ?_
        refine wp_v2p (c_firstDay (N := N) H w V.2.1 pb ht) cvX3_70 dX3_reckon_97 ⟨Nat.le_of_ble_eq_true rfl, Nat.le_of_ble_eq_true rfl⟩ (Nat.le_of_ble_eq_true rfl) H.1 rfl rfl ?_
        rw [ed]
        refine wp_v2p (c_firstWithCrews (N := N) (d := d) V H w (fun c hc x => by have := ldg_r w (b := s.1) (e := s.2.1) (inn := s.2.2.1) c x; omega) ht (by omega)) cvX3_74 dX3_reckon_100 ⟨Nat.le_of_ble_eq_true rfl, Nat.le_of_ble_eq_true rfl⟩ (Nat.le_of_ble_eq_true rfl) V.1 rfl rfl ?_
        rw [← ebg]
        refine wp_istore dX3_reckon_103 (Nat.le_of_ble_eq_true rfl) rfl ?_
        change WP G mX3_reckon _ _ _ _ h N 105 [some (.ref a), some (.ref q), some (JV rl), some (JV (j : Int)), some (JV (t : Int)), some (JV (begL S s t))] []
        refine wp_aload_n dX3_reckon_105 rfl ?_
        refine wp_iload dX3_reckon_106 rfl ?_
        refine wp_iload dX3_reckon_108 rfl ?_
        refine wp_aload_n dX3_reckon_110 rfl ?_
        refine wp_get fkX3_33 dX3_reckon_111 V.1 rfl ?_
        refine wp_iload dX3_reckon_114 rfl ?_
        refine wp_v1p (c_calendarOf (N := N) H w ht) cvX3_78 dX3_reckon_116 ⟨Nat.le_of_ble_eq_true rfl, Nat.le_of_ble_eq_true rfl⟩ (Nat.le_of_ble_eq_true rfl) H.1 rfl rfl ?_
        refine wp_iload dX3_reckon_119 rfl ?_
        refine wp_aload_n dX3_reckon_121 rfl ?_
        refine wp_get fkX3_33 dX3_reckon_122 V.1 rfl ?_
        refine wp_get fkX3_46 dX3_reckon_125 H.1 rfl ?_
        refine wp_iload dX3_reckon_128 rfl ?_
        refine wp_aaload dX3_reckon_130 H.2.2.2.1 rfl rfl (by omega) (by omega) (by omega) (if_pos (by omega)) ?_
        change WP G mX3_reckon _ _ _ _ h N 131 [some (.ref a), some (.ref q), some (JV rl), some (JV (j : Int)), some (JV (t : Int)), some (JV (begL S s t))] [.ref (cB G + 20 + 2 * t), JV (begL S s t), .ref (cB G + 8 + 2 * (S 6 t 0).toNat), JV (begL S s t), JV (t : Int), .ref a]
        refine wp_get fkX3_82 dX3_reckon_131 (H.2.2.2.2.2.2.2.2.2.2.1 t (by omega)) rfl ?_
        refine wp_v2p (c_endOf (N := N) (H.cal w (c := (S 6 t 0).toNat) (by omega)) (by omega) (by omega) (by omega) (by omega)) cvX3_85 dX3_reckon_134 ⟨Nat.le_of_ble_eq_true rfl, Nat.le_of_ble_eq_true rfl⟩ (Nat.le_of_ble_eq_true rfl) (H.2.2.2.2.2.2.2.1 (S 6 t 0).toNat (by omega)) rfl rfl ?_
        refine wp_v3 k9 n9 (c_putIn (N := N) (t := t) (s := s) (x := begL S s t) (y := endS S t (begL S s t)) ha V H w li ht hi0 (by omega) (by omega)) cvX3_62 dX3_reckon_137 ⟨Nat.le_of_ble_eq_true rfl, Nat.le_of_ble_eq_true rfl⟩ (Nat.le_of_ble_eq_true rfl) V.1 rfl rfl (by omega) (by omega) (fun r h9 N9 hq => ?_)
        obtain ⟨rfl, hN9, V9, H9, f9⟩ := hq
        rw [hN9]
        have W9 := W.frame (fun z h1 h2 => f9 z (by omega))
        change WP G mX3_reckon _ _ _ _ h9 N 140 [some (.ref a), some (.ref q), some (JV rl), some (JV (j : Int)), some (JV (t : Int)), some (JV (begL S s t))] []
        refine wp_iinc dX3_reckon_140 rfl (Nat.le_of_ble_eq_true rfl) rfl ?_
        change WP G mX3_reckon _ _ _ _ h9 N 143 [some (.ref a), some (.ref q), some (JV rl), some (JV ((j : Int) + 1)), some (JV (t : Int)), some (JV (begL S s t))] []
        refine wp_goto 59 dX3_reckon_143 (by decide) ?_
        exact ih (j + 1) _ _ _ _ _ (by omega) (by omega) V9 H9 W9 (li.put ht hi0 (by omega) (by omega)) (fr.tr f9) kk
      · rw [lvR, if_pos (show nxtL S lb rm rl s < 0 by omega)] at kk
        refine wp_vret dX3_reckon_83 rfl ?_
        exact kk u h V H li fr

theorem l_reckon1 {Q : PQ} {X : PX} {k9 n9 : Nat} {S : ST} {h0 : AH} {q : Nat} {eb ee lb le rm : Nat → Int} {ld2 rl : Int} (ha : cB G + 108 ≤ a) (hq : q + 8 ≤ a ∨ a + 12 ≤ q) (w : WF S) (pl : PB lb le) (rb : RB rm) (hr : 0 ≤ rl ∧ rl ≤ 3) : ∀ (m : Nat) (i : Nat) (s : LState) (u : Int) (h : AH) (x4 x5 : Option Value), ((S 13 0 0).toNat - i = m) → (i ≤ 24) → (LVS G h a S s u) → (HP G S h) → (NW G h q eb ee lb le rm ld2) → (LI s u) → (∀ x, i ≤ x → s.2.2.1 x = 0) → (FR a (a + 12) h0 h) → (∀ (u' : Int) (h' : AH), LVS G h' a S (lvR S lb rm rl (S 13 0 0).toNat (lvD S m i s)) u' → HP G S h' → LI (lvR S lb rm rl (S 13 0 0).toNat (lvD S m i s)) u' → FR a (a + 12) h0 h' → Q none h' N) → WP G mX3_reckon Q X k9 n9 h N 6 [some (.ref a), some (.ref q), some (JV rl), some (JV (i : Int)), x4, x5] [] := by
  intro m
  induction m with
  | zero =>
    intro i s u h x4 x5 hm hi V H W li hin fr kk
    have wT := w.nT
    refine wp_iload_n dX3_reckon_6 rfl ?_
    refine wp_aload_n dX3_reckon_7 rfl ?_
    refine wp_get fkX3_33 dX3_reckon_8 V.1 rfl ?_
    refine wp_get fkX3_40 dX3_reckon_11 H.1 rfl ?_
    refine wp_icmp_ge 57 dX3_reckon_14 (by decide) ⟨by omega, by omega⟩ ⟨by omega, by omega⟩ (fun c_14 => ?_) (fun c_14 => ?_)
    · refine wp_iconst dX3_reckon_57 ?_
      refine wp_istore_n dX3_reckon_58 (Nat.le_of_ble_eq_true rfl) rfl ?_
      change WP G mX3_reckon _ _ _ _ h N 59 [some (.ref a), some (.ref q), some (JV rl), some (JV 0), x4, x5] []
      exact l_reckon2 ha hq w pl rb hr _ 0 s u h _ _ rfl (by omega) V H W li fr kk
    · exact absurd c_14 (by omega)
  | succ m ih =>
    intro i s u h x4 x5 hm hi V H W li hin fr kk
    have wT := w.nT
    refine wp_iload_n dX3_reckon_6 rfl ?_
    refine wp_aload_n dX3_reckon_7 rfl ?_
    refine wp_get fkX3_33 dX3_reckon_8 V.1 rfl ?_
    refine wp_get fkX3_40 dX3_reckon_11 H.1 rfl ?_
    refine wp_icmp_ge 57 dX3_reckon_14 (by decide) ⟨by omega, by omega⟩ ⟨by omega, by omega⟩ (fun c_14 => ?_) (fun c_14 => ?_)
    · exact absurd c_14 (by omega)
    · have ht : i < 24 := by omega
      have wt := w.task ht
      refine wp_aload_n dX3_reckon_17 rfl ?_
      refine wp_get fkX3_33 dX3_reckon_18 V.1 rfl ?_
      refine wp_get fkX3_46 dX3_reckon_21 H.1 rfl ?_
      refine wp_iload_n dX3_reckon_24 rfl ?_
      refine wp_aaload dX3_reckon_25 H.2.2.2.1 rfl rfl (by omega) (by omega) (by omega) (if_pos (by omega)) ?_
      change WP G mX3_reckon _ _ _ _ h N 26 [some (.ref a), some (.ref q), some (JV rl), some (JV (i : Int)), x4, x5] [.ref (cB G + 20 + 2 * i)]
      refine wp_astore dX3_reckon_26 (Nat.le_of_ble_eq_true rfl) rfl ?_
      change WP G mX3_reckon _ _ _ _ h N 28 [some (.ref a), some (.ref q), some (JV rl), some (JV (i : Int)), some (.ref (cB G + 20 + 2 * i)), x5] []
      refine wp_aload dX3_reckon_28 rfl ?_
      refine wp_get fkX3_50 dX3_reckon_30 (H.2.2.2.2.2.2.2.2.2.2.1 i (by omega)) rfl ?_
      refine wp_if_eq 51 dX3_reckon_33 (by decide) ⟨by omega, by omega⟩ (fun c_33 => ?_) (fun c_33 => ?_)
      · rw [lvD, if_pos c_33] at kk
        refine wp_iinc dX3_reckon_51 rfl (Nat.le_of_ble_eq_true rfl) rfl ?_
        change WP G mX3_reckon _ _ _ _ h N 54 [some (.ref a), some (.ref q), some (JV rl), some (JV ((i : Int) + 1)), some (.ref (cB G + 20 + 2 * i)), x5] []
        refine wp_goto 6 dX3_reckon_54 (by decide) ?_
        exact ih (i + 1) s u h _ _ (by omega) (by omega) V H W li (fun x hx => hin x (by omega)) fr kk
      · rw [lvD, if_neg c_33] at kk
        have hl := li.lt ht (hin i (by omega))
        have li7 := li.2.2.2.2.2.2
        refine wp_aload_n dX3_reckon_36 rfl ?_
        refine wp_iload_n dX3_reckon_37 rfl ?_
        refine wp_aload dX3_reckon_38 rfl ?_
        refine wp_get fkX3_56 dX3_reckon_40 (H.2.2.2.2.2.2.2.2.2.2.1 i (by omega)) rfl ?_
        refine wp_aload dX3_reckon_43 rfl ?_
        refine wp_get fkX3_59 dX3_reckon_45 (H.2.2.2.2.2.2.2.2.2.2.1 i (by omega)) rfl ?_
        refine wp_v3 k9 n9 (c_putIn (N := N) (t := i) (s := s) (x := S 10 i 0) (y := S 11 i 0) ha V H w li ht (hin i (by omega)) (by omega) (by omega)) cvX3_62 dX3_reckon_48 ⟨Nat.le_of_ble_eq_true rfl, Nat.le_of_ble_eq_true rfl⟩ (Nat.le_of_ble_eq_true rfl) V.1 rfl rfl (by omega) (by omega) (fun r h9 N9 hq => ?_)
        obtain ⟨rfl, hN9, V9, H9, f9⟩ := hq
        rw [hN9]
        have W9 := W.frame (fun z h1 h2 => f9 z (by omega))
        change WP G mX3_reckon _ _ _ _ h9 N 51 [some (.ref a), some (.ref q), some (JV rl), some (JV (i : Int)), some (.ref (cB G + 20 + 2 * i)), x5] []
        refine wp_iinc dX3_reckon_51 rfl (Nat.le_of_ble_eq_true rfl) rfl ?_
        change WP G mX3_reckon _ _ _ _ h9 N 54 [some (.ref a), some (.ref q), some (JV rl), some (JV ((i : Int) + 1)), some (.ref (cB G + 20 + 2 * i)), x5] []
        refine wp_goto 6 dX3_reckon_54 (by decide) ?_
        refine ih (i + 1) _ _ _ _ _ (by omega) (by omega) V9 H9 W9 (li.put ht (hin i (by omega)) (by omega) (by omega)) (fun x hx => ?_) (fr.tr f9) kk
        show fup s.2.2.1 i 1 x = 0
        rw [fupn (by omega)]
        exact hin x (by omega)

/-- the levelled plan as the class reckons it -/
def lvAll (S : ST) (lb rm : Nat → Int) (rl : Int) (od : Nat → Int) : LState := lvR S lb rm rl (S 13 0 0).toNat (lvD S (S 13 0 0).toNat 0 (lv0 od))
theorem c_reckon {q : Nat} {eb ee lb le rm : Nat → Int} {ld2 rl : Int} {b e : Nat → Int} {g : Nat → Nat → Int} {u : Int} {inn od : Nat → Int} {ct ld : Int} (ha : cB G + 108 ≤ a) (hq : q + 8 ≤ a ∨ a + 12 ≤ q) (w : WF S) (pl : PB lb le) (rb : RB rm) (hr : 0 ≤ rl ∧ rl ≤ 3) (V : LV G h a b e g u inn od ct ld) (hu : 0 ≤ u ∧ u ≤ 5000) (hz : ∀ c, c < 4 → ∀ d : Nat, u ≤ (d : Int) → g c d = 0) (H : HP G S h) (W : NW G h q eb ee lb le rm ld2) : CT G mX3_reckon [.ref a, .ref q, JV rl] h N 0 0 (fun r h' N' => r = none ∧ N' = N ∧ ∃ u', LVS G h' a S (lvAll S lb rm rl od) u' ∧ HP G S h' ∧ LI (lvAll S lb rm rl od) u' ∧ FR a (a + 12) h h') := by
  refine CT_of (by decide +kernel) rfl (by simp [Value.category]) (Nat.le_of_ble_eq_true rfl) ?_
  change WP G mX3_reckon _ noX _ _ h N 0 [some (.ref a), some (.ref q), some (JV rl), none, none, none] []
  refine wp_aload_n dX3_reckon_0 rfl ?_
  refine wp_v0 0 0 (c_clearL (N := N) V hu hz) cvX3_37 dX3_reckon_1 ⟨Nat.le_of_ble_eq_true rfl, Nat.le_of_ble_eq_true rfl⟩ (Nat.le_of_ble_eq_true rfl) V.1 rfl rfl (by omega) (by omega) (fun r h9 N9 hq => ?_)
  obtain ⟨rfl, hN9, p9, f9⟩ := hq
  rw [hN9]
  have W9 := W.frame (fun z h1 h2 => f9 z (by omega))
  have H9 := H.fr f9 (by omega)
  have V9 : LVS G h9 a S (lv0 od) 0 := p9.congr (fun c _ d => (ldg_0 c d).symm)
  change WP G mX3_reckon _ _ _ _ h9 N 4 [some (.ref a), some (.ref q), some (JV rl), none, none, none] []
  refine wp_iconst dX3_reckon_4 ?_
  refine wp_istore_n dX3_reckon_5 (Nat.le_of_ble_eq_true rfl) rfl ?_
  change WP G mX3_reckon _ _ _ _ h9 N 6 [some (.ref a), some (.ref q), some (JV rl), some (JV 0), none, none] []
  exact l_reckon1 ha hq w pl rb hr _ 0 (lv0 od) 0 h9 none none rfl (by omega) V9 H9 W9 (LI.i0 od) (fun x _ => rfl) f9 (fun u' h' z1 z2 z3 z4 => ⟨rfl, rfl, u', z1, z2, z3, z4⟩)

end Levr

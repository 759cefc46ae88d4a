/-! ===== the reference made ===== -/
section Mi
variable {G : Ctx} {h : AH} {N : Nat}
/-- the first state of the reference -/
def M00 : ST := fun f _ _ => if f = 1 then 31 else if f = 4 then 9 else 0
theorem RS_00 : RS S00 M00 := by
  refine ⟨fun c => ⟨rfl, rfl, rfl, rfl⟩, fun t => ⟨rfl, rfl, rfl, rfl, rfl, rfl, rfl, fun c => rfl⟩, ⟨rfl, rfl, rfl⟩, fun k hk => absurd (show (k : Int) < 0 from hk) (by omega), fun c hc => ⟨fun k hk => absurd (show (k : Int) < 0 from hk) (by omega), fun d hd q => absurd (show (0 : Int) = 1 from q) (by decide), fun k k' hk => absurd (show (k : Int) < 0 from hk) (by omega)⟩⟩
def MI0 (G : Ctx) (h' : AH) : Prop := h' (cB G + 169) = some (cMod (cB G) M00 0) ∧ (∀ q, q ∈ mA1 → h' (cB G + q.2.1) = some (e1 G q.2.2.2 q.2.2.1 (fun i => M00 q.1 i 0))) ∧ (∀ q, q ∈ mA2 → h' (cB G + q.2.1) = some (eQ G 4 q.2.2.1 (fun i => if i < q.2.2.1 then some (cB G + (q.2.1 + 1) + i) else none)) ∧ ∀ i, i < q.2.2.1 → h' (cB G + (q.2.1 + 1) + i) = some (eI G q.2.2.2 (fun j => M00 q.1 i j))) ∧ h' (cB G + 212) = some (eQ G 4 40 (fun i => if i < 40 then some (cB G + 213 + i) else none)) ∧ ∀ i, i < 40 → h' (cB G + 213 + i) = some (eI G 4 (fun j => M00 15 i j))
theorem MI0.mp {h' h2 : AH} {N2 : Nat} (m : MI0 G h') (hN : cB G + 283 ≤ N2) (e : ∀ q, cB G + 169 ≤ q → q < cB G + 281 → h2 q = h' q) : MP G N2 M00 (fun i => cB G + 213 + i) 0 h2 := by
  obtain ⟨a, b, c, d, f⟩ := m
  refine ⟨(e _ (by omega) (by omega)).trans a, fun q hq => ?_, fun q hq => ?_, (e _ (by omega) (by omega)).trans d, fun i hi => (show (h2 (cB G + 213 + i) = some (eI G 4 (fun j => M00 15 i j)) ∧ ((cB G + 213 ≤ cB G + 213 + i ∧ cB G + 213 + i < cB G + 253) ∨ cB G + 283 ≤ cB G + 213 + i) ∧ cB G + 213 + i < N2) from ⟨(e _ (by omega) (by omega)).trans (f i hi), by omega, by omega⟩), hN⟩
  · have := (mA1_r q hq).1
    exact (e _ (by omega) (by omega)).trans (b q hq)
  · have := (mA2_r q hq).1
    exact ⟨(e _ (by omega) (by omega)).trans (c q hq).1, fun i hi => (e _ (by omega) (by omega)).trans ((c q hq).2 i hi)⟩
theorem m_init (hc : h (cB G + 169) = some (eO 11 [JV 0, .null, .null, .null, .null, .null, JV 0, .null, .null, .null, .null, .null, .null, .null, JV 0, .null, JV 0, JV 0, .null, .null, .null, .null, .null, .null, JV 0, JV 0, JV 0, .null, JV 0, .null, .null, .null, .null, .null, .long 0])) : CT G mX11_init [.ref (cB G + 169)] h (cB G + 170) 111 64918 (fun r h' N' => r = none ∧ N' = cB G + 281 ∧ MI0 G h' ∧ ∀ q, q < cB G + 169 → h' q = h q) := by
  refine CT_of (by decide +kernel) rfl (by simp [Value.category]) (Nat.le_of_ble_eq_true rfl) ?_
  change WP G mX11_init _ noX _ _ h (cB G + 170) 0 [some (.ref (cB G + 169))] []
  refine wp_aload_n dX11_init_0 rfl ?_
  refine wp_obj dX11_init_1 obX11_1 w_obj (Nat.le_of_ble_eq_true rfl) (Nat.le_of_ble_eq_true rfl) ?_
  refine wp_aload_n dX11_init_4 rfl ?_
  refine wp_iconst dX11_init_5 ?_
  refine wp_newI (m := 4) (k2 := 110) (n2 := 64914) dX11_init_6 ar_int rfl (by decide) (by omega) (by omega) ?_
  obtain ⟨h_1, eh_1⟩ : ∃ hh9 : AH, hh9 = hup h (cB G + 170) (eI G 4 (fun _ => 0)) := ⟨_, rfl⟩
  refine WP.heq eh_1 ?_
  have fr_1 : ∀ q, q ≠ cB G + 169 → q < cB G + 170 → h_1 q = h q := fun q _ hq => hup_at eh_1 (by omega)
  have of_1 := (hup_at eh_1 (show cB G + 169 ≠ cB G + 170 by omega)).trans hc
  have x_1 : h_1 (cB G + 170) = some (eI G 4 (fun _ => 0)) := by rw [eh_1]; exact hup_self _ _ _
  change WP G mX11_init _ _ 110 64914 h_1 (cB G + 171) 8 [some (.ref (cB G + 169))] [.ref (cB G + 170), .ref (cB G + 169)]
  refine wp_dup dX11_init_8 rfl ?_
  refine wp_iconst dX11_init_9 ?_
  refine wp_bipush dX11_init_10 rfl ?_
  refine wp_iastore dX11_init_12 x_1 (by decide) (by decide) (by decide) ?_
  obtain ⟨h_2, eh_2⟩ : ∃ hh9 : AH, hh9 = hup h_1 (cB G + 170) (eI G 4 (fup (fun _ => 0) 0 31)) := ⟨_, rfl⟩
  refine WP.heq eh_2 ?_
  have fr_2 : ∀ q, q ≠ cB G + 169 → q < cB G + 170 → h_2 q = h_1 q := fun q _ hq => hup_at eh_2 (by omega)
  have of_2 := (hup_at eh_2 (show cB G + 169 ≠ cB G + 170 by omega)).trans of_1
  have x_2 : h_2 (cB G + 170) = some (eI G 4 (fup (fun _ => 0) 0 31)) := by rw [eh_2]; exact hup_self _ _ _
  change WP G mX11_init _ _ 110 64914 h_2 (cB G + 171) 13 [some (.ref (cB G + 169))] [.ref (cB G + 170), .ref (cB G + 169)]
  refine wp_dup dX11_init_13 rfl ?_
  refine wp_iconst dX11_init_14 ?_
  refine wp_bipush dX11_init_15 rfl ?_
  refine wp_iastore dX11_init_17 x_2 (by decide) (by decide) (by decide) ?_
  obtain ⟨h_3, eh_3⟩ : ∃ hh9 : AH, hh9 = hup h_2 (cB G + 170) (eI G 4 (fup (fup (fun _ => 0) 0 31) 1 31)) := ⟨_, rfl⟩
  refine WP.heq eh_3 ?_
  have fr_3 : ∀ q, q ≠ cB G + 169 → q < cB G + 170 → h_3 q = h_2 q := fun q _ hq => hup_at eh_3 (by omega)
  have of_3 := (hup_at eh_3 (show cB G + 169 ≠ cB G + 170 by omega)).trans of_2
  have x_3 : h_3 (cB G + 170) = some (eI G 4 (fup (fup (fun _ => 0) 0 31) 1 31)) := by rw [eh_3]; exact hup_self _ _ _
  change WP G mX11_init _ _ 110 64914 h_3 (cB G + 171) 18 [some (.ref (cB G + 169))] [.ref (cB G + 170), .ref (cB G + 169)]
  refine wp_dup dX11_init_18 rfl ?_
  refine wp_iconst dX11_init_19 ?_
  refine wp_bipush dX11_init_20 rfl ?_
  refine wp_iastore dX11_init_22 x_3 (by decide) (by decide) (by decide) ?_
  obtain ⟨h_4, eh_4⟩ : ∃ hh9 : AH, hh9 = hup h_3 (cB G + 170) (eI G 4 (fup (fup (fup (fun _ => 0) 0 31) 1 31) 2 31)) := ⟨_, rfl⟩
  refine WP.heq eh_4 ?_
  have fr_4 : ∀ q, q ≠ cB G + 169 → q < cB G + 170 → h_4 q = h_3 q := fun q _ hq => hup_at eh_4 (by omega)
  have of_4 := (hup_at eh_4 (show cB G + 169 ≠ cB G + 170 by omega)).trans of_3
  have x_4 : h_4 (cB G + 170) = some (eI G 4 (fup (fup (fup (fun _ => 0) 0 31) 1 31) 2 31)) := by rw [eh_4]; exact hup_self _ _ _
  change WP G mX11_init _ _ 110 64914 h_4 (cB G + 171) 23 [some (.ref (cB G + 169))] [.ref (cB G + 170), .ref (cB G + 169)]
  refine wp_dup dX11_init_23 rfl ?_
  refine wp_iconst dX11_init_24 ?_
  refine wp_bipush dX11_init_25 rfl ?_
  refine wp_iastore dX11_init_27 x_4 (by decide) (by decide) (by decide) ?_
  obtain ⟨h_5, eh_5⟩ : ∃ hh9 : AH, hh9 = hup h_4 (cB G + 170) (eI G 4 (fup (fup (fup (fup (fun _ => 0) 0 31) 1 31) 2 31) 3 31)) := ⟨_, rfl⟩
  refine WP.heq eh_5 ?_
  have fr_5 : ∀ q, q ≠ cB G + 169 → q < cB G + 170 → h_5 q = h_4 q := fun q _ hq => hup_at eh_5 (by omega)
  have of_5 := (hup_at eh_5 (show cB G + 169 ≠ cB G + 170 by omega)).trans of_4
  have x_5 : h_5 (cB G + 170) = some (eI G 4 (fup (fup (fup (fup (fun _ => 0) 0 31) 1 31) 2 31) 3 31)) := by rw [eh_5]; exact hup_self _ _ _
  refine WP.ext x_5 (ext_i (f := (fup (fup (fup (fup (fun _ => 0) 0 31) 1 31) 2 31) 3 31)) (f' := fun _ => 31) (fun i hi => by rcases (show i = 0 ∨ i = 1 ∨ i = 2 ∨ i = 3 by omega) with rfl | rfl | rfl | rfl <;> rfl)) ?_
  obtain ⟨h_6, eh_6⟩ : ∃ hh9 : AH, hh9 = hup h_5 (cB G + 170) (eI G 4 (fun _ => 31)) := ⟨_, rfl⟩
  refine WP.heq eh_6 ?_
  have fr_6 : ∀ q, q ≠ cB G + 169 → q < cB G + 170 → h_6 q = h_5 q := fun q _ hq => hup_at eh_6 (by omega)
  have of_6 := (hup_at eh_6 (show cB G + 169 ≠ cB G + 170 by omega)).trans of_5
  have x_6 : h_6 (cB G + 170) = some (eI G 4 (fun _ => 31)) := by rw [eh_6]; exact hup_self _ _ _
  change WP G mX11_init _ _ 110 64914 h_6 (cB G + 171) 28 [some (.ref (cB G + 169))] [.ref (cB G + 170), .ref (cB G + 169)]
  refine wp_putF fkX11_7 dX11_init_28 rfl (fun r hr => by cases hr; rfl) of_6 rfl rfl (Nat.le_of_ble_eq_true rfl) ?_
  obtain ⟨h_7, eh_7⟩ : ∃ hh9 : AH, hh9 = hup h_6 (cB G + 169) (eO 11 [JV 0, .ref (cB G + 170), .null, .null, .null, .null, JV 0, .null, .null, .null, .null, .null, .null, .null, JV 0, .null, JV 0, JV 0, .null, .null, .null, .null, .null, .null, JV 0, JV 0, JV 0, .null, JV 0, .null, .null, .null, .null, .null, .long 0]) := ⟨_, rfl⟩
  refine WP.heq eh_7 ?_
  have fr_7 : ∀ q, q ≠ cB G + 169 → q < cB G + 171 → h_7 q = h_6 q := fun q h9 _ => hup_at eh_7 h9
  have of_7 : h_7 (cB G + 169) = some (eO 11 [JV 0, .ref (cB G + 170), .null, .null, .null, .null, JV 0, .null, .null, .null, .null, .null, .null, .null, JV 0, .null, JV 0, JV 0, .null, .null, .null, .null, .null, .null, JV 0, JV 0, JV 0, .null, JV 0, .null, .null, .null, .null, .null, .long 0]) := by rw [eh_7]; exact hup_self _ _ _
  change WP G mX11_init _ _ 110 64914 h_7 (cB G + 171) 31 [some (.ref (cB G + 169))] []
  refine wp_aload_n dX11_init_31 rfl ?_
  refine wp_iconst dX11_init_32 ?_
  refine wp_newI (m := 4) (k2 := 109) (n2 := 64910) dX11_init_33 ar_int rfl (by decide) (by omega) (by omega) ?_
  obtain ⟨h_8, eh_8⟩ : ∃ hh9 : AH, hh9 = hup h_7 (cB G + 171) (eI G 4 (fun _ => 0)) := ⟨_, rfl⟩
  refine WP.heq eh_8 ?_
  have fr_8 : ∀ q, q ≠ cB G + 169 → q < cB G + 171 → h_8 q = h_7 q := fun q _ hq => hup_at eh_8 (by omega)
  have of_8 := (hup_at eh_8 (show cB G + 169 ≠ cB G + 171 by omega)).trans of_7
  have x_8 : h_8 (cB G + 171) = some (eI G 4 (fun _ => 0)) := by rw [eh_8]; exact hup_self _ _ _
  change WP G mX11_init _ _ 109 64910 h_8 (cB G + 172) 35 [some (.ref (cB G + 169))] [.ref (cB G + 171), .ref (cB G + 169)]
  refine wp_putF fkX11_13 dX11_init_35 rfl (fun r hr => by cases hr; rfl) of_8 rfl rfl (Nat.le_of_ble_eq_true rfl) ?_
  obtain ⟨h_9, eh_9⟩ : ∃ hh9 : AH, hh9 = hup h_8 (cB G + 169) (eO 11 [JV 0, .ref (cB G + 170), .ref (cB G + 171), .null, .null, .null, JV 0, .null, .null, .null, .null, .null, .null, .null, JV 0, .null, JV 0, JV 0, .null, .null, .null, .null, .null, .null, JV 0, JV 0, JV 0, .null, JV 0, .null, .null, .null, .null, .null, .long 0]) := ⟨_, rfl⟩
  refine WP.heq eh_9 ?_
  have fr_9 : ∀ q, q ≠ cB G + 169 → q < cB G + 172 → h_9 q = h_8 q := fun q h9 _ => hup_at eh_9 h9
  have of_9 : h_9 (cB G + 169) = some (eO 11 [JV 0, .ref (cB G + 170), .ref (cB G + 171), .null, .null, .null, JV 0, .null, .null, .null, .null, .null, .null, .null, JV 0, .null, JV 0, JV 0, .null, .null, .null, .null, .null, .null, JV 0, JV 0, JV 0, .null, JV 0, .null, .null, .null, .null, .null, .long 0]) := by rw [eh_9]; exact hup_self _ _ _
  change WP G mX11_init _ _ 109 64910 h_9 (cB G + 172) 38 [some (.ref (cB G + 169))] []
  refine wp_aload_n dX11_init_38 rfl ?_
  refine wp_iconst dX11_init_39 ?_
  refine wp_bipush dX11_init_40 rfl ?_
  refine wp_multi (r := 4) (m := 12) (k2 := 104) (n2 := 64858) dX11_init_42 clX11_16 ar_int (by decide) (by decide) (by omega) (by omega) ?_
  obtain ⟨h_10, eh_10⟩ : ∃ hh9 : AH, hh9 = hrows G h_9 (cB G + 172) 4 12 := ⟨_, rfl⟩
  refine WP.heq eh_10 ?_
  have fr_10 : ∀ q, q ≠ cB G + 169 → q < cB G + 172 → h_10 q = h_9 q := fun q _ hq => by rw [eh_10]; unfold hrows; rw [if_neg (by omega), if_neg (by omega)]
  have of_10 : h_10 (cB G + 169) = some (eO 11 [JV 0, .ref (cB G + 170), .ref (cB G + 171), .null, .null, .null, JV 0, .null, .null, .null, .null, .null, .null, .null, JV 0, .null, JV 0, JV 0, .null, .null, .null, .null, .null, .null, JV 0, JV 0, JV 0, .null, JV 0, .null, .null, .null, .null, .null, .long 0]) := by rw [eh_10]; unfold hrows; rw [if_neg (by omega), if_neg (by omega)]; exact of_9
  have x_10 : h_10 (cB G + 172) = some (eQ G 4 4 (fun i => if i < 4 then some (cB G + 172 + 1 + i) else none)) := by rw [eh_10]; unfold hrows; rw [if_pos rfl]
  have y_10 : ∀ i, i < 4 → h_10 (cB G + 173 + i) = some (eI G 12 (fun _ => 0)) := fun i hi => by rw [eh_10]; unfold hrows; rw [if_neg (by omega), if_pos (by omega)]
  change WP G mX11_init _ _ 104 64858 h_10 (cB G + 177) 46 [some (.ref (cB G + 169))] [.ref (cB G + 172), .ref (cB G + 169)]
  refine wp_putF fkX11_18 dX11_init_46 rfl (fun r hr => by cases hr; rfl) of_10 rfl rfl (Nat.le_of_ble_eq_true rfl) ?_
  obtain ⟨h_11, eh_11⟩ : ∃ hh9 : AH, hh9 = hup h_10 (cB G + 169) (eO 11 [JV 0, .ref (cB G + 170), .ref (cB G + 171), .ref (cB G + 172), .null, .null, JV 0, .null, .null, .null, .null, .null, .null, .null, JV 0, .null, JV 0, JV 0, .null, .null, .null, .null, .null, .null, JV 0, JV 0, JV 0, .null, JV 0, .null, .null, .null, .null, .null, .long 0]) := ⟨_, rfl⟩
  refine WP.heq eh_11 ?_
  have fr_11 : ∀ q, q ≠ cB G + 169 → q < cB G + 177 → h_11 q = h_10 q := fun q h9 _ => hup_at eh_11 h9
  have of_11 : h_11 (cB G + 169) = some (eO 11 [JV 0, .ref (cB G + 170), .ref (cB G + 171), .ref (cB G + 172), .null, .null, JV 0, .null, .null, .null, .null, .null, .null, .null, JV 0, .null, JV 0, JV 0, .null, .null, .null, .null, .null, .null, JV 0, JV 0, JV 0, .null, JV 0, .null, .null, .null, .null, .null, .long 0]) := by rw [eh_11]; exact hup_self _ _ _
  change WP G mX11_init _ _ 104 64858 h_11 (cB G + 177) 49 [some (.ref (cB G + 169))] []
  refine wp_aload_n dX11_init_49 rfl ?_
  refine wp_iconst dX11_init_50 ?_
  refine wp_newI (m := 4) (k2 := 103) (n2 := 64854) dX11_init_51 ar_int rfl (by decide) (by omega) (by omega) ?_
  obtain ⟨h_12, eh_12⟩ : ∃ hh9 : AH, hh9 = hup h_11 (cB G + 177) (eI G 4 (fun _ => 0)) := ⟨_, rfl⟩
  refine WP.heq eh_12 ?_
  have fr_12 : ∀ q, q ≠ cB G + 169 → q < cB G + 177 → h_12 q = h_11 q := fun q _ hq => hup_at eh_12 (by omega)
  have of_12 := (hup_at eh_12 (show cB G + 169 ≠ cB G + 177 by omega)).trans of_11
  have x_12 : h_12 (cB G + 177) = some (eI G 4 (fun _ => 0)) := by rw [eh_12]; exact hup_self _ _ _
  change WP G mX11_init _ _ 103 64854 h_12 (cB G + 178) 53 [some (.ref (cB G + 169))] [.ref (cB G + 177), .ref (cB G + 169)]
  refine wp_dup dX11_init_53 rfl ?_
  refine wp_iconst dX11_init_54 ?_
  refine wp_bipush dX11_init_55 rfl ?_
  refine wp_iastore dX11_init_57 x_12 (by decide) (by decide) (by decide) ?_
  obtain ⟨h_13, eh_13⟩ : ∃ hh9 : AH, hh9 = hup h_12 (cB G + 177) (eI G 4 (fup (fun _ => 0) 0 9)) := ⟨_, rfl⟩
  refine WP.heq eh_13 ?_
  have fr_13 : ∀ q, q ≠ cB G + 169 → q < cB G + 177 → h_13 q = h_12 q := fun q _ hq => hup_at eh_13 (by omega)
  have of_13 := (hup_at eh_13 (show cB G + 169 ≠ cB G + 177 by omega)).trans of_12
  have x_13 : h_13 (cB G + 177) = some (eI G 4 (fup (fun _ => 0) 0 9)) := by rw [eh_13]; exact hup_self _ _ _
  change WP G mX11_init _ _ 103 64854 h_13 (cB G + 178) 58 [some (.ref (cB G + 169))] [.ref (cB G + 177), .ref (cB G + 169)]
  refine wp_dup dX11_init_58 rfl ?_
  refine wp_iconst dX11_init_59 ?_
  refine wp_bipush dX11_init_60 rfl ?_
  refine wp_iastore dX11_init_62 x_13 (by decide) (by decide) (by decide) ?_
  obtain ⟨h_14, eh_14⟩ : ∃ hh9 : AH, hh9 = hup h_13 (cB G + 177) (eI G 4 (fup (fup (fun _ => 0) 0 9) 1 9)) := ⟨_, rfl⟩
  refine WP.heq eh_14 ?_
  have fr_14 : ∀ q, q ≠ cB G + 169 → q < cB G + 177 → h_14 q = h_13 q := fun q _ hq => hup_at eh_14 (by omega)
  have of_14 := (hup_at eh_14 (show cB G + 169 ≠ cB G + 177 by omega)).trans of_13
  have x_14 : h_14 (cB G + 177) = some (eI G 4 (fup (fup (fun _ => 0) 0 9) 1 9)) := by rw [eh_14]; exact hup_self _ _ _
  change WP G mX11_init _ _ 103 64854 h_14 (cB G + 178) 63 [some (.ref (cB G + 169))] [.ref (cB G + 177), .ref (cB G + 169)]
  refine wp_dup dX11_init_63 rfl ?_
  refine wp_iconst dX11_init_64 ?_
  refine wp_bipush dX11_init_65 rfl ?_
  refine wp_iastore dX11_init_67 x_14 (by decide) (by decide) (by decide) ?_
  obtain ⟨h_15, eh_15⟩ : ∃ hh9 : AH, hh9 = hup h_14 (cB G + 177) (eI G 4 (fup (fup (fup (fun _ => 0) 0 9) 1 9) 2 9)) := ⟨_, rfl⟩
  refine WP.heq eh_15 ?_
  have fr_15 : ∀ q, q ≠ cB G + 169 → q < cB G + 177 → h_15 q = h_14 q := fun q _ hq => hup_at eh_15 (by omega)
  have of_15 := (hup_at eh_15 (show cB G + 169 ≠ cB G + 177 by omega)).trans of_14
  have x_15 : h_15 (cB G + 177) = some (eI G 4 (fup (fup (fup (fun _ => 0) 0 9) 1 9) 2 9)) := by rw [eh_15]; exact hup_self _ _ _
  change WP G mX11_init _ _ 103 64854 h_15 (cB G + 178) 68 [some (.ref (cB G + 169))] [.ref (cB G + 177), .ref (cB G + 169)]
  refine wp_dup dX11_init_68 rfl ?_
  refine wp_iconst dX11_init_69 ?_
  refine wp_bipush dX11_init_70 rfl ?_
  refine wp_iastore dX11_init_72 x_15 (by decide) (by decide) (by decide) ?_
  obtain ⟨h_16, eh_16⟩ : ∃ hh9 : AH, hh9 = hup h_15 (cB G + 177) (eI G 4 (fup (fup (fup (fup (fun _ => 0) 0 9) 1 9) 2 9) 3 9)) := ⟨_, rfl⟩
  refine WP.heq eh_16 ?_
  have fr_16 : ∀ q, q ≠ cB G + 169 → q < cB G + 177 → h_16 q = h_15 q := fun q _ hq => hup_at eh_16 (by omega)
  have of_16 := (hup_at eh_16 (show cB G + 169 ≠ cB G + 177 by omega)).trans of_15
  have x_16 : h_16 (cB G + 177) = some (eI G 4 (fup (fup (fup (fup (fun _ => 0) 0 9) 1 9) 2 9) 3 9)) := by rw [eh_16]; exact hup_self _ _ _
  refine WP.ext x_16 (ext_i (f := (fup (fup (fup (fup (fun _ => 0) 0 9) 1 9) 2 9) 3 9)) (f' := fun _ => 9) (fun i hi => by rcases (show i = 0 ∨ i = 1 ∨ i = 2 ∨ i = 3 by omega) with rfl | rfl | rfl | rfl <;> rfl)) ?_
  obtain ⟨h_17, eh_17⟩ : ∃ hh9 : AH, hh9 = hup h_16 (cB G + 177) (eI G 4 (fun _ => 9)) := ⟨_, rfl⟩
  refine WP.heq eh_17 ?_
  have fr_17 : ∀ q, q ≠ cB G + 169 → q < cB G + 177 → h_17 q = h_16 q := fun q _ hq => hup_at eh_17 (by omega)
  have of_17 := (hup_at eh_17 (show cB G + 169 ≠ cB G + 177 by omega)).trans of_16
  have x_17 : h_17 (cB G + 177) = some (eI G 4 (fun _ => 9)) := by rw [eh_17]; exact hup_self _ _ _
  change WP G mX11_init _ _ 103 64854 h_17 (cB G + 178) 73 [some (.ref (cB G + 169))] [.ref (cB G + 177), .ref (cB G + 169)]
  refine wp_putF fkX11_21 dX11_init_73 rfl (fun r hr => by cases hr; rfl) of_17 rfl rfl (Nat.le_of_ble_eq_true rfl) ?_
  obtain ⟨h_18, eh_18⟩ : ∃ hh9 : AH, hh9 = hup h_17 (cB G + 169) (eO 11 [JV 0, .ref (cB G + 170), .ref (cB G + 171), .ref (cB G + 172), .ref (cB G + 177), .null, JV 0, .null, .null, .null, .null, .null, .null, .null, JV 0, .null, JV 0, JV 0, .null, .null, .null, .null, .null, .null, JV 0, JV 0, JV 0, .null, JV 0, .null, .null, .null, .null, .null, .long 0]) := ⟨_, rfl⟩
  refine WP.heq eh_18 ?_
  have fr_18 : ∀ q, q ≠ cB G + 169 → q < cB G + 178 → h_18 q = h_17 q := fun q h9 _ => hup_at eh_18 h9
  have of_18 : h_18 (cB G + 169) = some (eO 11 [JV 0, .ref (cB G + 170), .ref (cB G + 171), .ref (cB G + 172), .ref (cB G + 177), .null, JV 0, .null, .null, .null, .null, .null, .null, .null, JV 0, .null, JV 0, JV 0, .null, .null, .null, .null, .null, .null, JV 0, JV 0, JV 0, .null, JV 0, .null, .null, .null, .null, .null, .long 0]) := by rw [eh_18]; exact hup_self _ _ _
  change WP G mX11_init _ _ 103 64854 h_18 (cB G + 178) 76 [some (.ref (cB G + 169))] []
  refine wp_aload_n dX11_init_76 rfl ?_
  refine wp_iconst dX11_init_77 ?_
  refine wp_newI (m := 4) (k2 := 102) (n2 := 64850) dX11_init_78 ar_int rfl (by decide) (by omega) (by omega) ?_
  obtain ⟨h_19, eh_19⟩ : ∃ hh9 : AH, hh9 = hup h_18 (cB G + 178) (eI G 4 (fun _ => 0)) := ⟨_, rfl⟩
  refine WP.heq eh_19 ?_
  have fr_19 : ∀ q, q ≠ cB G + 169 → q < cB G + 178 → h_19 q = h_18 q := fun q _ hq => hup_at eh_19 (by omega)
  have of_19 := (hup_at eh_19 (show cB G + 169 ≠ cB G + 178 by omega)).trans of_18
  have x_19 : h_19 (cB G + 178) = some (eI G 4 (fun _ => 0)) := by rw [eh_19]; exact hup_self _ _ _
  change WP G mX11_init _ _ 102 64850 h_19 (cB G + 179) 80 [some (.ref (cB G + 169))] [.ref (cB G + 178), .ref (cB G + 169)]
  refine wp_putF fkX11_24 dX11_init_80 rfl (fun r hr => by cases hr; rfl) of_19 rfl rfl (Nat.le_of_ble_eq_true rfl) ?_
  obtain ⟨h_20, eh_20⟩ : ∃ hh9 : AH, hh9 = hup h_19 (cB G + 169) (eO 11 [JV 0, .ref (cB G + 170), .ref (cB G + 171), .ref (cB G + 172), .ref (cB G + 177), .ref (cB G + 178), JV 0, .null, .null, .null, .null, .null, .null, .null, JV 0, .null, JV 0, JV 0, .null, .null, .null, .null, .null, .null, JV 0, JV 0, JV 0, .null, JV 0, .null, .null, .null, .null, .null, .long 0]) := ⟨_, rfl⟩
  refine WP.heq eh_20 ?_
  have fr_20 : ∀ q, q ≠ cB G + 169 → q < cB G + 179 → h_20 q = h_19 q := fun q h9 _ => hup_at eh_20 h9
  have of_20 : h_20 (cB G + 169) = some (eO 11 [JV 0, .ref (cB G + 170), .ref (cB G + 171), .ref (cB G + 172), .ref (cB G + 177), .ref (cB G + 178), JV 0, .null, .null, .null, .null, .null, .null, .null, JV 0, .null, JV 0, JV 0, .null, .null, .null, .null, .null, .null, JV 0, JV 0, JV 0, .null, JV 0, .null, .null, .null, .null, .null, .long 0]) := by rw [eh_20]; exact hup_self _ _ _
  change WP G mX11_init _ _ 102 64850 h_20 (cB G + 179) 83 [some (.ref (cB G + 169))] []
  refine wp_aload_n dX11_init_83 rfl ?_
  refine wp_bipush dX11_init_84 rfl ?_
  refine wp_newI (m := 24) (k2 := 101) (n2 := 64826) dX11_init_86 ar_int rfl (by decide) (by omega) (by omega) ?_
  obtain ⟨h_21, eh_21⟩ : ∃ hh9 : AH, hh9 = hup h_20 (cB G + 179) (eI G 24 (fun _ => 0)) := ⟨_, rfl⟩
  refine WP.heq eh_21 ?_
  have fr_21 : ∀ q, q ≠ cB G + 169 → q < cB G + 179 → h_21 q = h_20 q := fun q _ hq => hup_at eh_21 (by omega)
  have of_21 := (hup_at eh_21 (show cB G + 169 ≠ cB G + 179 by omega)).trans of_20
  have x_21 : h_21 (cB G + 179) = some (eI G 24 (fun _ => 0)) := by rw [eh_21]; exact hup_self _ _ _
  change WP G mX11_init _ _ 101 64826 h_21 (cB G + 180) 88 [some (.ref (cB G + 169))] [.ref (cB G + 179), .ref (cB G + 169)]
  refine wp_putF fkX11_27 dX11_init_88 rfl (fun r hr => by cases hr; rfl) of_21 rfl rfl (Nat.le_of_ble_eq_true rfl) ?_
  obtain ⟨h_22, eh_22⟩ : ∃ hh9 : AH, hh9 = hup h_21 (cB G + 169) (eO 11 [JV 0, .ref (cB G + 170), .ref (cB G + 171), .ref (cB G + 172), .ref (cB G + 177), .ref (cB G + 178), JV 0, .ref (cB G + 179), .null, .null, .null, .null, .null, .null, JV 0, .null, JV 0, JV 0, .null, .null, .null, .null, .null, .null, JV 0, JV 0, JV 0, .null, JV 0, .null, .null, .null, .null, .null, .long 0]) := ⟨_, rfl⟩
  refine WP.heq eh_22 ?_
  have fr_22 : ∀ q, q ≠ cB G + 169 → q < cB G + 180 → h_22 q = h_21 q := fun q h9 _ => hup_at eh_22 h9
  have of_22 : h_22 (cB G + 169) = some (eO 11 [JV 0, .ref (cB G + 170), .ref (cB G + 171), .ref (cB G + 172), .ref (cB G + 177), .ref (cB G + 178), JV 0, .ref (cB G + 179), .null, .null, .null, .null, .null, .null, JV 0, .null, JV 0, JV 0, .null, .null, .null, .null, .null, .null, JV 0, JV 0, JV 0, .null, JV 0, .null, .null, .null, .null, .null, .long 0]) := by rw [eh_22]; exact hup_self _ _ _
  change WP G mX11_init _ _ 101 64826 h_22 (cB G + 180) 91 [some (.ref (cB G + 169))] []
  refine wp_aload_n dX11_init_91 rfl ?_
  refine wp_bipush dX11_init_92 rfl ?_
  refine wp_newI (m := 24) (k2 := 100) (n2 := 64802) dX11_init_94 ar_int rfl (by decide) (by omega) (by omega) ?_
  obtain ⟨h_23, eh_23⟩ : ∃ hh9 : AH, hh9 = hup h_22 (cB G + 180) (eI G 24 (fun _ => 0)) := ⟨_, rfl⟩
  refine WP.heq eh_23 ?_
  have fr_23 : ∀ q, q ≠ cB G + 169 → q < cB G + 180 → h_23 q = h_22 q := fun q _ hq => hup_at eh_23 (by omega)
  have of_23 := (hup_at eh_23 (show cB G + 169 ≠ cB G + 180 by omega)).trans of_22
  have x_23 : h_23 (cB G + 180) = some (eI G 24 (fun _ => 0)) := by rw [eh_23]; exact hup_self _ _ _
  change WP G mX11_init _ _ 100 64802 h_23 (cB G + 181) 96 [some (.ref (cB G + 169))] [.ref (cB G + 180), .ref (cB G + 169)]
  refine wp_putF fkX11_30 dX11_init_96 rfl (fun r hr => by cases hr; rfl) of_23 rfl rfl (Nat.le_of_ble_eq_true rfl) ?_
  obtain ⟨h_24, eh_24⟩ : ∃ hh9 : AH, hh9 = hup h_23 (cB G + 169) (eO 11 [JV 0, .ref (cB G + 170), .ref (cB G + 171), .ref (cB G + 172), .ref (cB G + 177), .ref (cB G + 178), JV 0, .ref (cB G + 179), .ref (cB G + 180), .null, .null, .null, .null, .null, JV 0, .null, JV 0, JV 0, .null, .null, .null, .null, .null, .null, JV 0, JV 0, JV 0, .null, JV 0, .null, .null, .null, .null, .null, .long 0]) := ⟨_, rfl⟩
  refine WP.heq eh_24 ?_
  have fr_24 : ∀ q, q ≠ cB G + 169 → q < cB G + 181 → h_24 q = h_23 q := fun q h9 _ => hup_at eh_24 h9
  have of_24 : h_24 (cB G + 169) = some (eO 11 [JV 0, .ref (cB G + 170), .ref (cB G + 171), .ref (cB G + 172), .ref (cB G + 177), .ref (cB G + 178), JV 0, .ref (cB G + 179), .ref (cB G + 180), .null, .null, .null, .null, .null, JV 0, .null, JV 0, JV 0, .null, .null, .null, .null, .null, .null, JV 0, JV 0, JV 0, .null, JV 0, .null, .null, .null, .null, .null, .long 0]) := by rw [eh_24]; exact hup_self _ _ _
  change WP G mX11_init _ _ 100 64802 h_24 (cB G + 181) 99 [some (.ref (cB G + 169))] []
  refine wp_aload_n dX11_init_99 rfl ?_
  refine wp_bipush dX11_init_100 rfl ?_
  refine wp_newI (m := 24) (k2 := 99) (n2 := 64778) dX11_init_102 ar_int rfl (by decide) (by omega) (by omega) ?_
  obtain ⟨h_25, eh_25⟩ : ∃ hh9 : AH, hh9 = hup h_24 (cB G + 181) (eI G 24 (fun _ => 0)) := ⟨_, rfl⟩
  refine WP.heq eh_25 ?_
  have fr_25 : ∀ q, q ≠ cB G + 169 → q < cB G + 181 → h_25 q = h_24 q := fun q _ hq => hup_at eh_25 (by omega)
  have of_25 := (hup_at eh_25 (show cB G + 169 ≠ cB G + 181 by omega)).trans of_24
  have x_25 : h_25 (cB G + 181) = some (eI G 24 (fun _ => 0)) := by rw [eh_25]; exact hup_self _ _ _
  change WP G mX11_init _ _ 99 64778 h_25 (cB G + 182) 104 [some (.ref (cB G + 169))] [.ref (cB G + 181), .ref (cB G + 169)]
  refine wp_putF fkX11_33 dX11_init_104 rfl (fun r hr => by cases hr; rfl) of_25 rfl rfl (Nat.le_of_ble_eq_true rfl) ?_
  obtain ⟨h_26, eh_26⟩ : ∃ hh9 : AH, hh9 = hup h_25 (cB G + 169) (eO 11 [JV 0, .ref (cB G + 170), .ref (cB G + 171), .ref (cB G + 172), .ref (cB G + 177), .ref (cB G + 178), JV 0, .ref (cB G + 179), .ref (cB G + 180), .ref (cB G + 181), .null, .null, .null, .null, JV 0, .null, JV 0, JV 0, .null, .null, .null, .null, .null, .null, JV 0, JV 0, JV 0, .null, JV 0, .null, .null, .null, .null, .null, .long 0]) := ⟨_, rfl⟩
  refine WP.heq eh_26 ?_
  have fr_26 : ∀ q, q ≠ cB G + 169 → q < cB G + 182 → h_26 q = h_25 q := fun q h9 _ => hup_at eh_26 h9
  have of_26 : h_26 (cB G + 169) = some (eO 11 [JV 0, .ref (cB G + 170), .ref (cB G + 171), .ref (cB G + 172), .ref (cB G + 177), .ref (cB G + 178), JV 0, .ref (cB G + 179), .ref (cB G + 180), .ref (cB G + 181), .null, .null, .null, .null, JV 0, .null, JV 0, JV 0, .null, .null, .null, .null, .null, .null, JV 0, JV 0, JV 0, .null, JV 0, .null, .null, .null, .null, .null, .long 0]) := by rw [eh_26]; exact hup_self _ _ _
  change WP G mX11_init _ _ 99 64778 h_26 (cB G + 182) 107 [some (.ref (cB G + 169))] []
  refine wp_aload_n dX11_init_107 rfl ?_
  refine wp_bipush dX11_init_108 rfl ?_
  refine wp_newI (m := 24) (k2 := 98) (n2 := 64754) dX11_init_110 ar_int rfl (by decide) (by omega) (by omega) ?_
  obtain ⟨h_27, eh_27⟩ : ∃ hh9 : AH, hh9 = hup h_26 (cB G + 182) (eI G 24 (fun _ => 0)) := ⟨_, rfl⟩
  refine WP.heq eh_27 ?_
  have fr_27 : ∀ q, q ≠ cB G + 169 → q < cB G + 182 → h_27 q = h_26 q := fun q _ hq => hup_at eh_27 (by omega)
  have of_27 := (hup_at eh_27 (show cB G + 169 ≠ cB G + 182 by omega)).trans of_26
  have x_27 : h_27 (cB G + 182) = some (eI G 24 (fun _ => 0)) := by rw [eh_27]; exact hup_self _ _ _
  change WP G mX11_init _ _ 98 64754 h_27 (cB G + 183) 112 [some (.ref (cB G + 169))] [.ref (cB G + 182), .ref (cB G + 169)]
  refine wp_putF fkX11_36 dX11_init_112 rfl (fun r hr => by cases hr; rfl) of_27 rfl rfl (Nat.le_of_ble_eq_true rfl) ?_
  obtain ⟨h_28, eh_28⟩ : ∃ hh9 : AH, hh9 = hup h_27 (cB G + 169) (eO 11 [JV 0, .ref (cB G + 170), .ref (cB G + 171), .ref (cB G + 172), .ref (cB G + 177), .ref (cB G + 178), JV 0, .ref (cB G + 179), .ref (cB G + 180), .ref (cB G + 181), .ref (cB G + 182), .null, .null, .null, JV 0, .null, JV 0, JV 0, .null, .null, .null, .null, .null, .null, JV 0, JV 0, JV 0, .null, JV 0, .null, .null, .null, .null, .null, .long 0]) := ⟨_, rfl⟩
  refine WP.heq eh_28 ?_
  have fr_28 : ∀ q, q ≠ cB G + 169 → q < cB G + 183 → h_28 q = h_27 q := fun q h9 _ => hup_at eh_28 h9
  have of_28 : h_28 (cB G + 169) = some (eO 11 [JV 0, .ref (cB G + 170), .ref (cB G + 171), .ref (cB G + 172), .ref (cB G + 177), .ref (cB G + 178), JV 0, .ref (cB G + 179), .ref (cB G + 180), .ref (cB G + 181), .ref (cB G + 182), .null, .null, .null, JV 0, .null, JV 0, JV 0, .null, .null, .null, .null, .null, .null, JV 0, JV 0, JV 0, .null, JV 0, .null, .null, .null, .null, .null, .long 0]) := by rw [eh_28]; exact hup_self _ _ _
  change WP G mX11_init _ _ 98 64754 h_28 (cB G + 183) 115 [some (.ref (cB G + 169))] []
  refine wp_aload_n dX11_init_115 rfl ?_
  refine wp_bipush dX11_init_116 rfl ?_
  refine wp_iconst dX11_init_118 ?_
  refine wp_multi (r := 24) (m := 4) (k2 := 73) (n2 := 64634) dX11_init_119 clX11_16 ar_int (by decide) (by decide) (by omega) (by omega) ?_
  obtain ⟨h_29, eh_29⟩ : ∃ hh9 : AH, hh9 = hrows G h_28 (cB G + 183) 24 4 := ⟨_, rfl⟩
  refine WP.heq eh_29 ?_
  have fr_29 : ∀ q, q ≠ cB G + 169 → q < cB G + 183 → h_29 q = h_28 q := fun q _ hq => by rw [eh_29]; unfold hrows; rw [if_neg (by omega), if_neg (by omega)]
  have of_29 : h_29 (cB G + 169) = some (eO 11 [JV 0, .ref (cB G + 170), .ref (cB G + 171), .ref (cB G + 172), .ref (cB G + 177), .ref (cB G + 178), JV 0, .ref (cB G + 179), .ref (cB G + 180), .ref (cB G + 181), .ref (cB G + 182), .null, .null, .null, JV 0, .null, JV 0, JV 0, .null, .null, .null, .null, .null, .null, JV 0, JV 0, JV 0, .null, JV 0, .null, .null, .null, .null, .null, .long 0]) := by rw [eh_29]; unfold hrows; rw [if_neg (by omega), if_neg (by omega)]; exact of_28
  have x_29 : h_29 (cB G + 183) = some (eQ G 4 24 (fun i => if i < 24 then some (cB G + 183 + 1 + i) else none)) := by rw [eh_29]; unfold hrows; rw [if_pos rfl]
  have y_29 : ∀ i, i < 24 → h_29 (cB G + 184 + i) = some (eI G 4 (fun _ => 0)) := fun i hi => by rw [eh_29]; unfold hrows; rw [if_neg (by omega), if_pos (by omega)]
  change WP G mX11_init _ _ 73 64634 h_29 (cB G + 208) 123 [some (.ref (cB G + 169))] [.ref (cB G + 183), .ref (cB G + 169)]
  refine wp_putF fkX11_39 dX11_init_123 rfl (fun r hr => by cases hr; rfl) of_29 rfl rfl (Nat.le_of_ble_eq_true rfl) ?_
  obtain ⟨h_30, eh_30⟩ : ∃ hh9 : AH, hh9 = hup h_29 (cB G + 169) (eO 11 [JV 0, .ref (cB G + 170), .ref (cB G + 171), .ref (cB G + 172), .ref (cB G + 177), .ref (cB G + 178), JV 0, .ref (cB G + 179), .ref (cB G + 180), .ref (cB G + 181), .ref (cB G + 182), .ref (cB G + 183), .null, .null, JV 0, .null, JV 0, JV 0, .null, .null, .null, .null, .null, .null, JV 0, JV 0, JV 0, .null, JV 0, .null, .null, .null, .null, .null, .long 0]) := ⟨_, rfl⟩
  refine WP.heq eh_30 ?_
  have fr_30 : ∀ q, q ≠ cB G + 169 → q < cB G + 208 → h_30 q = h_29 q := fun q h9 _ => hup_at eh_30 h9
  have of_30 : h_30 (cB G + 169) = some (eO 11 [JV 0, .ref (cB G + 170), .ref (cB G + 171), .ref (cB G + 172), .ref (cB G + 177), .ref (cB G + 178), JV 0, .ref (cB G + 179), .ref (cB G + 180), .ref (cB G + 181), .ref (cB G + 182), .ref (cB G + 183), .null, .null, JV 0, .null, JV 0, JV 0, .null, .null, .null, .null, .null, .null, JV 0, JV 0, JV 0, .null, JV 0, .null, .null, .null, .null, .null, .long 0]) := by rw [eh_30]; exact hup_self _ _ _
  change WP G mX11_init _ _ 73 64634 h_30 (cB G + 208) 126 [some (.ref (cB G + 169))] []
  refine wp_aload_n dX11_init_126 rfl ?_
  refine wp_bipush dX11_init_127 rfl ?_
  refine wp_newZ (m := 24) (k2 := 72) (n2 := 64610) dX11_init_129 ar_boolean rfl (by decide) (by omega) (by omega) ?_
  obtain ⟨h_31, eh_31⟩ : ∃ hh9 : AH, hh9 = hup h_30 (cB G + 208) (eZ G 24 (fun _ => 0)) := ⟨_, rfl⟩
  refine WP.heq eh_31 ?_
  have fr_31 : ∀ q, q ≠ cB G + 169 → q < cB G + 208 → h_31 q = h_30 q := fun q _ hq => hup_at eh_31 (by omega)
  have of_31 := (hup_at eh_31 (show cB G + 169 ≠ cB G + 208 by omega)).trans of_30
  have x_31 : h_31 (cB G + 208) = some (eZ G 24 (fun _ => 0)) := by rw [eh_31]; exact hup_self _ _ _
  change WP G mX11_init _ _ 72 64610 h_31 (cB G + 209) 131 [some (.ref (cB G + 169))] [.ref (cB G + 208), .ref (cB G + 169)]
  refine wp_putF fkX11_42 dX11_init_131 rfl (fun r hr => by cases hr; rfl) of_31 rfl rfl (Nat.le_of_ble_eq_true rfl) ?_
  obtain ⟨h_32, eh_32⟩ : ∃ hh9 : AH, hh9 = hup h_31 (cB G + 169) (eO 11 [JV 0, .ref (cB G + 170), .ref (cB G + 171), .ref (cB G + 172), .ref (cB G + 177), .ref (cB G + 178), JV 0, .ref (cB G + 179), .ref (cB G + 180), .ref (cB G + 181), .ref (cB G + 182), .ref (cB G + 183), .ref (cB G + 208), .null, JV 0, .null, JV 0, JV 0, .null, .null, .null, .null, .null, .null, JV 0, JV 0, JV 0, .null, JV 0, .null, .null, .null, .null, .null, .long 0]) := ⟨_, rfl⟩
  refine WP.heq eh_32 ?_
  have fr_32 : ∀ q, q ≠ cB G + 169 → q < cB G + 209 → h_32 q = h_31 q := fun q h9 _ => hup_at eh_32 h9
  have of_32 : h_32 (cB G + 169) = some (eO 11 [JV 0, .ref (cB G + 170), .ref (cB G + 171), .ref (cB G + 172), .ref (cB G + 177), .ref (cB G + 178), JV 0, .ref (cB G + 179), .ref (cB G + 180), .ref (cB G + 181), .ref (cB G + 182), .ref (cB G + 183), .ref (cB G + 208), .null, JV 0, .null, JV 0, JV 0, .null, .null, .null, .null, .null, .null, JV 0, JV 0, JV 0, .null, JV 0, .null, .null, .null, .null, .null, .long 0]) := by rw [eh_32]; exact hup_self _ _ _
  change WP G mX11_init _ _ 72 64610 h_32 (cB G + 209) 134 [some (.ref (cB G + 169))] []
  refine wp_aload_n dX11_init_134 rfl ?_
  refine wp_iconst dX11_init_135 ?_
  refine wp_bipush dX11_init_136 rfl ?_
  refine wp_multi (r := 2) (m := 24) (k2 := 69) (n2 := 64560) dX11_init_138 clX11_16 ar_int (by decide) (by decide) (by omega) (by omega) ?_
  obtain ⟨h_33, eh_33⟩ : ∃ hh9 : AH, hh9 = hrows G h_32 (cB G + 209) 2 24 := ⟨_, rfl⟩
  refine WP.heq eh_33 ?_
  have fr_33 : ∀ q, q ≠ cB G + 169 → q < cB G + 209 → h_33 q = h_32 q := fun q _ hq => by rw [eh_33]; unfold hrows; rw [if_neg (by omega), if_neg (by omega)]
  have of_33 : h_33 (cB G + 169) = some (eO 11 [JV 0, .ref (cB G + 170), .ref (cB G + 171), .ref (cB G + 172), .ref (cB G + 177), .ref (cB G + 178), JV 0, .ref (cB G + 179), .ref (cB G + 180), .ref (cB G + 181), .ref (cB G + 182), .ref (cB G + 183), .ref (cB G + 208), .null, JV 0, .null, JV 0, JV 0, .null, .null, .null, .null, .null, .null, JV 0, JV 0, JV 0, .null, JV 0, .null, .null, .null, .null, .null, .long 0]) := by rw [eh_33]; unfold hrows; rw [if_neg (by omega), if_neg (by omega)]; exact of_32
  have x_33 : h_33 (cB G + 209) = some (eQ G 4 2 (fun i => if i < 2 then some (cB G + 209 + 1 + i) else none)) := by rw [eh_33]; unfold hrows; rw [if_pos rfl]
  have y_33 : ∀ i, i < 2 → h_33 (cB G + 210 + i) = some (eI G 24 (fun _ => 0)) := fun i hi => by rw [eh_33]; unfold hrows; rw [if_neg (by omega), if_pos (by omega)]
  change WP G mX11_init _ _ 69 64560 h_33 (cB G + 212) 142 [some (.ref (cB G + 169))] [.ref (cB G + 209), .ref (cB G + 169)]
  refine wp_putF fkX11_46 dX11_init_142 rfl (fun r hr => by cases hr; rfl) of_33 rfl rfl (Nat.le_of_ble_eq_true rfl) ?_
  obtain ⟨h_34, eh_34⟩ : ∃ hh9 : AH, hh9 = hup h_33 (cB G + 169) (eO 11 [JV 0, .ref (cB G + 170), .ref (cB G + 171), .ref (cB G + 172), .ref (cB G + 177), .ref (cB G + 178), JV 0, .ref (cB G + 179), .ref (cB G + 180), .ref (cB G + 181), .ref (cB G + 182), .ref (cB G + 183), .ref (cB G + 208), .ref (cB G + 209), JV 0, .null, JV 0, JV 0, .null, .null, .null, .null, .null, .null, JV 0, JV 0, JV 0, .null, JV 0, .null, .null, .null, .null, .null, .long 0]) := ⟨_, rfl⟩
  refine WP.heq eh_34 ?_
  have fr_34 : ∀ q, q ≠ cB G + 169 → q < cB G + 212 → h_34 q = h_33 q := fun q h9 _ => hup_at eh_34 h9
  have of_34 : h_34 (cB G + 169) = some (eO 11 [JV 0, .ref (cB G + 170), .ref (cB G + 171), .ref (cB G + 172), .ref (cB G + 177), .ref (cB G + 178), JV 0, .ref (cB G + 179), .ref (cB G + 180), .ref (cB G + 181), .ref (cB G + 182), .ref (cB G + 183), .ref (cB G + 208), .ref (cB G + 209), JV 0, .null, JV 0, JV 0, .null, .null, .null, .null, .null, .null, JV 0, JV 0, JV 0, .null, JV 0, .null, .null, .null, .null, .null, .long 0]) := by rw [eh_34]; exact hup_self _ _ _
  change WP G mX11_init _ _ 69 64560 h_34 (cB G + 212) 145 [some (.ref (cB G + 169))] []
  refine wp_aload_n dX11_init_145 rfl ?_
  refine wp_bipush dX11_init_146 rfl ?_
  refine wp_iconst dX11_init_148 ?_
  refine wp_multi (r := 40) (m := 4) (k2 := 28) (n2 := 64360) dX11_init_149 clX11_16 ar_int (by decide) (by decide) (by omega) (by omega) ?_
  obtain ⟨h_35, eh_35⟩ : ∃ hh9 : AH, hh9 = hrows G h_34 (cB G + 212) 40 4 := ⟨_, rfl⟩
  refine WP.heq eh_35 ?_
  have fr_35 : ∀ q, q ≠ cB G + 169 → q < cB G + 212 → h_35 q = h_34 q := fun q _ hq => by rw [eh_35]; unfold hrows; rw [if_neg (by omega), if_neg (by omega)]
  have of_35 : h_35 (cB G + 169) = some (eO 11 [JV 0, .ref (cB G + 170), .ref (cB G + 171), .ref (cB G + 172), .ref (cB G + 177), .ref (cB G + 178), JV 0, .ref (cB G + 179), .ref (cB G + 180), .ref (cB G + 181), .ref (cB G + 182), .ref (cB G + 183), .ref (cB G + 208), .ref (cB G + 209), JV 0, .null, JV 0, JV 0, .null, .null, .null, .null, .null, .null, JV 0, JV 0, JV 0, .null, JV 0, .null, .null, .null, .null, .null, .long 0]) := by rw [eh_35]; unfold hrows; rw [if_neg (by omega), if_neg (by omega)]; exact of_34
  have x_35 : h_35 (cB G + 212) = some (eQ G 4 40 (fun i => if i < 40 then some (cB G + 212 + 1 + i) else none)) := by rw [eh_35]; unfold hrows; rw [if_pos rfl]
  have y_35 : ∀ i, i < 40 → h_35 (cB G + 213 + i) = some (eI G 4 (fun _ => 0)) := fun i hi => by rw [eh_35]; unfold hrows; rw [if_neg (by omega), if_pos (by omega)]
  change WP G mX11_init _ _ 28 64360 h_35 (cB G + 253) 153 [some (.ref (cB G + 169))] [.ref (cB G + 212), .ref (cB G + 169)]
  refine wp_putF fkX11_49 dX11_init_153 rfl (fun r hr => by cases hr; rfl) of_35 rfl rfl (Nat.le_of_ble_eq_true rfl) ?_
  obtain ⟨h_36, eh_36⟩ : ∃ hh9 : AH, hh9 = hup h_35 (cB G + 169) (eO 11 [JV 0, .ref (cB G + 170), .ref (cB G + 171), .ref (cB G + 172), .ref (cB G + 177), .ref (cB G + 178), JV 0, .ref (cB G + 179), .ref (cB G + 180), .ref (cB G + 181), .ref (cB G + 182), .ref (cB G + 183), .ref (cB G + 208), .ref (cB G + 209), JV 0, .ref (cB G + 212), JV 0, JV 0, .null, .null, .null, .null, .null, .null, JV 0, JV 0, JV 0, .null, JV 0, .null, .null, .null, .null, .null, .long 0]) := ⟨_, rfl⟩
  refine WP.heq eh_36 ?_
  have fr_36 : ∀ q, q ≠ cB G + 169 → q < cB G + 253 → h_36 q = h_35 q := fun q h9 _ => hup_at eh_36 h9
  have of_36 : h_36 (cB G + 169) = some (eO 11 [JV 0, .ref (cB G + 170), .ref (cB G + 171), .ref (cB G + 172), .ref (cB G + 177), .ref (cB G + 178), JV 0, .ref (cB G + 179), .ref (cB G + 180), .ref (cB G + 181), .ref (cB G + 182), .ref (cB G + 183), .ref (cB G + 208), .ref (cB G + 209), JV 0, .ref (cB G + 212), JV 0, JV 0, .null, .null, .null, .null, .null, .null, JV 0, JV 0, JV 0, .null, JV 0, .null, .null, .null, .null, .null, .long 0]) := by rw [eh_36]; exact hup_self _ _ _
  change WP G mX11_init _ _ 28 64360 h_36 (cB G + 253) 156 [some (.ref (cB G + 169))] []
  refine wp_aload_n dX11_init_156 rfl ?_
  refine wp_bipush dX11_init_157 rfl ?_
  refine wp_newI (m := 24) (k2 := 27) (n2 := 64336) dX11_init_159 ar_int rfl (by decide) (by omega) (by omega) ?_
  obtain ⟨h_37, eh_37⟩ : ∃ hh9 : AH, hh9 = hup h_36 (cB G + 253) (eI G 24 (fun _ => 0)) := ⟨_, rfl⟩
  refine WP.heq eh_37 ?_
  have fr_37 : ∀ q, q ≠ cB G + 169 → q < cB G + 253 → h_37 q = h_36 q := fun q _ hq => hup_at eh_37 (by omega)
  have of_37 := (hup_at eh_37 (show cB G + 169 ≠ cB G + 253 by omega)).trans of_36
  have x_37 : h_37 (cB G + 253) = some (eI G 24 (fun _ => 0)) := by rw [eh_37]; exact hup_self _ _ _
  change WP G mX11_init _ _ 27 64336 h_37 (cB G + 254) 161 [some (.ref (cB G + 169))] [.ref (cB G + 253), .ref (cB G + 169)]
  refine wp_putF fkX11_52 dX11_init_161 rfl (fun r hr => by cases hr; rfl) of_37 rfl rfl (Nat.le_of_ble_eq_true rfl) ?_
  obtain ⟨h_38, eh_38⟩ : ∃ hh9 : AH, hh9 = hup h_37 (cB G + 169) (eO 11 [JV 0, .ref (cB G + 170), .ref (cB G + 171), .ref (cB G + 172), .ref (cB G + 177), .ref (cB G + 178), JV 0, .ref (cB G + 179), .ref (cB G + 180), .ref (cB G + 181), .ref (cB G + 182), .ref (cB G + 183), .ref (cB G + 208), .ref (cB G + 209), JV 0, .ref (cB G + 212), JV 0, JV 0, .ref (cB G + 253), .null, .null, .null, .null, .null, JV 0, JV 0, JV 0, .null, JV 0, .null, .null, .null, .null, .null, .long 0]) := ⟨_, rfl⟩
  refine WP.heq eh_38 ?_
  have fr_38 : ∀ q, q ≠ cB G + 169 → q < cB G + 254 → h_38 q = h_37 q := fun q h9 _ => hup_at eh_38 h9
  have of_38 : h_38 (cB G + 169) = some (eO 11 [JV 0, .ref (cB G + 170), .ref (cB G + 171), .ref (cB G + 172), .ref (cB G + 177), .ref (cB G + 178), JV 0, .ref (cB G + 179), .ref (cB G + 180), .ref (cB G + 181), .ref (cB G + 182), .ref (cB G + 183), .ref (cB G + 208), .ref (cB G + 209), JV 0, .ref (cB G + 212), JV 0, JV 0, .ref (cB G + 253), .null, .null, .null, .null, .null, JV 0, JV 0, JV 0, .null, JV 0, .null, .null, .null, .null, .null, .long 0]) := by rw [eh_38]; exact hup_self _ _ _
  change WP G mX11_init _ _ 27 64336 h_38 (cB G + 254) 164 [some (.ref (cB G + 169))] []
  refine wp_aload_n dX11_init_164 rfl ?_
  refine wp_iconst dX11_init_165 ?_
  refine wp_bipush dX11_init_166 rfl ?_
  refine wp_multi (r := 2) (m := 24) (k2 := 24) (n2 := 64286) dX11_init_168 clX11_16 ar_int (by decide) (by decide) (by omega) (by omega) ?_
  obtain ⟨h_39, eh_39⟩ : ∃ hh9 : AH, hh9 = hrows G h_38 (cB G + 254) 2 24 := ⟨_, rfl⟩
  refine WP.heq eh_39 ?_
  have fr_39 : ∀ q, q ≠ cB G + 169 → q < cB G + 254 → h_39 q = h_38 q := fun q _ hq => by rw [eh_39]; unfold hrows; rw [if_neg (by omega), if_neg (by omega)]
  have of_39 : h_39 (cB G + 169) = some (eO 11 [JV 0, .ref (cB G + 170), .ref (cB G + 171), .ref (cB G + 172), .ref (cB G + 177), .ref (cB G + 178), JV 0, .ref (cB G + 179), .ref (cB G + 180), .ref (cB G + 181), .ref (cB G + 182), .ref (cB G + 183), .ref (cB G + 208), .ref (cB G + 209), JV 0, .ref (cB G + 212), JV 0, JV 0, .ref (cB G + 253), .null, .null, .null, .null, .null, JV 0, JV 0, JV 0, .null, JV 0, .null, .null, .null, .null, .null, .long 0]) := by rw [eh_39]; unfold hrows; rw [if_neg (by omega), if_neg (by omega)]; exact of_38
  have x_39 : h_39 (cB G + 254) = some (eQ G 4 2 (fun i => if i < 2 then some (cB G + 254 + 1 + i) else none)) := by rw [eh_39]; unfold hrows; rw [if_pos rfl]
  have y_39 : ∀ i, i < 2 → h_39 (cB G + 255 + i) = some (eI G 24 (fun _ => 0)) := fun i hi => by rw [eh_39]; unfold hrows; rw [if_neg (by omega), if_pos (by omega)]
  change WP G mX11_init _ _ 24 64286 h_39 (cB G + 257) 172 [some (.ref (cB G + 169))] [.ref (cB G + 254), .ref (cB G + 169)]
  refine wp_putF fkX11_55 dX11_init_172 rfl (fun r hr => by cases hr; rfl) of_39 rfl rfl (Nat.le_of_ble_eq_true rfl) ?_
  obtain ⟨h_40, eh_40⟩ : ∃ hh9 : AH, hh9 = hup h_39 (cB G + 169) (eO 11 [JV 0, .ref (cB G + 170), .ref (cB G + 171), .ref (cB G + 172), .ref (cB G + 177), .ref (cB G + 178), JV 0, .ref (cB G + 179), .ref (cB G + 180), .ref (cB G + 181), .ref (cB G + 182), .ref (cB G + 183), .ref (cB G + 208), .ref (cB G + 209), JV 0, .ref (cB G + 212), JV 0, JV 0, .ref (cB G + 253), .ref (cB G + 254), .null, .null, .null, .null, JV 0, JV 0, JV 0, .null, JV 0, .null, .null, .null, .null, .null, .long 0]) := ⟨_, rfl⟩
  refine WP.heq eh_40 ?_
  have fr_40 : ∀ q, q ≠ cB G + 169 → q < cB G + 257 → h_40 q = h_39 q := fun q h9 _ => hup_at eh_40 h9
  have of_40 : h_40 (cB G + 169) = some (eO 11 [JV 0, .ref (cB G + 170), .ref (cB G + 171), .ref (cB G + 172), .ref (cB G + 177), .ref (cB G + 178), JV 0, .ref (cB G + 179), .ref (cB G + 180), .ref (cB G + 181), .ref (cB G + 182), .ref (cB G + 183), .ref (cB G + 208), .ref (cB G + 209), JV 0, .ref (cB G + 212), JV 0, JV 0, .ref (cB G + 253), .ref (cB G + 254), .null, .null, .null, .null, JV 0, JV 0, JV 0, .null, JV 0, .null, .null, .null, .null, .null, .long 0]) := by rw [eh_40]; exact hup_self _ _ _
  change WP G mX11_init _ _ 24 64286 h_40 (cB G + 257) 175 [some (.ref (cB G + 169))] []
  refine wp_aload_n dX11_init_175 rfl ?_
  refine wp_iconst dX11_init_176 ?_
  refine wp_bipush dX11_init_177 rfl ?_
  refine wp_multi (r := 2) (m := 24) (k2 := 21) (n2 := 64236) dX11_init_179 clX11_16 ar_int (by decide) (by decide) (by omega) (by omega) ?_
  obtain ⟨h_41, eh_41⟩ : ∃ hh9 : AH, hh9 = hrows G h_40 (cB G + 257) 2 24 := ⟨_, rfl⟩
  refine WP.heq eh_41 ?_
  have fr_41 : ∀ q, q ≠ cB G + 169 → q < cB G + 257 → h_41 q = h_40 q := fun q _ hq => by rw [eh_41]; unfold hrows; rw [if_neg (by omega), if_neg (by omega)]
  have of_41 : h_41 (cB G + 169) = some (eO 11 [JV 0, .ref (cB G + 170), .ref (cB G + 171), .ref (cB G + 172), .ref (cB G + 177), .ref (cB G + 178), JV 0, .ref (cB G + 179), .ref (cB G + 180), .ref (cB G + 181), .ref (cB G + 182), .ref (cB G + 183), .ref (cB G + 208), .ref (cB G + 209), JV 0, .ref (cB G + 212), JV 0, JV 0, .ref (cB G + 253), .ref (cB G + 254), .null, .null, .null, .null, JV 0, JV 0, JV 0, .null, JV 0, .null, .null, .null, .null, .null, .long 0]) := by rw [eh_41]; unfold hrows; rw [if_neg (by omega), if_neg (by omega)]; exact of_40
  have x_41 : h_41 (cB G + 257) = some (eQ G 4 2 (fun i => if i < 2 then some (cB G + 257 + 1 + i) else none)) := by rw [eh_41]; unfold hrows; rw [if_pos rfl]
  have y_41 : ∀ i, i < 2 → h_41 (cB G + 258 + i) = some (eI G 24 (fun _ => 0)) := fun i hi => by rw [eh_41]; unfold hrows; rw [if_neg (by omega), if_pos (by omega)]
  change WP G mX11_init _ _ 21 64236 h_41 (cB G + 260) 183 [some (.ref (cB G + 169))] [.ref (cB G + 257), .ref (cB G + 169)]
  refine wp_putF fkX11_58 dX11_init_183 rfl (fun r hr => by cases hr; rfl) of_41 rfl rfl (Nat.le_of_ble_eq_true rfl) ?_
  obtain ⟨h_42, eh_42⟩ : ∃ hh9 : AH, hh9 = hup h_41 (cB G + 169) (eO 11 [JV 0, .ref (cB G + 170), .ref (cB G + 171), .ref (cB G + 172), .ref (cB G + 177), .ref (cB G + 178), JV 0, .ref (cB G + 179), .ref (cB G + 180), .ref (cB G + 181), .ref (cB G + 182), .ref (cB G + 183), .ref (cB G + 208), .ref (cB G + 209), JV 0, .ref (cB G + 212), JV 0, JV 0, .ref (cB G + 253), .ref (cB G + 254), .ref (cB G + 257), .null, .null, .null, JV 0, JV 0, JV 0, .null, JV 0, .null, .null, .null, .null, .null, .long 0]) := ⟨_, rfl⟩
  refine WP.heq eh_42 ?_
  have fr_42 : ∀ q, q ≠ cB G + 169 → q < cB G + 260 → h_42 q = h_41 q := fun q h9 _ => hup_at eh_42 h9
  have of_42 : h_42 (cB G + 169) = some (eO 11 [JV 0, .ref (cB G + 170), .ref (cB G + 171), .ref (cB G + 172), .ref (cB G + 177), .ref (cB G + 178), JV 0, .ref (cB G + 179), .ref (cB G + 180), .ref (cB G + 181), .ref (cB G + 182), .ref (cB G + 183), .ref (cB G + 208), .ref (cB G + 209), JV 0, .ref (cB G + 212), JV 0, JV 0, .ref (cB G + 253), .ref (cB G + 254), .ref (cB G + 257), .null, .null, .null, JV 0, JV 0, JV 0, .null, JV 0, .null, .null, .null, .null, .null, .long 0]) := by rw [eh_42]; exact hup_self _ _ _
  change WP G mX11_init _ _ 21 64236 h_42 (cB G + 260) 186 [some (.ref (cB G + 169))] []
  refine wp_aload_n dX11_init_186 rfl ?_
  refine wp_bipush dX11_init_187 rfl ?_
  refine wp_newI (m := 24) (k2 := 20) (n2 := 64212) dX11_init_189 ar_int rfl (by decide) (by omega) (by omega) ?_
  obtain ⟨h_43, eh_43⟩ : ∃ hh9 : AH, hh9 = hup h_42 (cB G + 260) (eI G 24 (fun _ => 0)) := ⟨_, rfl⟩
  refine WP.heq eh_43 ?_
  have fr_43 : ∀ q, q ≠ cB G + 169 → q < cB G + 260 → h_43 q = h_42 q := fun q _ hq => hup_at eh_43 (by omega)
  have of_43 := (hup_at eh_43 (show cB G + 169 ≠ cB G + 260 by omega)).trans of_42
  have x_43 : h_43 (cB G + 260) = some (eI G 24 (fun _ => 0)) := by rw [eh_43]; exact hup_self _ _ _
  change WP G mX11_init _ _ 20 64212 h_43 (cB G + 261) 191 [some (.ref (cB G + 169))] [.ref (cB G + 260), .ref (cB G + 169)]
  refine wp_putF fkX11_61 dX11_init_191 rfl (fun r hr => by cases hr; rfl) of_43 rfl rfl (Nat.le_of_ble_eq_true rfl) ?_
  obtain ⟨h_44, eh_44⟩ : ∃ hh9 : AH, hh9 = hup h_43 (cB G + 169) (eO 11 [JV 0, .ref (cB G + 170), .ref (cB G + 171), .ref (cB G + 172), .ref (cB G + 177), .ref (cB G + 178), JV 0, .ref (cB G + 179), .ref (cB G + 180), .ref (cB G + 181), .ref (cB G + 182), .ref (cB G + 183), .ref (cB G + 208), .ref (cB G + 209), JV 0, .ref (cB G + 212), JV 0, JV 0, .ref (cB G + 253), .ref (cB G + 254), .ref (cB G + 257), .ref (cB G + 260), .null, .null, JV 0, JV 0, JV 0, .null, JV 0, .null, .null, .null, .null, .null, .long 0]) := ⟨_, rfl⟩
  refine WP.heq eh_44 ?_
  have fr_44 : ∀ q, q ≠ cB G + 169 → q < cB G + 261 → h_44 q = h_43 q := fun q h9 _ => hup_at eh_44 h9
  have of_44 : h_44 (cB G + 169) = some (eO 11 [JV 0, .ref (cB G + 170), .ref (cB G + 171), .ref (cB G + 172), .ref (cB G + 177), .ref (cB G + 178), JV 0, .ref (cB G + 179), .ref (cB G + 180), .ref (cB G + 181), .ref (cB G + 182), .ref (cB G + 183), .ref (cB G + 208), .ref (cB G + 209), JV 0, .ref (cB G + 212), JV 0, JV 0, .ref (cB G + 253), .ref (cB G + 254), .ref (cB G + 257), .ref (cB G + 260), .null, .null, JV 0, JV 0, JV 0, .null, JV 0, .null, .null, .null, .null, .null, .long 0]) := by rw [eh_44]; exact hup_self _ _ _
  change WP G mX11_init _ _ 20 64212 h_44 (cB G + 261) 194 [some (.ref (cB G + 169))] []
  refine wp_aload_n dX11_init_194 rfl ?_
  refine wp_iconst dX11_init_195 ?_
  refine wp_bipush dX11_init_196 rfl ?_
  refine wp_multi (r := 2) (m := 24) (k2 := 17) (n2 := 64162) dX11_init_198 clX11_16 ar_int (by decide) (by decide) (by omega) (by omega) ?_
  obtain ⟨h_45, eh_45⟩ : ∃ hh9 : AH, hh9 = hrows G h_44 (cB G + 261) 2 24 := ⟨_, rfl⟩
  refine WP.heq eh_45 ?_
  have fr_45 : ∀ q, q ≠ cB G + 169 → q < cB G + 261 → h_45 q = h_44 q := fun q _ hq => by rw [eh_45]; unfold hrows; rw [if_neg (by omega), if_neg (by omega)]
  have of_45 : h_45 (cB G + 169) = some (eO 11 [JV 0, .ref (cB G + 170), .ref (cB G + 171), .ref (cB G + 172), .ref (cB G + 177), .ref (cB G + 178), JV 0, .ref (cB G + 179), .ref (cB G + 180), .ref (cB G + 181), .ref (cB G + 182), .ref (cB G + 183), .ref (cB G + 208), .ref (cB G + 209), JV 0, .ref (cB G + 212), JV 0, JV 0, .ref (cB G + 253), .ref (cB G + 254), .ref (cB G + 257), .ref (cB G + 260), .null, .null, JV 0, JV 0, JV 0, .null, JV 0, .null, .null, .null, .null, .null, .long 0]) := by rw [eh_45]; unfold hrows; rw [if_neg (by omega), if_neg (by omega)]; exact of_44
  have x_45 : h_45 (cB G + 261) = some (eQ G 4 2 (fun i => if i < 2 then some (cB G + 261 + 1 + i) else none)) := by rw [eh_45]; unfold hrows; rw [if_pos rfl]
  have y_45 : ∀ i, i < 2 → h_45 (cB G + 262 + i) = some (eI G 24 (fun _ => 0)) := fun i hi => by rw [eh_45]; unfold hrows; rw [if_neg (by omega), if_pos (by omega)]
  change WP G mX11_init _ _ 17 64162 h_45 (cB G + 264) 202 [some (.ref (cB G + 169))] [.ref (cB G + 261), .ref (cB G + 169)]
  refine wp_putF fkX11_64 dX11_init_202 rfl (fun r hr => by cases hr; rfl) of_45 rfl rfl (Nat.le_of_ble_eq_true rfl) ?_
  obtain ⟨h_46, eh_46⟩ : ∃ hh9 : AH, hh9 = hup h_45 (cB G + 169) (eO 11 [JV 0, .ref (cB G + 170), .ref (cB G + 171), .ref (cB G + 172), .ref (cB G + 177), .ref (cB G + 178), JV 0, .ref (cB G + 179), .ref (cB G + 180), .ref (cB G + 181), .ref (cB G + 182), .ref (cB G + 183), .ref (cB G + 208), .ref (cB G + 209), JV 0, .ref (cB G + 212), JV 0, JV 0, .ref (cB G + 253), .ref (cB G + 254), .ref (cB G + 257), .ref (cB G + 260), .ref (cB G + 261), .null, JV 0, JV 0, JV 0, .null, JV 0, .null, .null, .null, .null, .null, .long 0]) := ⟨_, rfl⟩
  refine WP.heq eh_46 ?_
  have fr_46 : ∀ q, q ≠ cB G + 169 → q < cB G + 264 → h_46 q = h_45 q := fun q h9 _ => hup_at eh_46 h9
  have of_46 : h_46 (cB G + 169) = some (eO 11 [JV 0, .ref (cB G + 170), .ref (cB G + 171), .ref (cB G + 172), .ref (cB G + 177), .ref (cB G + 178), JV 0, .ref (cB G + 179), .ref (cB G + 180), .ref (cB G + 181), .ref (cB G + 182), .ref (cB G + 183), .ref (cB G + 208), .ref (cB G + 209), JV 0, .ref (cB G + 212), JV 0, JV 0, .ref (cB G + 253), .ref (cB G + 254), .ref (cB G + 257), .ref (cB G + 260), .ref (cB G + 261), .null, JV 0, JV 0, JV 0, .null, JV 0, .null, .null, .null, .null, .null, .long 0]) := by rw [eh_46]; exact hup_self _ _ _
  change WP G mX11_init _ _ 17 64162 h_46 (cB G + 264) 205 [some (.ref (cB G + 169))] []
  refine wp_aload_n dX11_init_205 rfl ?_
  refine wp_bipush dX11_init_206 rfl ?_
  refine wp_newI (m := 24) (k2 := 16) (n2 := 64138) dX11_init_208 ar_int rfl (by decide) (by omega) (by omega) ?_
  obtain ⟨h_47, eh_47⟩ : ∃ hh9 : AH, hh9 = hup h_46 (cB G + 264) (eI G 24 (fun _ => 0)) := ⟨_, rfl⟩
  refine WP.heq eh_47 ?_
  have fr_47 : ∀ q, q ≠ cB G + 169 → q < cB G + 264 → h_47 q = h_46 q := fun q _ hq => hup_at eh_47 (by omega)
  have of_47 := (hup_at eh_47 (show cB G + 169 ≠ cB G + 264 by omega)).trans of_46
  have x_47 : h_47 (cB G + 264) = some (eI G 24 (fun _ => 0)) := by rw [eh_47]; exact hup_self _ _ _
  change WP G mX11_init _ _ 16 64138 h_47 (cB G + 265) 210 [some (.ref (cB G + 169))] [.ref (cB G + 264), .ref (cB G + 169)]
  refine wp_putF fkX11_67 dX11_init_210 rfl (fun r hr => by cases hr; rfl) of_47 rfl rfl (Nat.le_of_ble_eq_true rfl) ?_
  obtain ⟨h_48, eh_48⟩ : ∃ hh9 : AH, hh9 = hup h_47 (cB G + 169) (eO 11 [JV 0, .ref (cB G + 170), .ref (cB G + 171), .ref (cB G + 172), .ref (cB G + 177), .ref (cB G + 178), JV 0, .ref (cB G + 179), .ref (cB G + 180), .ref (cB G + 181), .ref (cB G + 182), .ref (cB G + 183), .ref (cB G + 208), .ref (cB G + 209), JV 0, .ref (cB G + 212), JV 0, JV 0, .ref (cB G + 253), .ref (cB G + 254), .ref (cB G + 257), .ref (cB G + 260), .ref (cB G + 261), .ref (cB G + 264), JV 0, JV 0, JV 0, .null, JV 0, .null, .null, .null, .null, .null, .long 0]) := ⟨_, rfl⟩
  refine WP.heq eh_48 ?_
  have fr_48 : ∀ q, q ≠ cB G + 169 → q < cB G + 265 → h_48 q = h_47 q := fun q h9 _ => hup_at eh_48 h9
  have of_48 : h_48 (cB G + 169) = some (eO 11 [JV 0, .ref (cB G + 170), .ref (cB G + 171), .ref (cB G + 172), .ref (cB G + 177), .ref (cB G + 178), JV 0, .ref (cB G + 179), .ref (cB G + 180), .ref (cB G + 181), .ref (cB G + 182), .ref (cB G + 183), .ref (cB G + 208), .ref (cB G + 209), JV 0, .ref (cB G + 212), JV 0, JV 0, .ref (cB G + 253), .ref (cB G + 254), .ref (cB G + 257), .ref (cB G + 260), .ref (cB G + 261), .ref (cB G + 264), JV 0, JV 0, JV 0, .null, JV 0, .null, .null, .null, .null, .null, .long 0]) := by rw [eh_48]; exact hup_self _ _ _
  change WP G mX11_init _ _ 16 64138 h_48 (cB G + 265) 213 [some (.ref (cB G + 169))] []
  refine wp_aload_n dX11_init_213 rfl ?_
  refine wp_iconst dX11_init_214 ?_
  refine wp_sipush dX11_init_215 rfl ?_
  refine wp_multi (r := 4) (m := 16000) (k2 := 11) (n2 := 134) dX11_init_218 clX11_16 ar_int (by decide) (by decide) (by omega) (by omega) ?_
  obtain ⟨h_49, eh_49⟩ : ∃ hh9 : AH, hh9 = hrows G h_48 (cB G + 265) 4 16000 := ⟨_, rfl⟩
  refine WP.heq eh_49 ?_
  have fr_49 : ∀ q, q ≠ cB G + 169 → q < cB G + 265 → h_49 q = h_48 q := fun q _ hq => by rw [eh_49]; unfold hrows; rw [if_neg (by omega), if_neg (by omega)]
  have of_49 : h_49 (cB G + 169) = some (eO 11 [JV 0, .ref (cB G + 170), .ref (cB G + 171), .ref (cB G + 172), .ref (cB G + 177), .ref (cB G + 178), JV 0, .ref (cB G + 179), .ref (cB G + 180), .ref (cB G + 181), .ref (cB G + 182), .ref (cB G + 183), .ref (cB G + 208), .ref (cB G + 209), JV 0, .ref (cB G + 212), JV 0, JV 0, .ref (cB G + 253), .ref (cB G + 254), .ref (cB G + 257), .ref (cB G + 260), .ref (cB G + 261), .ref (cB G + 264), JV 0, JV 0, JV 0, .null, JV 0, .null, .null, .null, .null, .null, .long 0]) := by rw [eh_49]; unfold hrows; rw [if_neg (by omega), if_neg (by omega)]; exact of_48
  have x_49 : h_49 (cB G + 265) = some (eQ G 4 4 (fun i => if i < 4 then some (cB G + 265 + 1 + i) else none)) := by rw [eh_49]; unfold hrows; rw [if_pos rfl]
  have y_49 : ∀ i, i < 4 → h_49 (cB G + 266 + i) = some (eI G 16000 (fun _ => 0)) := fun i hi => by rw [eh_49]; unfold hrows; rw [if_neg (by omega), if_pos (by omega)]
  change WP G mX11_init _ _ 11 134 h_49 (cB G + 270) 222 [some (.ref (cB G + 169))] [.ref (cB G + 265), .ref (cB G + 169)]
  refine wp_putF fkX11_70 dX11_init_222 rfl (fun r hr => by cases hr; rfl) of_49 rfl rfl (Nat.le_of_ble_eq_true rfl) ?_
  obtain ⟨h_50, eh_50⟩ : ∃ hh9 : AH, hh9 = hup h_49 (cB G + 169) (eO 11 [JV 0, .ref (cB G + 170), .ref (cB G + 171), .ref (cB G + 172), .ref (cB G + 177), .ref (cB G + 178), JV 0, .ref (cB G + 179), .ref (cB G + 180), .ref (cB G + 181), .ref (cB G + 182), .ref (cB G + 183), .ref (cB G + 208), .ref (cB G + 209), JV 0, .ref (cB G + 212), JV 0, JV 0, .ref (cB G + 253), .ref (cB G + 254), .ref (cB G + 257), .ref (cB G + 260), .ref (cB G + 261), .ref (cB G + 264), JV 0, JV 0, JV 0, .ref (cB G + 265), JV 0, .null, .null, .null, .null, .null, .long 0]) := ⟨_, rfl⟩
  refine WP.heq eh_50 ?_
  have fr_50 : ∀ q, q ≠ cB G + 169 → q < cB G + 270 → h_50 q = h_49 q := fun q h9 _ => hup_at eh_50 h9
  have of_50 : h_50 (cB G + 169) = some (eO 11 [JV 0, .ref (cB G + 170), .ref (cB G + 171), .ref (cB G + 172), .ref (cB G + 177), .ref (cB G + 178), JV 0, .ref (cB G + 179), .ref (cB G + 180), .ref (cB G + 181), .ref (cB G + 182), .ref (cB G + 183), .ref (cB G + 208), .ref (cB G + 209), JV 0, .ref (cB G + 212), JV 0, JV 0, .ref (cB G + 253), .ref (cB G + 254), .ref (cB G + 257), .ref (cB G + 260), .ref (cB G + 261), .ref (cB G + 264), JV 0, JV 0, JV 0, .ref (cB G + 265), JV 0, .null, .null, .null, .null, .null, .long 0]) := by rw [eh_50]; exact hup_self _ _ _
  change WP G mX11_init _ _ 11 134 h_50 (cB G + 270) 225 [some (.ref (cB G + 169))] []
  refine wp_aload_n dX11_init_225 rfl ?_
  refine wp_iconst dX11_init_226 ?_
  refine wp_bipush dX11_init_227 rfl ?_
  refine wp_multi (r := 2) (m := 24) (k2 := 8) (n2 := 84) dX11_init_229 clX11_16 ar_int (by decide) (by decide) (by omega) (by omega) ?_
  obtain ⟨h_51, eh_51⟩ : ∃ hh9 : AH, hh9 = hrows G h_50 (cB G + 270) 2 24 := ⟨_, rfl⟩
  refine WP.heq eh_51 ?_
  have fr_51 : ∀ q, q ≠ cB G + 169 → q < cB G + 270 → h_51 q = h_50 q := fun q _ hq => by rw [eh_51]; unfold hrows; rw [if_neg (by omega), if_neg (by omega)]
  have of_51 : h_51 (cB G + 169) = some (eO 11 [JV 0, .ref (cB G + 170), .ref (cB G + 171), .ref (cB G + 172), .ref (cB G + 177), .ref (cB G + 178), JV 0, .ref (cB G + 179), .ref (cB G + 180), .ref (cB G + 181), .ref (cB G + 182), .ref (cB G + 183), .ref (cB G + 208), .ref (cB G + 209), JV 0, .ref (cB G + 212), JV 0, JV 0, .ref (cB G + 253), .ref (cB G + 254), .ref (cB G + 257), .ref (cB G + 260), .ref (cB G + 261), .ref (cB G + 264), JV 0, JV 0, JV 0, .ref (cB G + 265), JV 0, .null, .null, .null, .null, .null, .long 0]) := by rw [eh_51]; unfold hrows; rw [if_neg (by omega), if_neg (by omega)]; exact of_50
  have x_51 : h_51 (cB G + 270) = some (eQ G 4 2 (fun i => if i < 2 then some (cB G + 270 + 1 + i) else none)) := by rw [eh_51]; unfold hrows; rw [if_pos rfl]
  have y_51 : ∀ i, i < 2 → h_51 (cB G + 271 + i) = some (eI G 24 (fun _ => 0)) := fun i hi => by rw [eh_51]; unfold hrows; rw [if_neg (by omega), if_pos (by omega)]
  change WP G mX11_init _ _ 8 84 h_51 (cB G + 273) 233 [some (.ref (cB G + 169))] [.ref (cB G + 270), .ref (cB G + 169)]
  refine wp_putF fkX11_73 dX11_init_233 rfl (fun r hr => by cases hr; rfl) of_51 rfl rfl (Nat.le_of_ble_eq_true rfl) ?_
  obtain ⟨h_52, eh_52⟩ : ∃ hh9 : AH, hh9 = hup h_51 (cB G + 169) (eO 11 [JV 0, .ref (cB G + 170), .ref (cB G + 171), .ref (cB G + 172), .ref (cB G + 177), .ref (cB G + 178), JV 0, .ref (cB G + 179), .ref (cB G + 180), .ref (cB G + 181), .ref (cB G + 182), .ref (cB G + 183), .ref (cB G + 208), .ref (cB G + 209), JV 0, .ref (cB G + 212), JV 0, JV 0, .ref (cB G + 253), .ref (cB G + 254), .ref (cB G + 257), .ref (cB G + 260), .ref (cB G + 261), .ref (cB G + 264), JV 0, JV 0, JV 0, .ref (cB G + 265), JV 0, .ref (cB G + 270), .null, .null, .null, .null, .long 0]) := ⟨_, rfl⟩
  refine WP.heq eh_52 ?_
  have fr_52 : ∀ q, q ≠ cB G + 169 → q < cB G + 273 → h_52 q = h_51 q := fun q h9 _ => hup_at eh_52 h9
  have of_52 : h_52 (cB G + 169) = some (eO 11 [JV 0, .ref (cB G + 170), .ref (cB G + 171), .ref (cB G + 172), .ref (cB G + 177), .ref (cB G + 178), JV 0, .ref (cB G + 179), .ref (cB G + 180), .ref (cB G + 181), .ref (cB G + 182), .ref (cB G + 183), .ref (cB G + 208), .ref (cB G + 209), JV 0, .ref (cB G + 212), JV 0, JV 0, .ref (cB G + 253), .ref (cB G + 254), .ref (cB G + 257), .ref (cB G + 260), .ref (cB G + 261), .ref (cB G + 264), JV 0, JV 0, JV 0, .ref (cB G + 265), JV 0, .ref (cB G + 270), .null, .null, .null, .null, .long 0]) := by rw [eh_52]; exact hup_self _ _ _
  change WP G mX11_init _ _ 8 84 h_52 (cB G + 273) 236 [some (.ref (cB G + 169))] []
  refine wp_aload_n dX11_init_236 rfl ?_
  refine wp_bipush dX11_init_237 rfl ?_
  refine wp_newI (m := 24) (k2 := 7) (n2 := 60) dX11_init_239 ar_int rfl (by decide) (by omega) (by omega) ?_
  obtain ⟨h_53, eh_53⟩ : ∃ hh9 : AH, hh9 = hup h_52 (cB G + 273) (eI G 24 (fun _ => 0)) := ⟨_, rfl⟩
  refine WP.heq eh_53 ?_
  have fr_53 : ∀ q, q ≠ cB G + 169 → q < cB G + 273 → h_53 q = h_52 q := fun q _ hq => hup_at eh_53 (by omega)
  have of_53 := (hup_at eh_53 (show cB G + 169 ≠ cB G + 273 by omega)).trans of_52
  have x_53 : h_53 (cB G + 273) = some (eI G 24 (fun _ => 0)) := by rw [eh_53]; exact hup_self _ _ _
  change WP G mX11_init _ _ 7 60 h_53 (cB G + 274) 241 [some (.ref (cB G + 169))] [.ref (cB G + 273), .ref (cB G + 169)]
  refine wp_putF fkX11_76 dX11_init_241 rfl (fun r hr => by cases hr; rfl) of_53 rfl rfl (Nat.le_of_ble_eq_true rfl) ?_
  obtain ⟨h_54, eh_54⟩ : ∃ hh9 : AH, hh9 = hup h_53 (cB G + 169) (eO 11 [JV 0, .ref (cB G + 170), .ref (cB G + 171), .ref (cB G + 172), .ref (cB G + 177), .ref (cB G + 178), JV 0, .ref (cB G + 179), .ref (cB G + 180), .ref (cB G + 181), .ref (cB G + 182), .ref (cB G + 183), .ref (cB G + 208), .ref (cB G + 209), JV 0, .ref (cB G + 212), JV 0, JV 0, .ref (cB G + 253), .ref (cB G + 254), .ref (cB G + 257), .ref (cB G + 260), .ref (cB G + 261), .ref (cB G + 264), JV 0, JV 0, JV 0, .ref (cB G + 265), JV 0, .ref (cB G + 270), .ref (cB G + 273), .null, .null, .null, .long 0]) := ⟨_, rfl⟩
  refine WP.heq eh_54 ?_
  have fr_54 : ∀ q, q ≠ cB G + 169 → q < cB G + 274 → h_54 q = h_53 q := fun q h9 _ => hup_at eh_54 h9
  have of_54 : h_54 (cB G + 169) = some (eO 11 [JV 0, .ref (cB G + 170), .ref (cB G + 171), .ref (cB G + 172), .ref (cB G + 177), .ref (cB G + 178), JV 0, .ref (cB G + 179), .ref (cB G + 180), .ref (cB G + 181), .ref (cB G + 182), .ref (cB G + 183), .ref (cB G + 208), .ref (cB G + 209), JV 0, .ref (cB G + 212), JV 0, JV 0, .ref (cB G + 253), .ref (cB G + 254), .ref (cB G + 257), .ref (cB G + 260), .ref (cB G + 261), .ref (cB G + 264), JV 0, JV 0, JV 0, .ref (cB G + 265), JV 0, .ref (cB G + 270), .ref (cB G + 273), .null, .null, .null, .long 0]) := by rw [eh_54]; exact hup_self _ _ _
  change WP G mX11_init _ _ 7 60 h_54 (cB G + 274) 244 [some (.ref (cB G + 169))] []
  refine wp_aload_n dX11_init_244 rfl ?_
  refine wp_iconst dX11_init_245 ?_
  refine wp_newI (m := 4) (k2 := 6) (n2 := 56) dX11_init_246 ar_int rfl (by decide) (by omega) (by omega) ?_
  obtain ⟨h_55, eh_55⟩ : ∃ hh9 : AH, hh9 = hup h_54 (cB G + 274) (eI G 4 (fun _ => 0)) := ⟨_, rfl⟩
  refine WP.heq eh_55 ?_
  have fr_55 : ∀ q, q ≠ cB G + 169 → q < cB G + 274 → h_55 q = h_54 q := fun q _ hq => hup_at eh_55 (by omega)
  have of_55 := (hup_at eh_55 (show cB G + 169 ≠ cB G + 274 by omega)).trans of_54
  have x_55 : h_55 (cB G + 274) = some (eI G 4 (fun _ => 0)) := by rw [eh_55]; exact hup_self _ _ _
  change WP G mX11_init _ _ 6 56 h_55 (cB G + 275) 248 [some (.ref (cB G + 169))] [.ref (cB G + 274), .ref (cB G + 169)]
  refine wp_putF fkX11_79 dX11_init_248 rfl (fun r hr => by cases hr; rfl) of_55 rfl rfl (Nat.le_of_ble_eq_true rfl) ?_
  obtain ⟨h_56, eh_56⟩ : ∃ hh9 : AH, hh9 = hup h_55 (cB G + 169) (eO 11 [JV 0, .ref (cB G + 170), .ref (cB G + 171), .ref (cB G + 172), .ref (cB G + 177), .ref (cB G + 178), JV 0, .ref (cB G + 179), .ref (cB G + 180), .ref (cB G + 181), .ref (cB G + 182), .ref (cB G + 183), .ref (cB G + 208), .ref (cB G + 209), JV 0, .ref (cB G + 212), JV 0, JV 0, .ref (cB G + 253), .ref (cB G + 254), .ref (cB G + 257), .ref (cB G + 260), .ref (cB G + 261), .ref (cB G + 264), JV 0, JV 0, JV 0, .ref (cB G + 265), JV 0, .ref (cB G + 270), .ref (cB G + 273), .ref (cB G + 274), .null, .null, .long 0]) := ⟨_, rfl⟩
  refine WP.heq eh_56 ?_
  have fr_56 : ∀ q, q ≠ cB G + 169 → q < cB G + 275 → h_56 q = h_55 q := fun q h9 _ => hup_at eh_56 h9
  have of_56 : h_56 (cB G + 169) = some (eO 11 [JV 0, .ref (cB G + 170), .ref (cB G + 171), .ref (cB G + 172), .ref (cB G + 177), .ref (cB G + 178), JV 0, .ref (cB G + 179), .ref (cB G + 180), .ref (cB G + 181), .ref (cB G + 182), .ref (cB G + 183), .ref (cB G + 208), .ref (cB G + 209), JV 0, .ref (cB G + 212), JV 0, JV 0, .ref (cB G + 253), .ref (cB G + 254), .ref (cB G + 257), .ref (cB G + 260), .ref (cB G + 261), .ref (cB G + 264), JV 0, JV 0, JV 0, .ref (cB G + 265), JV 0, .ref (cB G + 270), .ref (cB G + 273), .ref (cB G + 274), .null, .null, .long 0]) := by rw [eh_56]; exact hup_self _ _ _
  change WP G mX11_init _ _ 6 56 h_56 (cB G + 275) 251 [some (.ref (cB G + 169))] []
  refine wp_aload_n dX11_init_251 rfl ?_
  refine wp_iconst dX11_init_252 ?_
  refine wp_newI (m := 4) (k2 := 5) (n2 := 52) dX11_init_253 ar_int rfl (by decide) (by omega) (by omega) ?_
  obtain ⟨h_57, eh_57⟩ : ∃ hh9 : AH, hh9 = hup h_56 (cB G + 275) (eI G 4 (fun _ => 0)) := ⟨_, rfl⟩
  refine WP.heq eh_57 ?_
  have fr_57 : ∀ q, q ≠ cB G + 169 → q < cB G + 275 → h_57 q = h_56 q := fun q _ hq => hup_at eh_57 (by omega)
  have of_57 := (hup_at eh_57 (show cB G + 169 ≠ cB G + 275 by omega)).trans of_56
  have x_57 : h_57 (cB G + 275) = some (eI G 4 (fun _ => 0)) := by rw [eh_57]; exact hup_self _ _ _
  change WP G mX11_init _ _ 5 52 h_57 (cB G + 276) 255 [some (.ref (cB G + 169))] [.ref (cB G + 275), .ref (cB G + 169)]
  refine wp_putF fkX11_82 dX11_init_255 rfl (fun r hr => by cases hr; rfl) of_57 rfl rfl (Nat.le_of_ble_eq_true rfl) ?_
  obtain ⟨h_58, eh_58⟩ : ∃ hh9 : AH, hh9 = hup h_57 (cB G + 169) (eO 11 [JV 0, .ref (cB G + 170), .ref (cB G + 171), .ref (cB G + 172), .ref (cB G + 177), .ref (cB G + 178), JV 0, .ref (cB G + 179), .ref (cB G + 180), .ref (cB G + 181), .ref (cB G + 182), .ref (cB G + 183), .ref (cB G + 208), .ref (cB G + 209), JV 0, .ref (cB G + 212), JV 0, JV 0, .ref (cB G + 253), .ref (cB G + 254), .ref (cB G + 257), .ref (cB G + 260), .ref (cB G + 261), .ref (cB G + 264), JV 0, JV 0, JV 0, .ref (cB G + 265), JV 0, .ref (cB G + 270), .ref (cB G + 273), .ref (cB G + 274), .ref (cB G + 275), .null, .long 0]) := ⟨_, rfl⟩
  refine WP.heq eh_58 ?_
  have fr_58 : ∀ q, q ≠ cB G + 169 → q < cB G + 276 → h_58 q = h_57 q := fun q h9 _ => hup_at eh_58 h9
  have of_58 : h_58 (cB G + 169) = some (eO 11 [JV 0, .ref (cB G + 170), .ref (cB G + 171), .ref (cB G + 172), .ref (cB G + 177), .ref (cB G + 178), JV 0, .ref (cB G + 179), .ref (cB G + 180), .ref (cB G + 181), .ref (cB G + 182), .ref (cB G + 183), .ref (cB G + 208), .ref (cB G + 209), JV 0, .ref (cB G + 212), JV 0, JV 0, .ref (cB G + 253), .ref (cB G + 254), .ref (cB G + 257), .ref (cB G + 260), .ref (cB G + 261), .ref (cB G + 264), JV 0, JV 0, JV 0, .ref (cB G + 265), JV 0, .ref (cB G + 270), .ref (cB G + 273), .ref (cB G + 274), .ref (cB G + 275), .null, .long 0]) := by rw [eh_58]; exact hup_self _ _ _
  change WP G mX11_init _ _ 5 52 h_58 (cB G + 276) 258 [some (.ref (cB G + 169))] []
  refine wp_aload_n dX11_init_258 rfl ?_
  refine wp_iconst dX11_init_259 ?_
  refine wp_bipush dX11_init_260 rfl ?_
  refine wp_multi (r := 4) (m := 12) (k2 := 0) (n2 := 0) dX11_init_262 clX11_16 ar_int (by decide) (by decide) (by omega) (by omega) ?_
  obtain ⟨h_59, eh_59⟩ : ∃ hh9 : AH, hh9 = hrows G h_58 (cB G + 276) 4 12 := ⟨_, rfl⟩
  refine WP.heq eh_59 ?_
  have fr_59 : ∀ q, q ≠ cB G + 169 → q < cB G + 276 → h_59 q = h_58 q := fun q _ hq => by rw [eh_59]; unfold hrows; rw [if_neg (by omega), if_neg (by omega)]
  have of_59 : h_59 (cB G + 169) = some (eO 11 [JV 0, .ref (cB G + 170), .ref (cB G + 171), .ref (cB G + 172), .ref (cB G + 177), .ref (cB G + 178), JV 0, .ref (cB G + 179), .ref (cB G + 180), .ref (cB G + 181), .ref (cB G + 182), .ref (cB G + 183), .ref (cB G + 208), .ref (cB G + 209), JV 0, .ref (cB G + 212), JV 0, JV 0, .ref (cB G + 253), .ref (cB G + 254), .ref (cB G + 257), .ref (cB G + 260), .ref (cB G + 261), .ref (cB G + 264), JV 0, JV 0, JV 0, .ref (cB G + 265), JV 0, .ref (cB G + 270), .ref (cB G + 273), .ref (cB G + 274), .ref (cB G + 275), .null, .long 0]) := by rw [eh_59]; unfold hrows; rw [if_neg (by omega), if_neg (by omega)]; exact of_58
  have x_59 : h_59 (cB G + 276) = some (eQ G 4 4 (fun i => if i < 4 then some (cB G + 276 + 1 + i) else none)) := by rw [eh_59]; unfold hrows; rw [if_pos rfl]
  have y_59 : ∀ i, i < 4 → h_59 (cB G + 277 + i) = some (eI G 12 (fun _ => 0)) := fun i hi => by rw [eh_59]; unfold hrows; rw [if_neg (by omega), if_pos (by omega)]
  change WP G mX11_init _ _ 0 0 h_59 (cB G + 281) 266 [some (.ref (cB G + 169))] [.ref (cB G + 276), .ref (cB G + 169)]
  refine wp_putF fkX11_85 dX11_init_266 rfl (fun r hr => by cases hr; rfl) of_59 rfl rfl (Nat.le_of_ble_eq_true rfl) ?_
  obtain ⟨h_60, eh_60⟩ : ∃ hh9 : AH, hh9 = hup h_59 (cB G + 169) (eO 11 [JV 0, .ref (cB G + 170), .ref (cB G + 171), .ref (cB G + 172), .ref (cB G + 177), .ref (cB G + 178), JV 0, .ref (cB G + 179), .ref (cB G + 180), .ref (cB G + 181), .ref (cB G + 182), .ref (cB G + 183), .ref (cB G + 208), .ref (cB G + 209), JV 0, .ref (cB G + 212), JV 0, JV 0, .ref (cB G + 253), .ref (cB G + 254), .ref (cB G + 257), .ref (cB G + 260), .ref (cB G + 261), .ref (cB G + 264), JV 0, JV 0, JV 0, .ref (cB G + 265), JV 0, .ref (cB G + 270), .ref (cB G + 273), .ref (cB G + 274), .ref (cB G + 275), .ref (cB G + 276), .long 0]) := ⟨_, rfl⟩
  refine WP.heq eh_60 ?_
  have fr_60 : ∀ q, q ≠ cB G + 169 → q < cB G + 281 → h_60 q = h_59 q := fun q h9 _ => hup_at eh_60 h9
  have of_60 : h_60 (cB G + 169) = some (eO 11 [JV 0, .ref (cB G + 170), .ref (cB G + 171), .ref (cB G + 172), .ref (cB G + 177), .ref (cB G + 178), JV 0, .ref (cB G + 179), .ref (cB G + 180), .ref (cB G + 181), .ref (cB G + 182), .ref (cB G + 183), .ref (cB G + 208), .ref (cB G + 209), JV 0, .ref (cB G + 212), JV 0, JV 0, .ref (cB G + 253), .ref (cB G + 254), .ref (cB G + 257), .ref (cB G + 260), .ref (cB G + 261), .ref (cB G + 264), JV 0, JV 0, JV 0, .ref (cB G + 265), JV 0, .ref (cB G + 270), .ref (cB G + 273), .ref (cB G + 274), .ref (cB G + 275), .ref (cB G + 276), .long 0]) := by rw [eh_60]; exact hup_self _ _ _
  change WP G mX11_init _ _ 0 0 h_60 (cB G + 281) 269 [some (.ref (cB G + 169))] []
  refine wp_vret dX11_init_269 rfl ?_
  have g_60 : ∀ q, q ≠ cB G + 169 → q < cB G + 281 → h_60 q = h_60 q := fun _ _ _ => rfl
  have g_59 : ∀ q, q ≠ cB G + 169 → q < cB G + 281 → h_60 q = h_59 q := fun q a b => (g_60 q a (by omega)).trans (fr_60 q a (by omega))
  have g_58 : ∀ q, q ≠ cB G + 169 → q < cB G + 276 → h_60 q = h_58 q := fun q a b => (g_59 q a (by omega)).trans (fr_59 q a (by omega))
  have g_57 : ∀ q, q ≠ cB G + 169 → q < cB G + 276 → h_60 q = h_57 q := fun q a b => (g_58 q a (by omega)).trans (fr_58 q a (by omega))
  have g_56 : ∀ q, q ≠ cB G + 169 → q < cB G + 275 → h_60 q = h_56 q := fun q a b => (g_57 q a (by omega)).trans (fr_57 q a (by omega))
  have g_55 : ∀ q, q ≠ cB G + 169 → q < cB G + 275 → h_60 q = h_55 q := fun q a b => (g_56 q a (by omega)).trans (fr_56 q a (by omega))
  have g_54 : ∀ q, q ≠ cB G + 169 → q < cB G + 274 → h_60 q = h_54 q := fun q a b => (g_55 q a (by omega)).trans (fr_55 q a (by omega))
  have g_53 : ∀ q, q ≠ cB G + 169 → q < cB G + 274 → h_60 q = h_53 q := fun q a b => (g_54 q a (by omega)).trans (fr_54 q a (by omega))
  have g_52 : ∀ q, q ≠ cB G + 169 → q < cB G + 273 → h_60 q = h_52 q := fun q a b => (g_53 q a (by omega)).trans (fr_53 q a (by omega))
  have g_51 : ∀ q, q ≠ cB G + 169 → q < cB G + 273 → h_60 q = h_51 q := fun q a b => (g_52 q a (by omega)).trans (fr_52 q a (by omega))
  have g_50 : ∀ q, q ≠ cB G + 169 → q < cB G + 270 → h_60 q = h_50 q := fun q a b => (g_51 q a (by omega)).trans (fr_51 q a (by omega))
  have g_49 : ∀ q, q ≠ cB G + 169 → q < cB G + 270 → h_60 q = h_49 q := fun q a b => (g_50 q a (by omega)).trans (fr_50 q a (by omega))
  have g_48 : ∀ q, q ≠ cB G + 169 → q < cB G + 265 → h_60 q = h_48 q := fun q a b => (g_49 q a (by omega)).trans (fr_49 q a (by omega))
  have g_47 : ∀ q, q ≠ cB G + 169 → q < cB G + 265 → h_60 q = h_47 q := fun q a b => (g_48 q a (by omega)).trans (fr_48 q a (by omega))
  have g_46 : ∀ q, q ≠ cB G + 169 → q < cB G + 264 → h_60 q = h_46 q := fun q a b => (g_47 q a (by omega)).trans (fr_47 q a (by omega))
  have g_45 : ∀ q, q ≠ cB G + 169 → q < cB G + 264 → h_60 q = h_45 q := fun q a b => (g_46 q a (by omega)).trans (fr_46 q a (by omega))
  have g_44 : ∀ q, q ≠ cB G + 169 → q < cB G + 261 → h_60 q = h_44 q := fun q a b => (g_45 q a (by omega)).trans (fr_45 q a (by omega))
  have g_43 : ∀ q, q ≠ cB G + 169 → q < cB G + 261 → h_60 q = h_43 q := fun q a b => (g_44 q a (by omega)).trans (fr_44 q a (by omega))
  have g_42 : ∀ q, q ≠ cB G + 169 → q < cB G + 260 → h_60 q = h_42 q := fun q a b => (g_43 q a (by omega)).trans (fr_43 q a (by omega))
  have g_41 : ∀ q, q ≠ cB G + 169 → q < cB G + 260 → h_60 q = h_41 q := fun q a b => (g_42 q a (by omega)).trans (fr_42 q a (by omega))
  have g_40 : ∀ q, q ≠ cB G + 169 → q < cB G + 257 → h_60 q = h_40 q := fun q a b => (g_41 q a (by omega)).trans (fr_41 q a (by omega))
  have g_39 : ∀ q, q ≠ cB G + 169 → q < cB G + 257 → h_60 q = h_39 q := fun q a b => (g_40 q a (by omega)).trans (fr_40 q a (by omega))
  have g_38 : ∀ q, q ≠ cB G + 169 → q < cB G + 254 → h_60 q = h_38 q := fun q a b => (g_39 q a (by omega)).trans (fr_39 q a (by omega))
  have g_37 : ∀ q, q ≠ cB G + 169 → q < cB G + 254 → h_60 q = h_37 q := fun q a b => (g_38 q a (by omega)).trans (fr_38 q a (by omega))
  have g_36 : ∀ q, q ≠ cB G + 169 → q < cB G + 253 → h_60 q = h_36 q := fun q a b => (g_37 q a (by omega)).trans (fr_37 q a (by omega))
  have g_35 : ∀ q, q ≠ cB G + 169 → q < cB G + 253 → h_60 q = h_35 q := fun q a b => (g_36 q a (by omega)).trans (fr_36 q a (by omega))
  have g_34 : ∀ q, q ≠ cB G + 169 → q < cB G + 212 → h_60 q = h_34 q := fun q a b => (g_35 q a (by omega)).trans (fr_35 q a (by omega))
  have g_33 : ∀ q, q ≠ cB G + 169 → q < cB G + 212 → h_60 q = h_33 q := fun q a b => (g_34 q a (by omega)).trans (fr_34 q a (by omega))
  have g_32 : ∀ q, q ≠ cB G + 169 → q < cB G + 209 → h_60 q = h_32 q := fun q a b => (g_33 q a (by omega)).trans (fr_33 q a (by omega))
  have g_31 : ∀ q, q ≠ cB G + 169 → q < cB G + 209 → h_60 q = h_31 q := fun q a b => (g_32 q a (by omega)).trans (fr_32 q a (by omega))
  have g_30 : ∀ q, q ≠ cB G + 169 → q < cB G + 208 → h_60 q = h_30 q := fun q a b => (g_31 q a (by omega)).trans (fr_31 q a (by omega))
  have g_29 : ∀ q, q ≠ cB G + 169 → q < cB G + 208 → h_60 q = h_29 q := fun q a b => (g_30 q a (by omega)).trans (fr_30 q a (by omega))
  have g_28 : ∀ q, q ≠ cB G + 169 → q < cB G + 183 → h_60 q = h_28 q := fun q a b => (g_29 q a (by omega)).trans (fr_29 q a (by omega))
  have g_27 : ∀ q, q ≠ cB G + 169 → q < cB G + 183 → h_60 q = h_27 q := fun q a b => (g_28 q a (by omega)).trans (fr_28 q a (by omega))
  have g_26 : ∀ q, q ≠ cB G + 169 → q < cB G + 182 → h_60 q = h_26 q := fun q a b => (g_27 q a (by omega)).trans (fr_27 q a (by omega))
  have g_25 : ∀ q, q ≠ cB G + 169 → q < cB G + 182 → h_60 q = h_25 q := fun q a b => (g_26 q a (by omega)).trans (fr_26 q a (by omega))
  have g_24 : ∀ q, q ≠ cB G + 169 → q < cB G + 181 → h_60 q = h_24 q := fun q a b => (g_25 q a (by omega)).trans (fr_25 q a (by omega))
  have g_23 : ∀ q, q ≠ cB G + 169 → q < cB G + 181 → h_60 q = h_23 q := fun q a b => (g_24 q a (by omega)).trans (fr_24 q a (by omega))
  have g_22 : ∀ q, q ≠ cB G + 169 → q < cB G + 180 → h_60 q = h_22 q := fun q a b => (g_23 q a (by omega)).trans (fr_23 q a (by omega))
  have g_21 : ∀ q, q ≠ cB G + 169 → q < cB G + 180 → h_60 q = h_21 q := fun q a b => (g_22 q a (by omega)).trans (fr_22 q a (by omega))
  have g_20 : ∀ q, q ≠ cB G + 169 → q < cB G + 179 → h_60 q = h_20 q := fun q a b => (g_21 q a (by omega)).trans (fr_21 q a (by omega))
  have g_19 : ∀ q, q ≠ cB G + 169 → q < cB G + 179 → h_60 q = h_19 q := fun q a b => (g_20 q a (by omega)).trans (fr_20 q a (by omega))
  have g_18 : ∀ q, q ≠ cB G + 169 → q < cB G + 178 → h_60 q = h_18 q := fun q a b => (g_19 q a (by omega)).trans (fr_19 q a (by omega))
  have g_17 : ∀ q, q ≠ cB G + 169 → q < cB G + 178 → h_60 q = h_17 q := fun q a b => (g_18 q a (by omega)).trans (fr_18 q a (by omega))
  have g_16 : ∀ q, q ≠ cB G + 169 → q < cB G + 177 → h_60 q = h_16 q := fun q a b => (g_17 q a (by omega)).trans (fr_17 q a (by omega))
  have g_15 : ∀ q, q ≠ cB G + 169 → q < cB G + 177 → h_60 q = h_15 q := fun q a b => (g_16 q a (by omega)).trans (fr_16 q a (by omega))
  have g_14 : ∀ q, q ≠ cB G + 169 → q < cB G + 177 → h_60 q = h_14 q := fun q a b => (g_15 q a (by omega)).trans (fr_15 q a (by omega))
  have g_13 : ∀ q, q ≠ cB G + 169 → q < cB G + 177 → h_60 q = h_13 q := fun q a b => (g_14 q a (by omega)).trans (fr_14 q a (by omega))
  have g_12 : ∀ q, q ≠ cB G + 169 → q < cB G + 177 → h_60 q = h_12 q := fun q a b => (g_13 q a (by omega)).trans (fr_13 q a (by omega))
  have g_11 : ∀ q, q ≠ cB G + 169 → q < cB G + 177 → h_60 q = h_11 q := fun q a b => (g_12 q a (by omega)).trans (fr_12 q a (by omega))
  have g_10 : ∀ q, q ≠ cB G + 169 → q < cB G + 177 → h_60 q = h_10 q := fun q a b => (g_11 q a (by omega)).trans (fr_11 q a (by omega))
  have g_9 : ∀ q, q ≠ cB G + 169 → q < cB G + 172 → h_60 q = h_9 q := fun q a b => (g_10 q a (by omega)).trans (fr_10 q a (by omega))
  have g_8 : ∀ q, q ≠ cB G + 169 → q < cB G + 172 → h_60 q = h_8 q := fun q a b => (g_9 q a (by omega)).trans (fr_9 q a (by omega))
  have g_7 : ∀ q, q ≠ cB G + 169 → q < cB G + 171 → h_60 q = h_7 q := fun q a b => (g_8 q a (by omega)).trans (fr_8 q a (by omega))
  have g_6 : ∀ q, q ≠ cB G + 169 → q < cB G + 171 → h_60 q = h_6 q := fun q a b => (g_7 q a (by omega)).trans (fr_7 q a (by omega))
  have g_5 : ∀ q, q ≠ cB G + 169 → q < cB G + 170 → h_60 q = h_5 q := fun q a b => (g_6 q a (by omega)).trans (fr_6 q a (by omega))
  have g_4 : ∀ q, q ≠ cB G + 169 → q < cB G + 170 → h_60 q = h_4 q := fun q a b => (g_5 q a (by omega)).trans (fr_5 q a (by omega))
  have g_3 : ∀ q, q ≠ cB G + 169 → q < cB G + 170 → h_60 q = h_3 q := fun q a b => (g_4 q a (by omega)).trans (fr_4 q a (by omega))
  have g_2 : ∀ q, q ≠ cB G + 169 → q < cB G + 170 → h_60 q = h_2 q := fun q a b => (g_3 q a (by omega)).trans (fr_3 q a (by omega))
  have g_1 : ∀ q, q ≠ cB G + 169 → q < cB G + 170 → h_60 q = h_1 q := fun q a b => (g_2 q a (by omega)).trans (fr_2 q a (by omega))
  have g_0 : ∀ q, q ≠ cB G + 169 → q < cB G + 170 → h_60 q = h q := fun q a b => (g_1 q a (by omega)).trans (fr_1 q a (by omega))
  refine ⟨rfl, rfl, ⟨of_60, fun q hq => ?_, fun q hq => ?_, (g_35 (cB G + 212) (by omega) (by omega)).trans x_35, fun i hi => (g_35 (cB G + 213 + i) (by omega) (by omega)).trans (y_35 i hi)⟩, fun q hq => g_0 q (by omega) (by omega)⟩
  · simp only [mA1, List.mem_cons, List.not_mem_nil, or_false] at hq
    rcases hq with rfl | rfl | rfl | rfl | rfl | rfl | rfl | rfl | rfl | rfl | rfl | rfl | rfl | rfl | rfl
    · exact (g_6 (cB G + 170) (by omega) (by omega)).trans x_6
    · exact (g_8 (cB G + 171) (by omega) (by omega)).trans x_8
    · exact (g_17 (cB G + 177) (by omega) (by omega)).trans x_17
    · exact (g_19 (cB G + 178) (by omega) (by omega)).trans x_19
    · exact (g_21 (cB G + 179) (by omega) (by omega)).trans x_21
    · exact (g_23 (cB G + 180) (by omega) (by omega)).trans x_23
    · exact (g_25 (cB G + 181) (by omega) (by omega)).trans x_25
    · exact (g_27 (cB G + 182) (by omega) (by omega)).trans x_27
    · exact (g_31 (cB G + 208) (by omega) (by omega)).trans x_31
    · exact (g_37 (cB G + 253) (by omega) (by omega)).trans x_37
    · exact (g_43 (cB G + 260) (by omega) (by omega)).trans x_43
    · exact (g_47 (cB G + 264) (by omega) (by omega)).trans x_47
    · exact (g_53 (cB G + 273) (by omega) (by omega)).trans x_53
    · exact (g_55 (cB G + 274) (by omega) (by omega)).trans x_55
    · exact (g_57 (cB G + 275) (by omega) (by omega)).trans x_57
  · simp only [mA2, List.mem_cons, List.not_mem_nil, or_false] at hq
    rcases hq with rfl | rfl | rfl | rfl | rfl | rfl | rfl | rfl | rfl
    · exact ⟨(g_10 (cB G + 172) (by omega) (by omega)).trans x_10, fun i hi => by have hj : i < 4 := hi; exact (g_10 (cB G + 173 + i) (by omega) (by omega)).trans (y_10 i hj)⟩
    · exact ⟨(g_29 (cB G + 183) (by omega) (by omega)).trans x_29, fun i hi => by have hj : i < 24 := hi; exact (g_29 (cB G + 184 + i) (by omega) (by omega)).trans (y_29 i hj)⟩
    · exact ⟨(g_33 (cB G + 209) (by omega) (by omega)).trans x_33, fun i hi => by have hj : i < 2 := hi; exact (g_33 (cB G + 210 + i) (by omega) (by omega)).trans (y_33 i hj)⟩
    · exact ⟨(g_39 (cB G + 254) (by omega) (by omega)).trans x_39, fun i hi => by have hj : i < 2 := hi; exact (g_39 (cB G + 255 + i) (by omega) (by omega)).trans (y_39 i hj)⟩
    · exact ⟨(g_41 (cB G + 257) (by omega) (by omega)).trans x_41, fun i hi => by have hj : i < 2 := hi; exact (g_41 (cB G + 258 + i) (by omega) (by omega)).trans (y_41 i hj)⟩
    · exact ⟨(g_45 (cB G + 261) (by omega) (by omega)).trans x_45, fun i hi => by have hj : i < 2 := hi; exact (g_45 (cB G + 262 + i) (by omega) (by omega)).trans (y_45 i hj)⟩
    · exact ⟨(g_49 (cB G + 265) (by omega) (by omega)).trans x_49, fun i hi => by have hj : i < 4 := hi; exact (g_49 (cB G + 266 + i) (by omega) (by omega)).trans (y_49 i hj)⟩
    · exact ⟨(g_51 (cB G + 270) (by omega) (by omega)).trans x_51, fun i hi => by have hj : i < 2 := hi; exact (g_51 (cB G + 271 + i) (by omega) (by omega)).trans (y_51 i hj)⟩
    · exact ⟨(g_59 (cB G + 276) (by omega) (by omega)).trans x_59, fun i hi => by have hj : i < 4 := hi; exact (g_59 (cB G + 277 + i) (by omega) (by omega)).trans (y_59 i hj)⟩
end Mi

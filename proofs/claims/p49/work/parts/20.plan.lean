/-! ===== plans, and the first day of a task by them ===== -/
def IsPlan (G : Ctx) (h : AH) (a : Nat) (b e : Nat → Int) : Prop := h a = some (eO 7 [.ref (a + 1), .ref (a + 2)]) ∧ h (a + 1) = some (eI G 24 b) ∧ h (a + 2) = some (eI G 24 e)
theorem IsPlan.frame {G : Ctx} {h h' : AH} {a : Nat} {b e : Nat → Int} (p : IsPlan G h a b e) (hk : ∀ q, a ≤ q → q < a + 3 → h' q = h q) : IsPlan G h' a b e := by
  obtain ⟨p1, p2, p3⟩ := p
  refine ⟨?_, ?_, ?_⟩ <;> rw [hk _ (by omega) (by omega)] <;> assumption
/-- all that a plan holds lies within -/
def PB (b e : Nat → Int) : Prop := ∀ x, x < 24 → (-1 ≤ b x ∧ b x ≤ 20000) ∧ -1 ≤ e x ∧ e x ≤ 20000
/-- ahead of which day a link lets nothing begin; end -/
def bAsk (b e : Nat → Int) (f k g : Int) : Int := if k = 0 then e f.toNat + g else if k = 1 then b f.toNat + g else 0
def eAsk (e : Nat → Int) (f k g : Int) : Int := if k = 0 then 0 else if k = 1 then 0 else e f.toNat + g
section Plan
variable {G : Ctx} {h : AH} {N a : Nat} {b e : Nat → Int} {S : ST}
theorem c_set {t x y : Int} (p : IsPlan G h a b e) (ht : 0 ≤ t ∧ t < 24) : CT G mX7_set [.ref a, JV t, JV x, JV y] h N 0 0 (fun r h' N' => r = none ∧ N' = N ∧ IsPlan G h' a (fup b t.toNat x) (fup e t.toNat y) ∧ FR (a + 1) (a + 3) h h') := by
  refine CT_of (by decide +kernel) rfl (by simp [Value.category]) (Nat.le_of_ble_eq_true rfl) ?_
  change WP G mX7_set _ noX _ _ h N 0 [some (.ref a), some (JV t), some (JV x), some (JV y)] []
  refine wp_aload_n dX7_set_0 rfl ?_
  refine wp_get fkX7_9 dX7_set_1 p.1 rfl ?_
  refine wp_iload_n dX7_set_4 rfl ?_
  refine wp_iload_n dX7_set_5 rfl ?_
  refine wp_iastore dX7_set_6 p.2.1 (by omega) (by omega) (by omega) ?_
  obtain ⟨h_1, eh_1⟩ : ∃ hh9 : AH, hh9 = hup h (a + 1) (eI G 24 (fup b t.toNat x)) := ⟨_, rfl⟩
  refine WP.heq eh_1 ?_
  have c1_0 := (hup_at eh_1 (by omega)).trans p.1
  have c1_1 : h_1 (a + 1) = some (eI G 24 (fup b t.toNat x)) := by rw [eh_1]; exact hup_self _ _ _
  have c1_2 := (hup_at eh_1 (by omega)).trans p.2.2
  refine wp_aload_n dX7_set_7 rfl ?_
  refine wp_get fkX7_15 dX7_set_8 c1_0 rfl ?_
  refine wp_iload_n dX7_set_11 rfl ?_
  refine wp_iload_n dX7_set_12 rfl ?_
  refine wp_iastore dX7_set_13 c1_2 (by omega) (by omega) (by omega) ?_
  obtain ⟨h_2, eh_2⟩ : ∃ hh9 : AH, hh9 = hup h_1 (a + 2) (eI G 24 (fup e t.toNat y)) := ⟨_, rfl⟩
  refine WP.heq eh_2 ?_
  have c2_0 := (hup_at eh_2 (by omega)).trans c1_0
  have c2_1 := (hup_at eh_2 (by omega)).trans c1_1
  have c2_2 : h_2 (a + 2) = some (eI G 24 (fup e t.toNat y)) := by rw [eh_2]; exact hup_self _ _ _
  refine wp_vret dX7_set_14 rfl ?_
  refine ⟨rfl, rfl, ⟨c2_0, c2_1, c2_2⟩, (FR.rf.up eh_1 ⟨by omega, by omega⟩).up eh_2 ⟨by omega, by omega⟩⟩

theorem c_beginAsked {l : Nat} {f t k g : Int} (p : IsPlan G h a b e) (hl : h l = some (eO 4 [JV f, JV t, JV k, JV g])) (hf : 0 ≤ f ∧ f < 24) (hk : 0 ≤ k ∧ k ≤ 2) : CT G mX7_beginAsked [.ref a, .ref l] h N 0 0 (PV (JV (bAsk b e f k g)) h N) := by
  refine CT_of (by decide +kernel) rfl (by simp [Value.category]) (Nat.le_of_ble_eq_true rfl) ?_
  change WP G mX7_beginAsked _ noX _ _ h N 0 [some (.ref a), some (.ref l)] []
  refine wp_aload_n dX7_beginAsked_0 rfl ?_
  refine wp_get fkX7_18 dX7_beginAsked_1 hl rfl ?_
  refine wp_if_ne 22 dX7_beginAsked_4 (by decide) ⟨by omega, by omega⟩ (fun c_4 => ?_) (fun c_4 => ?_)
  · refine wp_aload_n dX7_beginAsked_22 rfl ?_
    refine wp_get fkX7_18 dX7_beginAsked_23 hl rfl ?_
    refine wp_iconst dX7_beginAsked_26 ?_
    refine wp_icmp_ne 47 dX7_beginAsked_27 (by decide) ⟨by omega, by omega⟩ ⟨by omega, by omega⟩ (fun c_27 => ?_) (fun c_27 => ?_)
    · refine wp_iconst dX7_beginAsked_47 ?_
      refine wp_iret dX7_beginAsked_48 rfl ?_
      refine ⟨?_, rfl, rfl⟩
      simp only [bAsk, eAsk]
      first | rfl | (rw [if_pos (by assumption)]) | (rw [if_neg (by assumption), if_pos (by assumption)]) | (rw [if_neg (by assumption), if_neg (by assumption)]) | simp_all
    · refine wp_aload_n dX7_beginAsked_30 rfl ?_
      refine wp_get fkX7_9 dX7_beginAsked_31 p.1 rfl ?_
      refine wp_aload_n dX7_beginAsked_34 rfl ?_
      refine wp_get fkX7_24 dX7_beginAsked_35 hl rfl ?_
      refine wp_iaload dX7_beginAsked_38 p.2.1 (by omega) (by omega) (by omega) ?_
      refine wp_aload_n dX7_beginAsked_39 rfl ?_
      refine wp_get fkX7_27 dX7_beginAsked_40 hl rfl ?_
      refine wp_iadd dX7_beginAsked_43 ?_
      refine wp_goto 48 dX7_beginAsked_44 (by decide) ?_
      refine wp_iret dX7_beginAsked_48 rfl ?_
      refine ⟨?_, rfl, rfl⟩
      simp only [bAsk, eAsk]
      first | rfl | (rw [if_pos (by assumption)]) | (rw [if_neg (by assumption), if_pos (by assumption)]) | (rw [if_neg (by assumption), if_neg (by assumption)]) | simp_all
  · refine wp_aload_n dX7_beginAsked_7 rfl ?_
    refine wp_get fkX7_15 dX7_beginAsked_8 p.1 rfl ?_
    refine wp_aload_n dX7_beginAsked_11 rfl ?_
    refine wp_get fkX7_24 dX7_beginAsked_12 hl rfl ?_
    refine wp_iaload dX7_beginAsked_15 p.2.2 (by omega) (by omega) (by omega) ?_
    refine wp_aload_n dX7_beginAsked_16 rfl ?_
    refine wp_get fkX7_27 dX7_beginAsked_17 hl rfl ?_
    refine wp_iadd dX7_beginAsked_20 ?_
    refine wp_iret dX7_beginAsked_21 rfl ?_
    refine ⟨?_, rfl, rfl⟩
    simp only [bAsk, eAsk]
    first | rfl | (rw [if_pos (by assumption)]) | (rw [if_neg (by assumption), if_pos (by assumption)]) | (rw [if_neg (by assumption), if_neg (by assumption)]) | simp_all

theorem c_endAsked {l : Nat} {f t k g : Int} (p : IsPlan G h a b e) (hl : h l = some (eO 4 [JV f, JV t, JV k, JV g])) (hf : 0 ≤ f ∧ f < 24) (hk : 0 ≤ k ∧ k ≤ 2) : CT G mX7_endAsked [.ref a, .ref l] h N 0 0 (PV (JV (eAsk e f k g)) h N) := by
  refine CT_of (by decide +kernel) rfl (by simp [Value.category]) (Nat.le_of_ble_eq_true rfl) ?_
  change WP G mX7_endAsked _ noX _ _ h N 0 [some (.ref a), some (.ref l)] []
  refine wp_aload_n dX7_endAsked_0 rfl ?_
  refine wp_get fkX7_18 dX7_endAsked_1 hl rfl ?_
  refine wp_if_eq 15 dX7_endAsked_4 (by decide) ⟨by omega, by omega⟩ (fun c_4 => ?_) (fun c_4 => ?_)
  · refine wp_iconst dX7_endAsked_15 ?_
    refine wp_goto 33 dX7_endAsked_16 (by decide) ?_
    refine wp_iret dX7_endAsked_33 rfl ?_
    refine ⟨?_, rfl, rfl⟩
    simp only [bAsk, eAsk]
    first | rfl | (rw [if_pos (by assumption)]) | (rw [if_neg (by assumption), if_pos (by assumption)]) | (rw [if_neg (by assumption), if_neg (by assumption)]) | simp_all
  · refine wp_aload_n dX7_endAsked_7 rfl ?_
    refine wp_get fkX7_18 dX7_endAsked_8 hl rfl ?_
    refine wp_iconst dX7_endAsked_11 ?_
    refine wp_icmp_ne 19 dX7_endAsked_12 (by decide) ⟨by omega, by omega⟩ ⟨by omega, by omega⟩ (fun c_12 => ?_) (fun c_12 => ?_)
    · refine wp_aload_n dX7_endAsked_19 rfl ?_
      refine wp_get fkX7_15 dX7_endAsked_20 p.1 rfl ?_
      refine wp_aload_n dX7_endAsked_23 rfl ?_
      refine wp_get fkX7_24 dX7_endAsked_24 hl rfl ?_
      refine wp_iaload dX7_endAsked_27 p.2.2 (by omega) (by omega) (by omega) ?_
      refine wp_aload_n dX7_endAsked_28 rfl ?_
      refine wp_get fkX7_27 dX7_endAsked_29 hl rfl ?_
      refine wp_iadd dX7_endAsked_32 ?_
      refine wp_iret dX7_endAsked_33 rfl ?_
      refine ⟨?_, rfl, rfl⟩
      simp only [bAsk, eAsk]
      first | rfl | (rw [if_pos (by assumption)]) | (rw [if_neg (by assumption), if_pos (by assumption)]) | (rw [if_neg (by assumption), if_neg (by assumption)]) | simp_all
    · refine wp_iconst dX7_endAsked_15 ?_
      refine wp_goto 33 dX7_endAsked_16 (by decide) ?_
      refine wp_iret dX7_endAsked_33 rfl ?_
      refine ⟨?_, rfl, rfl⟩
      simp only [bAsk, eAsk]
      first | rfl | (rw [if_pos (by assumption)]) | (rw [if_neg (by assumption), if_pos (by assumption)]) | (rw [if_neg (by assumption), if_neg (by assumption)]) | simp_all

/-- the first day and the least end that first and the links from i on ask of t -/
def askL (S : ST) (b e : Nat → Int) (t : Nat) : Nat → Nat → Int → Int → Int × Int
  | 0, _, x, y => (x, y)
  | m + 1, i, x, y => if lT S i = (t : Int) then askL S b e t m (i + 1) (max x (bAsk b e (lF S i) (lK S i) (lG S i))) (max y (eAsk e (lF S i) (lK S i) (lG S i))) else askL S b e t m (i + 1) x y
/-- whether the calendar c works on a day -/
def wkS (S : ST) (c : Nat) : Nat → Bool := wkd (S 0 c 0) (fun d => S 2 c d)
/-- the first day of t by first and the links -/
def fday (S : ST) (b e : Nat → Int) (t : Nat) : Int := fbeg (wkS S (S 6 t 0).toNat) (S 5 t 0) (askL S b e t (S 14 0 0).toNat 0 (S 8 t 0) 0).1 (askL S b e t (S 14 0 0).toNat 0 (S 8 t 0) 0).2
/-- by the link in place i alone -/
def fdayBy (S : ST) (b e : Nat → Int) (i : Nat) : Int := fbeg (wkS S (S 6 (lT S i).toNat 0).toNat) (S 5 (lT S i).toNat 0) (max (S 8 (lT S i).toNat 0) (bAsk b e (lF S i) (lK S i) (lG S i))) (eAsk e (lF S i) (lK S i) (lG S i))
theorem bAsk_r {b e : Nat → Int} {f k g : Int} (pb : PB b e) (hf : 0 ≤ f ∧ f < 24) (hg : 0 ≤ g ∧ g ≤ 20) : -1 ≤ bAsk b e f k g ∧ bAsk b e f k g ≤ 20020 := by
  have := pb f.toNat (by omega)
  unfold bAsk
  split
  · omega
  · split <;> omega
theorem eAsk_r {b e : Nat → Int} {f k g : Int} (pb : PB b e) (hf : 0 ≤ f ∧ f < 24) (hg : 0 ≤ g ∧ g ≤ 20) : -1 ≤ eAsk e f k g ∧ eAsk e f k g ≤ 20020 := by
  have := pb f.toNat (by omega)
  unfold eAsk
  split
  · omega
  · split <;> omega
theorem l_firstDay {Q : PQ} {X : PX} {k n : Nat} {t : Nat} (H : HP G S h) (w : WF S) (p : IsPlan G h a b e) (pb : PB b e) (ht : t < 24) : ∀ (m : Nat) (i : Nat) (x y : Int), (S 14 0 0).toNat - i = m → i ≤ 40 → 0 ≤ x ∧ x ≤ 20020 → 0 ≤ y ∧ y ≤ 20020 → (Q (some (JV (fbeg (wkS S (S 6 t 0).toNat) (S 5 t 0) (askL S b e t m i x y).1 (askL S b e t m i x y).2))) h N) → WP G mX8_firstDay Q X k n h N 16 [some (.ref (cB G + 1)), some (JV (t : Int)), some (.ref a), some (JV x), some (JV y), some (JV (i : Int))] [] := by
  intro m
  induction m with
  | zero =>
    intro i x y hm hi hx hy kk
    have wL := w.nL
    have wt := w.task ht
    refine wp_iload dX8_firstDay_16 rfl ?_
    refine wp_aload_n dX8_firstDay_18 rfl ?_
    refine wp_get fkX8_63 dX8_firstDay_19 H.1 rfl ?_
    refine wp_icmp_ge 79 dX8_firstDay_22 (by decide) ⟨by omega, by omega⟩ ⟨by omega, by omega⟩ (fun c_22 => ?_) (fun c_22 => ?_)
    · refine wp_aload_n dX8_firstDay_79 rfl ?_
      refine wp_iload_n dX8_firstDay_80 rfl ?_
      refine wp_v1p (c_calendarOf (N := N) H w ht) cvX8_114 dX8_firstDay_81 ⟨Nat.le_of_ble_eq_true rfl, Nat.le_of_ble_eq_true rfl⟩ (Nat.le_of_ble_eq_true rfl) H.1 rfl rfl ?_
      refine wp_aload_n dX8_firstDay_84 rfl ?_
      refine wp_get fkX8_25 dX8_firstDay_85 H.1 rfl ?_
      refine wp_iload_n dX8_firstDay_88 rfl ?_
      refine wp_aaload dX8_firstDay_89 H.2.2.2.1 rfl rfl (by omega) (by omega) (by omega) (if_pos (by omega)) ?_
      refine wp_get fkX8_57 dX8_firstDay_90 (H.2.2.2.2.2.2.2.2.2.2.1 t (by omega)) rfl ?_
      refine wp_iload_n dX8_firstDay_93 rfl ?_
      refine wp_iload dX8_firstDay_94 rfl ?_
      refine wp_v3p (c_firstBegin (N := N) (H.cal w (c := (S 6 t 0).toNat) (by omega)) (by omega) (by omega) (by omega) (by omega) (by omega) (by omega)) cvX8_118 dX8_firstDay_96 ⟨Nat.le_of_ble_eq_true rfl, Nat.le_of_ble_eq_true rfl⟩ (Nat.le_of_ble_eq_true rfl) (H.2.2.2.2.2.2.2.1 (S 6 t 0).toNat (by omega)) rfl rfl ?_
      refine wp_iret dX8_firstDay_99 rfl ?_
      exact kk
    · exact absurd c_22 (by omega)
  | succ m ih =>
    intro i x y hm hi hx hy kk
    have wL := w.nL
    have wt := w.task ht
    refine wp_iload dX8_firstDay_16 rfl ?_
    refine wp_aload_n dX8_firstDay_18 rfl ?_
    refine wp_get fkX8_63 dX8_firstDay_19 H.1 rfl ?_
    refine wp_icmp_ge 79 dX8_firstDay_22 (by decide) ⟨by omega, by omega⟩ ⟨by omega, by omega⟩ (fun c_22 => ?_) (fun c_22 => ?_)
    · exact absurd c_22 (by omega)
    · have wi := w.at (i := i) (by omega)
      have qb := bAsk_r (k := (S 21 (S 18 i 0).toNat 0)) pb wi.2.1 wi.2.2.2.2
      have qe := eAsk_r (b := b) (k := (S 21 (S 18 i 0).toNat 0)) pb wi.2.1 wi.2.2.2.2
      refine wp_aload_n dX8_firstDay_25 rfl ?_
      refine wp_get fkX8_31 dX8_firstDay_26 H.1 rfl ?_
      refine wp_iload dX8_firstDay_29 rfl ?_
      refine wp_aaload dX8_firstDay_31 H.2.2.2.2.1 rfl rfl (by omega) (by omega) (by omega) (if_pos (by omega)) ?_
      refine wp_get fkX8_69 dX8_firstDay_32 (H.2.2.2.2.2.2.2.2.2.2.2.2 (S 18 i 0).toNat (by omega)) rfl ?_
      refine wp_iload_n dX8_firstDay_35 rfl ?_
      refine wp_icmp_ne 73 dX8_firstDay_36 (by decide) ⟨by omega, by omega⟩ ⟨by omega, by omega⟩ (fun c_36 => ?_) (fun c_36 => ?_)
      · rw [askL, if_neg c_36] at kk
        refine wp_iinc dX8_firstDay_73 rfl (Nat.le_of_ble_eq_true rfl) rfl ?_
        change WP G mX8_firstDay _ _ _ _ h N 76 [some (.ref (cB G + 1)), some (JV (t : Int)), some (.ref a), some (JV x), some (JV y), some (JV ((i : Int) + 1))] []
        refine wp_goto 16 dX8_firstDay_76 (by decide) ?_
        exact ih (i + 1) x y (by omega) (by omega) (by omega) (by omega) kk
      · rw [askL, if_pos c_36] at kk
        refine wp_iload_n dX8_firstDay_39 rfl ?_
        refine wp_aload_n dX8_firstDay_40 rfl ?_
        refine wp_aload_n dX8_firstDay_41 rfl ?_
        refine wp_get fkX8_31 dX8_firstDay_42 H.1 rfl ?_
        refine wp_iload dX8_firstDay_45 rfl ?_
        refine wp_aaload dX8_firstDay_47 H.2.2.2.2.1 rfl rfl (by omega) (by omega) (by omega) (if_pos (by omega)) ?_
        refine wp_v1p (c_beginAsked (N := N) p (H.2.2.2.2.2.2.2.2.2.2.2.2 (S 18 i 0).toNat (by omega)) (by omega) (by omega)) cvX8_99 dX8_firstDay_48 ⟨Nat.le_of_ble_eq_true rfl, Nat.le_of_ble_eq_true rfl⟩ (Nat.le_of_ble_eq_true rfl) p.1 rfl rfl ?_
        refine wp_max dX8_firstDay_51 maX8_105 w_max (Nat.le_of_ble_eq_true rfl) (Nat.le_of_ble_eq_true rfl) ⟨by omega, by omega⟩ ⟨by omega, by omega⟩ ?_
        refine wp_istore_n dX8_firstDay_54 (Nat.le_of_ble_eq_true rfl) rfl ?_
        change WP G mX8_firstDay _ _ _ _ h N 55 [some (.ref (cB G + 1)), some (JV (t : Int)), some (.ref a), some (JV (max x (bAsk b e (S 19 (S 18 i 0).toNat 0) (S 21 (S 18 i 0).toNat 0) (S 22 (S 18 i 0).toNat 0)))), some (JV y), some (JV (i : Int))] []
        refine wp_iload dX8_firstDay_55 rfl ?_
        refine wp_aload_n dX8_firstDay_57 rfl ?_
        refine wp_aload_n dX8_firstDay_58 rfl ?_
        refine wp_get fkX8_31 dX8_firstDay_59 H.1 rfl ?_
        refine wp_iload dX8_firstDay_62 rfl ?_
        refine wp_aaload dX8_firstDay_64 H.2.2.2.2.1 rfl rfl (by omega) (by omega) (by omega) (if_pos (by omega)) ?_
        refine wp_v1p (c_endAsked (N := N) p (H.2.2.2.2.2.2.2.2.2.2.2.2 (S 18 i 0).toNat (by omega)) (by omega) (by omega)) cvX8_111 dX8_firstDay_65 ⟨Nat.le_of_ble_eq_true rfl, Nat.le_of_ble_eq_true rfl⟩ (Nat.le_of_ble_eq_true rfl) p.1 rfl rfl ?_
        refine wp_max dX8_firstDay_68 maX8_105 w_max (Nat.le_of_ble_eq_true rfl) (Nat.le_of_ble_eq_true rfl) ⟨by omega, by omega⟩ ⟨by omega, by omega⟩ ?_
        refine wp_istore dX8_firstDay_71 (Nat.le_of_ble_eq_true rfl) rfl ?_
        change WP G mX8_firstDay _ _ _ _ h N 73 [some (.ref (cB G + 1)), some (JV (t : Int)), some (.ref a), some (JV (max x (bAsk b e (S 19 (S 18 i 0).toNat 0) (S 21 (S 18 i 0).toNat 0) (S 22 (S 18 i 0).toNat 0)))), some (JV (max y (eAsk e (S 19 (S 18 i 0).toNat 0) (S 21 (S 18 i 0).toNat 0) (S 22 (S 18 i 0).toNat 0)))), some (JV (i : Int))] []
        refine wp_iinc dX8_firstDay_73 rfl (Nat.le_of_ble_eq_true rfl) rfl ?_
        change WP G mX8_firstDay _ _ _ _ h N 76 [some (.ref (cB G + 1)), some (JV (t : Int)), some (.ref a), some (JV (max x (bAsk b e (S 19 (S 18 i 0).toNat 0) (S 21 (S 18 i 0).toNat 0) (S 22 (S 18 i 0).toNat 0)))), some (JV (max y (eAsk e (S 19 (S 18 i 0).toNat 0) (S 21 (S 18 i 0).toNat 0) (S 22 (S 18 i 0).toNat 0)))), some (JV ((i : Int) + 1))] []
        refine wp_goto 16 dX8_firstDay_76 (by decide) ?_
        exact ih (i + 1) (max x (bAsk b e (S 19 (S 18 i 0).toNat 0) (S 21 (S 18 i 0).toNat 0) (S 22 (S 18 i 0).toNat 0))) (max y (eAsk e (S 19 (S 18 i 0).toNat 0) (S 21 (S 18 i 0).toNat 0) (S 22 (S 18 i 0).toNat 0))) (by omega) (by omega) (by omega) (by omega) kk

theorem c_firstDay {t : Nat} (H : HP G S h) (w : WF S) (p : IsPlan G h a b e) (pb : PB b e) (ht : t < 24) : CT G mX8_firstDay [.ref (cB G + 1), JV (t : Int), .ref a] h N 0 0 (PV (JV (fday S b e t)) h N) := by
  refine CT_of (by decide +kernel) rfl (by simp [Value.category]) (Nat.le_of_ble_eq_true rfl) ?_
  change WP G mX8_firstDay _ noX _ _ h N 0 [some (.ref (cB G + 1)), some (JV (t : Int)), some (.ref a), none, none, none] []
  refine wp_aload_n dX8_firstDay_0 rfl ?_
  refine wp_get fkX8_25 dX8_firstDay_1 H.1 rfl ?_
  refine wp_iload_n dX8_firstDay_4 rfl ?_
  refine wp_aaload dX8_firstDay_5 H.2.2.2.1 rfl rfl (by omega) (by omega) (by omega) (if_pos (by omega)) ?_
  refine wp_get fkX8_96 dX8_firstDay_6 (H.2.2.2.2.2.2.2.2.2.2.1 t (by omega)) rfl ?_
  refine wp_istore_n dX8_firstDay_9 (Nat.le_of_ble_eq_true rfl) rfl ?_
  change WP G mX8_firstDay _ _ _ _ h N 10 [some (.ref (cB G + 1)), some (JV (t : Int)), some (.ref a), some (JV (S 8 t 0)), none, none] []
  refine wp_iconst dX8_firstDay_10 ?_
  refine wp_istore dX8_firstDay_11 (Nat.le_of_ble_eq_true rfl) rfl ?_
  change WP G mX8_firstDay _ _ _ _ h N 13 [some (.ref (cB G + 1)), some (JV (t : Int)), some (.ref a), some (JV (S 8 t 0)), some (JV 0), none] []
  refine wp_iconst dX8_firstDay_13 ?_
  refine wp_istore dX8_firstDay_14 (Nat.le_of_ble_eq_true rfl) rfl ?_
  change WP G mX8_firstDay _ _ _ _ h N 16 [some (.ref (cB G + 1)), some (JV (t : Int)), some (.ref a), some (JV (S 8 t 0)), some (JV 0), some (JV 0)] []
  have wt := w.task ht
  exact l_firstDay H w p pb ht _ 0 _ 0 rfl (by omega) (by omega) (by omega) ⟨rfl, rfl, rfl⟩

theorem c_firstDayBy {i : Nat} (H : HP G S h) (w : WF S) (p : IsPlan G h a b e) (pb : PB b e) (hi : i < 40) (hea : 0 ≤ eAsk e (S 19 (S 18 i 0).toNat 0) (S 21 (S 18 i 0).toNat 0) (S 22 (S 18 i 0).toNat 0)) : CT G mX8_firstDayBy [.ref (cB G + 1), .ref (cB G + 68 + (S 18 i 0).toNat), .ref a] h N 0 0 (PV (JV (fdayBy S b e i)) h N) := by
  refine CT_of (by decide +kernel) rfl (by simp [Value.category]) (Nat.le_of_ble_eq_true rfl) ?_
  change WP G mX8_firstDayBy _ noX _ _ h N 0 [some (.ref (cB G + 1)), some (.ref (cB G + 68 + (S 18 i 0).toNat)), some (.ref a), none, none] []
  have wi := w.at (i := i) (by omega)
  have wt := w.task (t := (S 20 (S 18 i 0).toNat 0).toNat) (by omega)
  have qb := bAsk_r (k := S 21 (S 18 i 0).toNat 0) pb wi.2.1 wi.2.2.2.2
  have qe := eAsk_r (b := b) (k := S 21 (S 18 i 0).toNat 0) pb wi.2.1 wi.2.2.2.2
  refine wp_aload_n dX8_firstDayBy_0 rfl ?_
  refine wp_get fkX8_25 dX8_firstDayBy_1 H.1 rfl ?_
  refine wp_aload_n dX8_firstDayBy_4 rfl ?_
  refine wp_get fkX8_69 dX8_firstDayBy_5 (H.2.2.2.2.2.2.2.2.2.2.2.2 (S 18 i 0).toNat (by omega)) rfl ?_
  refine wp_aaload dX8_firstDayBy_8 H.2.2.2.1 rfl rfl (by omega) (by omega) (by omega) (if_pos (by omega)) ?_
  refine wp_astore_n dX8_firstDayBy_9 (Nat.le_of_ble_eq_true rfl) rfl ?_
  change WP G mX8_firstDayBy _ _ _ _ h N 10 [some (.ref (cB G + 1)), some (.ref (cB G + 68 + (S 18 i 0).toNat)), some (.ref a), some (.ref (cB G + 20 + 2 * (S 20 (S 18 i 0).toNat 0).toNat)), none] []
  refine wp_aload_n dX8_firstDayBy_10 rfl ?_
  refine wp_get fkX8_96 dX8_firstDayBy_11 (H.2.2.2.2.2.2.2.2.2.2.1 (S 20 (S 18 i 0).toNat 0).toNat (by omega)) rfl ?_
  refine wp_aload_n dX8_firstDayBy_14 rfl ?_
  refine wp_aload_n dX8_firstDayBy_15 rfl ?_
  refine wp_v1p (c_beginAsked (N := N) p (H.2.2.2.2.2.2.2.2.2.2.2.2 (S 18 i 0).toNat (by omega)) (by omega) (by omega)) cvX8_99 dX8_firstDayBy_16 ⟨Nat.le_of_ble_eq_true rfl, Nat.le_of_ble_eq_true rfl⟩ (Nat.le_of_ble_eq_true rfl) p.1 rfl rfl ?_
  refine wp_max dX8_firstDayBy_19 maX8_105 w_max (Nat.le_of_ble_eq_true rfl) (Nat.le_of_ble_eq_true rfl) ⟨by omega, by omega⟩ ⟨by omega, by omega⟩ ?_
  refine wp_istore dX8_firstDayBy_22 (Nat.le_of_ble_eq_true rfl) rfl ?_
  change WP G mX8_firstDayBy _ _ _ _ h N 24 [some (.ref (cB G + 1)), some (.ref (cB G + 68 + (S 18 i 0).toNat)), some (.ref a), some (.ref (cB G + 20 + 2 * (S 20 (S 18 i 0).toNat 0).toNat)), some (JV (max (S 8 (S 20 (S 18 i 0).toNat 0).toNat 0) (bAsk b e (S 19 (S 18 i 0).toNat 0) (S 21 (S 18 i 0).toNat 0) (S 22 (S 18 i 0).toNat 0))))] []
  refine wp_aload_n dX8_firstDayBy_24 rfl ?_
  refine wp_aload_n dX8_firstDayBy_25 rfl ?_
  refine wp_get fkX8_69 dX8_firstDayBy_26 (H.2.2.2.2.2.2.2.2.2.2.2.2 (S 18 i 0).toNat (by omega)) rfl ?_
  refine wp_v1p (by have q := c_calendarOf (N := N) (t := (S 20 (S 18 i 0).toNat 0).toNat) H w (by omega); rw [show ((((S 20 (S 18 i 0).toNat 0)).toNat : Nat) : Int) = (S 20 (S 18 i 0).toNat 0) by omega] at q; exact q) cvX8_114 dX8_firstDayBy_29 ⟨Nat.le_of_ble_eq_true rfl, Nat.le_of_ble_eq_true rfl⟩ (Nat.le_of_ble_eq_true rfl) H.1 rfl rfl ?_
  refine wp_aload_n dX8_firstDayBy_32 rfl ?_
  refine wp_get fkX8_57 dX8_firstDayBy_33 (H.2.2.2.2.2.2.2.2.2.2.1 (S 20 (S 18 i 0).toNat 0).toNat (by omega)) rfl ?_
  refine wp_iload dX8_firstDayBy_36 rfl ?_
  refine wp_aload_n dX8_firstDayBy_38 rfl ?_
  refine wp_aload_n dX8_firstDayBy_39 rfl ?_
  refine wp_v1p (c_endAsked (N := N) p (H.2.2.2.2.2.2.2.2.2.2.2.2 (S 18 i 0).toNat (by omega)) (by omega) (by omega)) cvX8_111 dX8_firstDayBy_40 ⟨Nat.le_of_ble_eq_true rfl, Nat.le_of_ble_eq_true rfl⟩ (Nat.le_of_ble_eq_true rfl) p.1 rfl rfl ?_
  refine wp_v3p (c_firstBegin (N := N) (H.cal w (c := (S 6 (S 20 (S 18 i 0).toNat 0).toNat 0).toNat) (by omega)) (by omega) (by omega) (by omega) (by omega) hea (by omega)) cvX8_118 dX8_firstDayBy_43 ⟨Nat.le_of_ble_eq_true rfl, Nat.le_of_ble_eq_true rfl⟩ (Nat.le_of_ble_eq_true rfl) (H.2.2.2.2.2.2.2.1 (S 6 (S 20 (S 18 i 0).toNat 0).toNat 0).toNat (by omega)) rfl rfl ?_
  refine wp_iret dX8_firstDayBy_46 rfl ?_
  exact ⟨rfl, rfl, rfl⟩

end Plan

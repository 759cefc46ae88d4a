/-! ===== the project: ranges, and what is read of it ===== -/
/-- the ranges of the project's numbers -/
def WF (S : ST) : Prop :=
  (∀ c, c < 4 → 1 ≤ S 0 c 0 ∧ S 0 c 0 ≤ 127) ∧ (∀ c d, S 2 c d = 0 ∨ S 2 c d = 1) ∧ (∀ c, c < 4 → 0 ≤ S 1 c 0 ∧ S 1 c 0 ≤ 12) ∧ (∀ c, c < 4 → (0 ≤ S 3 c 0 ∧ S 3 c 0 ≤ 9) ∧ 0 ≤ S 4 c 0 ∧ S 4 c 0 ≤ 99) ∧
  (∀ t, t < 24 → (0 ≤ S 5 t 0 ∧ S 5 t 0 ≤ 20) ∧ (0 ≤ S 6 t 0 ∧ S 6 t 0 < 4) ∧ (0 ≤ S 7 t 0 ∧ S 7 t 0 ≤ 9) ∧ (0 ≤ S 8 t 0 ∧ S 8 t 0 ≤ 999) ∧ (S 9 t 0 = 0 ∨ S 9 t 0 = 1) ∧ (0 ≤ S 10 t 0 ∧ S 10 t 0 ≤ 999) ∧ 0 ≤ S 11 t 0 ∧ S 11 t 0 ≤ 999) ∧
  (∀ t c, 0 ≤ S 12 t c ∧ S 12 t c ≤ 9) ∧ (0 ≤ S 13 0 0 ∧ S 13 0 0 ≤ 24) ∧ (0 ≤ S 14 0 0 ∧ S 14 0 0 ≤ 40) ∧ (0 ≤ S 15 0 0 ∧ S 15 0 0 ≤ 3) ∧ (∀ i, i < 24 → 0 ≤ S 16 i 0 ∧ S 16 i 0 < 24) ∧ (∀ i, S 17 i 0 = 0 ∨ S 17 i 0 = 1) ∧ (∀ i, i < 40 → 0 ≤ S 18 i 0 ∧ S 18 i 0 < 40) ∧
  (∀ x, x < 40 → (0 ≤ S 19 x 0 ∧ S 19 x 0 < 24) ∧ (0 ≤ S 20 x 0 ∧ S 20 x 0 < 24) ∧ (0 ≤ S 21 x 0 ∧ S 21 x 0 ≤ 2) ∧ 0 ≤ S 22 x 0 ∧ S 22 x 0 ≤ 20)
theorem WF.wk {S : ST} (w : WF S) {c : Nat} (h : c < 4) : 1 ≤ S 0 c 0 ∧ S 0 c 0 ≤ 127 := w.1 c h
theorem WF.fr {S : ST} (w : WF S) (c d : Nat) : S 2 c d = 0 ∨ S 2 c d = 1 := w.2.1 c d
theorem WF.fc {S : ST} (w : WF S) {c : Nat} (h : c < 4) : 0 ≤ S 1 c 0 ∧ S 1 c 0 ≤ 12 := w.2.2.1 c h
theorem WF.crew {S : ST} (w : WF S) {c : Nat} (h : c < 4) : (0 ≤ S 3 c 0 ∧ S 3 c 0 ≤ 9) ∧ 0 ≤ S 4 c 0 ∧ S 4 c 0 ≤ 99 := w.2.2.2.1 c h
theorem WF.task {S : ST} (w : WF S) {t : Nat} (h : t < 24) : (0 ≤ S 5 t 0 ∧ S 5 t 0 ≤ 20) ∧ (0 ≤ S 6 t 0 ∧ S 6 t 0 < 4) ∧ (0 ≤ S 7 t 0 ∧ S 7 t 0 ≤ 9) ∧ (0 ≤ S 8 t 0 ∧ S 8 t 0 ≤ 999) ∧ (S 9 t 0 = 0 ∨ S 9 t 0 = 1) ∧ (0 ≤ S 10 t 0 ∧ S 10 t 0 ≤ 999) ∧ 0 ≤ S 11 t 0 ∧ S 11 t 0 ≤ 999 := w.2.2.2.2.1 t h
theorem WF.need {S : ST} (w : WF S) (t c : Nat) : 0 ≤ S 12 t c ∧ S 12 t c ≤ 9 := w.2.2.2.2.2.1 t c
theorem WF.nT {S : ST} (w : WF S) : 0 ≤ S 13 0 0 ∧ S 13 0 0 ≤ 24 := w.2.2.2.2.2.2.1
theorem WF.nL {S : ST} (w : WF S) : 0 ≤ S 14 0 0 ∧ S 14 0 0 ≤ 40 := w.2.2.2.2.2.2.2.1
theorem WF.rule {S : ST} (w : WF S) : 0 ≤ S 15 0 0 ∧ S 15 0 0 ≤ 3 := w.2.2.2.2.2.2.2.2.1
theorem WF.sorted {S : ST} (w : WF S) {i : Nat} (h : i < 24) : 0 ≤ S 16 i 0 ∧ S 16 i 0 < 24 := w.2.2.2.2.2.2.2.2.2.1 i h
theorem WF.marks {S : ST} (w : WF S) (i : Nat) : S 17 i 0 = 0 ∨ S 17 i 0 = 1 := w.2.2.2.2.2.2.2.2.2.2.1 i
theorem WF.perm {S : ST} (w : WF S) {i : Nat} (h : i < 40) : 0 ≤ S 18 i 0 ∧ S 18 i 0 < 40 := w.2.2.2.2.2.2.2.2.2.2.2.1 i h
theorem WF.link {S : ST} (w : WF S) {x : Nat} (h : x < 40) : (0 ≤ S 19 x 0 ∧ S 19 x 0 < 24) ∧ (0 ≤ S 20 x 0 ∧ S 20 x 0 < 24) ∧ (0 ≤ S 21 x 0 ∧ S 21 x 0 ≤ 2) ∧ 0 ≤ S 22 x 0 ∧ S 22 x 0 ≤ 20 := w.2.2.2.2.2.2.2.2.2.2.2.2 x h
/-- the link in place i: from, to, kind, lag -/
abbrev lF (S : ST) (i : Nat) : Int := S 19 (S 18 i 0).toNat 0
abbrev lT (S : ST) (i : Nat) : Int := S 20 (S 18 i 0).toNat 0
abbrev lK (S : ST) (i : Nat) : Int := S 21 (S 18 i 0).toNat 0
abbrev lG (S : ST) (i : Nat) : Int := S 22 (S 18 i 0).toNat 0
theorem WF.at {S : ST} (w : WF S) {i : Nat} (h : i < 40) : (0 ≤ S 18 i 0 ∧ S 18 i 0 < 40) ∧ (0 ≤ S 19 (S 18 i 0).toNat 0 ∧ S 19 (S 18 i 0).toNat 0 < 24) ∧ (0 ≤ S 20 (S 18 i 0).toNat 0 ∧ S 20 (S 18 i 0).toNat 0 < 24) ∧ (0 ≤ S 21 (S 18 i 0).toNat 0 ∧ S 21 (S 18 i 0).toNat 0 ≤ 2) ∧ 0 ≤ S 22 (S 18 i 0).toNat 0 ∧ S 22 (S 18 i 0).toNat 0 ≤ 20 :=
  ⟨w.perm h, w.link (by have := w.perm h; omega)⟩
/-- the sum of the first n -/
def wsum (f : Nat → Int) : Nat → Int
  | 0 => 0
  | n + 1 => wsum f n + f n
/-- no link from i on, of m, goes to t from one that is not in -/
def opn (S : ST) (g : Nat → Int) (t : Int) : Nat → Nat → Bool
  | 0, _ => true
  | m + 1, i => if lT S i = t ∧ g (lF S i).toNat = 0 then false else opn S g t m (i + 1)
section Proj
variable {G : Ctx} {h : AH} {N : Nat} {S : ST}
theorem HP.cal (H : HP G S h) (w : WF S) {c : Nat} (hc : c < 4) : IsCal G h (cB G + 8 + 2 * c) (S 0 c 0) (S 1 c 0) (fun d => S 2 c d) :=
  ⟨H.2.2.2.2.2.2.2.1 c hc, H.2.2.2.2.2.2.2.2.1 c hc, by have := w.wk hc; omega, fun d => w.fr c d, by have := w.fc hc; omega⟩
theorem c_calendarOf {t : Nat} (H : HP G S h) (w : WF S) (ht : t < 24) : CT G mX8_calendarOf [.ref (cB G + 1), JV (t : Int)] h N 0 0 (PV (.ref (cB G + 8 + 2 * (S 6 t 0).toNat)) h N) := by
  have w1 := (w.task ht).2.1
  refine CT_of (by decide +kernel) rfl (by simp [Value.category]) (Nat.le_of_ble_eq_true rfl) ?_
  change WP G mX8_calendarOf _ noX _ _ h N 0 [some (.ref (cB G + 1)), some (JV (t : Int))] []
  refine wp_aload_n dX8_calendarOf_0 rfl ?_
  refine wp_get fkX8_11 dX8_calendarOf_1 H.1 rfl ?_
  refine wp_aload_n dX8_calendarOf_4 rfl ?_
  refine wp_get fkX8_25 dX8_calendarOf_5 H.1 rfl ?_
  refine wp_iload_n dX8_calendarOf_8 rfl ?_
  refine wp_aaload dX8_calendarOf_9 H.2.2.2.1 rfl rfl (by omega) (by omega) (by omega) (if_pos (by omega)) ?_
  refine wp_get fkX8_47 dX8_calendarOf_10 (H.2.2.2.2.2.2.2.2.2.2.1 t (by omega)) rfl ?_
  refine wp_aaload dX8_calendarOf_13 H.2.1 rfl rfl (by omega) (by omega) (by omega) (if_pos (by omega)) ?_
  refine wp_aret dX8_calendarOf_14 rfl ?_
  exact ⟨rfl, rfl, rfl⟩

theorem l_worthOf {Q : PQ} {X : PX} {k n : Nat} {t : Nat} (H : HP G S h) (w : WF S) (ht : t < 24) : ∀ (m : Nat) (c : Nat), 4 - c = m → c ≤ 4 → (Q (some (JV (S 5 t 0 * wsum (fun c => S 12 t c * S 4 c 0) 4))) h N) → WP G mX8_worthOf Q X k n h N 4 [some (.ref (cB G + 1)), some (JV (t : Int)), some (JV (wsum (fun c => S 12 t c * S 4 c 0) c)), some (JV (c : Int))] [] := by
  intro m
  induction m with
  | zero =>
    intro c hm hc kk
    refine wp_iload_n dX8_worthOf_4 rfl ?_
    refine wp_iconst dX8_worthOf_5 ?_
    refine wp_icmp_ge 39 dX8_worthOf_6 (by decide) ⟨by omega, by omega⟩ ⟨by omega, by omega⟩ (fun c_6 => ?_) (fun c_6 => ?_)
    · refine wp_aload_n dX8_worthOf_39 rfl ?_
      refine wp_get fkX8_25 dX8_worthOf_40 H.1 rfl ?_
      refine wp_iload_n dX8_worthOf_43 rfl ?_
      refine wp_aaload dX8_worthOf_44 H.2.2.2.1 rfl rfl (by omega) (by omega) (by omega) (if_pos (by omega)) ?_
      refine wp_get fkX8_57 dX8_worthOf_45 (H.2.2.2.2.2.2.2.2.2.2.1 t (by omega)) rfl ?_
      refine wp_iload_n dX8_worthOf_48 rfl ?_
      refine wp_imul dX8_worthOf_49 ?_
      refine wp_iret dX8_worthOf_50 rfl ?_
      have hc4 : c = 4 := by omega
      rw [hc4]
      exact kk
    · exact absurd c_6 (by omega)
  | succ m ih =>
    intro c hm hc kk
    refine wp_iload_n dX8_worthOf_4 rfl ?_
    refine wp_iconst dX8_worthOf_5 ?_
    refine wp_icmp_ge 39 dX8_worthOf_6 (by decide) ⟨by omega, by omega⟩ ⟨by omega, by omega⟩ (fun c_6 => ?_) (fun c_6 => ?_)
    · exact absurd c_6 (by omega)
    · refine wp_iload_n dX8_worthOf_9 rfl ?_
      refine wp_aload_n dX8_worthOf_10 rfl ?_
      refine wp_get fkX8_25 dX8_worthOf_11 H.1 rfl ?_
      refine wp_iload_n dX8_worthOf_14 rfl ?_
      refine wp_aaload dX8_worthOf_15 H.2.2.2.1 rfl rfl (by omega) (by omega) (by omega) (if_pos (by omega)) ?_
      refine wp_get fkX8_51 dX8_worthOf_16 (H.2.2.2.2.2.2.2.2.2.2.1 t (by omega)) rfl ?_
      refine wp_iload_n dX8_worthOf_19 rfl ?_
      refine wp_iaload dX8_worthOf_20 (H.2.2.2.2.2.2.2.2.2.2.2.1 t (by omega)) (by omega) (by omega) (by omega) ?_
      refine wp_aload_n dX8_worthOf_21 rfl ?_
      refine wp_get fkX8_19 dX8_worthOf_22 H.1 rfl ?_
      refine wp_iload_n dX8_worthOf_25 rfl ?_
      refine wp_aaload dX8_worthOf_26 H.2.2.1 rfl rfl (by omega) (by omega) (by omega) (if_pos (by omega)) ?_
      refine wp_get fkX8_54 dX8_worthOf_27 (H.2.2.2.2.2.2.2.2.2.1 c (by omega)) rfl ?_
      refine wp_imul dX8_worthOf_30 ?_
      refine wp_iadd dX8_worthOf_31 ?_
      refine wp_istore_n dX8_worthOf_32 (Nat.le_of_ble_eq_true rfl) rfl ?_
      change WP G mX8_worthOf _ _ _ _ h N 33 [some (.ref (cB G + 1)), some (JV (t : Int)), some (JV ((wsum (fun c => S 12 t c * S 4 c 0) c) + ((S 12 t c) * (S 4 c 0)))), some (JV (c : Int))] []
      refine wp_iinc dX8_worthOf_33 rfl (Nat.le_of_ble_eq_true rfl) rfl ?_
      change WP G mX8_worthOf _ _ _ _ h N 36 [some (.ref (cB G + 1)), some (JV (t : Int)), some (JV ((wsum (fun c => S 12 t c * S 4 c 0) c) + ((S 12 t c) * (S 4 c 0)))), some (JV ((c : Int) + 1))] []
      refine wp_goto 4 dX8_worthOf_36 (by decide) ?_
      exact ih (c + 1) (by omega) (by omega) kk

theorem c_worthOf {t : Nat} (H : HP G S h) (w : WF S) (ht : t < 24) : CT G mX8_worthOf [.ref (cB G + 1), JV (t : Int)] h N 0 0 (PV (JV (S 5 t 0 * wsum (fun c => S 12 t c * S 4 c 0) 4)) h N) := by
  refine CT_of (by decide +kernel) rfl (by simp [Value.category]) (Nat.le_of_ble_eq_true rfl) ?_
  change WP G mX8_worthOf _ noX _ _ h N 0 [some (.ref (cB G + 1)), some (JV (t : Int)), none, none] []
  refine wp_iconst dX8_worthOf_0 ?_
  refine wp_istore_n dX8_worthOf_1 (Nat.le_of_ble_eq_true rfl) rfl ?_
  change WP G mX8_worthOf _ _ _ _ h N 2 [some (.ref (cB G + 1)), some (JV (t : Int)), some (JV 0), none] []
  refine wp_iconst dX8_worthOf_2 ?_
  refine wp_istore_n dX8_worthOf_3 (Nat.le_of_ble_eq_true rfl) rfl ?_
  change WP G mX8_worthOf _ _ _ _ h N 4 [some (.ref (cB G + 1)), some (JV (t : Int)), some (JV 0), some (JV 0)] []
  exact l_worthOf H w ht 4 0 rfl (by omega) ⟨rfl, rfl, rfl⟩

theorem l_isOpen {Q : PQ} {X : PX} {k n : Nat} {t : Int} {b : Nat} {g : Nat → Int} (H : HP G S h) (w : WF S) (ht : 0 ≤ t ∧ t < 24) (hb : h b = some (eZ G 24 g)) (hg : ∀ i, g i = 0 ∨ g i = 1) : ∀ (m : Nat) (i : Nat), (S 14 0 0).toNat - i = m → i ≤ 40 → (Q (some (JV (bI (opn S g t m i)))) h N) → WP G mX8_isOpen Q X k n h N 2 [some (.ref (cB G + 1)), some (JV t), some (.ref b), some (JV (i : Int))] [] := by
  intro m
  induction m with
  | zero =>
    intro i hm hi kk
    have wL := w.nL
    refine wp_iload_n dX8_isOpen_2 rfl ?_
    refine wp_aload_n dX8_isOpen_3 rfl ?_
    refine wp_get fkX8_63 dX8_isOpen_4 H.1 rfl ?_
    refine wp_icmp_ge 45 dX8_isOpen_7 (by decide) ⟨by omega, by omega⟩ ⟨by omega, by omega⟩ (fun c_7 => ?_) (fun c_7 => ?_)
    · refine wp_iconst dX8_isOpen_45 ?_
      refine wp_zret dX8_isOpen_46 rfl (by omega) ?_
      exact kk
    · exact absurd c_7 (by omega)
  | succ m ih =>
    intro i hm hi kk
    have wL := w.nL
    refine wp_iload_n dX8_isOpen_2 rfl ?_
    refine wp_aload_n dX8_isOpen_3 rfl ?_
    refine wp_get fkX8_63 dX8_isOpen_4 H.1 rfl ?_
    refine wp_icmp_ge 45 dX8_isOpen_7 (by decide) ⟨by omega, by omega⟩ ⟨by omega, by omega⟩ (fun c_7 => ?_) (fun c_7 => ?_)
    · exact absurd c_7 (by omega)
    · have wi := w.at (i := i) (by omega)
      have hgi := hg (S 19 (S 18 i 0).toNat 0).toNat
      refine wp_aload_n dX8_isOpen_10 rfl ?_
      refine wp_get fkX8_31 dX8_isOpen_11 H.1 rfl ?_
      refine wp_iload_n dX8_isOpen_14 rfl ?_
      refine wp_aaload dX8_isOpen_15 H.2.2.2.2.1 rfl rfl (by omega) (by omega) (by omega) (if_pos (by omega)) ?_
      refine wp_get fkX8_69 dX8_isOpen_16 (H.2.2.2.2.2.2.2.2.2.2.2.2 (S 18 i 0).toNat (by omega)) rfl ?_
      refine wp_iload_n dX8_isOpen_19 rfl ?_
      refine wp_icmp_ne 39 dX8_isOpen_20 (by decide) ⟨by omega, by omega⟩ ⟨by omega, by omega⟩ (fun c_20 => ?_) (fun c_20 => ?_)
      · refine wp_iinc dX8_isOpen_39 rfl (Nat.le_of_ble_eq_true rfl) rfl ?_
        change WP G mX8_isOpen _ _ _ _ h N 42 [some (.ref (cB G + 1)), some (JV t), some (.ref b), some (JV ((i : Int) + 1))] []
        refine wp_goto 2 dX8_isOpen_42 (by decide) ?_
        rw [opn, if_neg (fun q => c_20 q.1)] at kk
        exact ih (i + 1) (by omega) (by omega) kk
      · refine wp_aload_n dX8_isOpen_23 rfl ?_
        refine wp_aload_n dX8_isOpen_24 rfl ?_
        refine wp_get fkX8_31 dX8_isOpen_25 H.1 rfl ?_
        refine wp_iload_n dX8_isOpen_28 rfl ?_
        refine wp_aaload dX8_isOpen_29 H.2.2.2.2.1 rfl rfl (by omega) (by omega) (by omega) (if_pos (by omega)) ?_
        refine wp_get fkX8_66 dX8_isOpen_30 (H.2.2.2.2.2.2.2.2.2.2.2.2 (S 18 i 0).toNat (by omega)) rfl ?_
        refine wp_zaload dX8_isOpen_33 hb (by omega) (by omega) (by omega) ?_
        refine wp_if_ne 39 dX8_isOpen_34 (by decide) ⟨by omega, by omega⟩ (fun c_34 => ?_) (fun c_34 => ?_)
        · refine wp_iinc dX8_isOpen_39 rfl (Nat.le_of_ble_eq_true rfl) rfl ?_
          change WP G mX8_isOpen _ _ _ _ h N 42 [some (.ref (cB G + 1)), some (JV t), some (.ref b), some (JV ((i : Int) + 1))] []
          refine wp_goto 2 dX8_isOpen_42 (by decide) ?_
          rw [opn, if_neg (fun q => c_34 q.2)] at kk
          exact ih (i + 1) (by omega) (by omega) kk
        · refine wp_iconst dX8_isOpen_37 ?_
          refine wp_zret dX8_isOpen_38 rfl (by omega) ?_
          rw [opn, if_pos ⟨c_20, c_34⟩] at kk
          exact kk

theorem c_isOpen {t : Int} {b : Nat} {g : Nat → Int} (H : HP G S h) (w : WF S) (ht : 0 ≤ t ∧ t < 24) (hb : h b = some (eZ G 24 g)) (hg : ∀ i, g i = 0 ∨ g i = 1) : CT G mX8_isOpen [.ref (cB G + 1), JV t, .ref b] h N 0 0 (PV (JV (bI (opn S g t (S 14 0 0).toNat 0))) h N) := by
  refine CT_of (by decide +kernel) rfl (by simp [Value.category]) (Nat.le_of_ble_eq_true rfl) ?_
  change WP G mX8_isOpen _ noX _ _ h N 0 [some (.ref (cB G + 1)), some (JV t), some (.ref b), none] []
  refine wp_iconst dX8_isOpen_0 ?_
  refine wp_istore_n dX8_isOpen_1 (Nat.le_of_ble_eq_true rfl) rfl ?_
  change WP G mX8_isOpen _ _ _ _ h N 2 [some (.ref (cB G + 1)), some (JV t), some (.ref b), some (JV 0)] []
  exact l_isOpen H w ht hb hg _ 0 rfl (by omega) ⟨rfl, rfl, rfl⟩

end Proj

/-! ===== days: the calendar's functions, and the class Calendar ===== -/
theorem WP.heq {G : Ctx} {μ : MI} {Q : PQ} {X : PX} {k n : Nat} {h h' : AH} {N pc : Nat} {L : List (Option Value)} {st : List Value} (e : h' = h) (w : WP G μ Q X k n h' N pc L st) : WP G μ Q X k n h N pc L st := e ▸ w
theorem hup_at {h1 h0 : AH} {a b : Nat} {e : va_E} (eh : h1 = hup h0 a e) (hn : b ≠ a) : h1 b = h0 b := by rw [eh]; exact hup_ne hn
theorem nz_of {x : Int} (h : x = 0 ∨ x = 1) : narrow .boolean (JV x) = JV x := by rcases h with rfl | rfl <;> rfl
def bI (b : Bool) : Int := if b then 1 else 0
theorem bI_01 (b : Bool) : bI b = 0 ∨ bI b = 1 := by cases b <;> simp [bI]
theorem bI_t {b : Bool} (h : b = true) : bI b = 1 := by rw [h]; rfl
theorem bI_f {b : Bool} (h : b = false) : bI b = 0 := by rw [h]; rfl
theorem bI_ne {b : Bool} (h : ¬ bI b = 0) : b = true := by cases b <;> simp [bI] at h ⊢
theorem bI_eq {b : Bool} (h : bI b = 0) : b = false := by cases b <;> simp [bI] at h ⊢
theorem bI_r (b : Bool) : -2147483648 ≤ bI b ∧ bI b < 2147483648 := by cases b <;> simp [bI]
/-- whether one works on the day d, the weekdays being the mask w, the days d with f d = 1 free -/
def wkd (w : Int) (f : Nat → Int) (d : Nat) : Bool := decide (w.toNat / 2 ^ (d % 7) % 2 = 1) && (decide (1000 ≤ d) || decide (f d = 0))
/-- the first day from d on, of at most n -/
def nxt (wk : Nat → Bool) : Nat → Nat → Nat
  | 0, d => d
  | n + 1, d => if wk d = true then d else nxt wk n (d + 1)
/-- the l-th day worked on, from day n - 1 back -/
def cbk (wk : Nat → Bool) : Nat → Int → Int
  | 0, _ => -1
  | n + 1, l => if wk n = true then (if l - 1 ≤ 0 then (n : Int) else cbk wk n (l - 1)) else cbk wk n l
/-- how many of the n days from d on are worked on -/
def cnt (wk : Nat → Bool) : Nat → Nat → Int
  | 0, _ => 0
  | n + 1, d => bI (wk d) + cnt wk n (d + 1)
/-- the end of l days of work from d on, n days looked at -/
def endF (wk : Nat → Bool) : Nat → Nat → Nat → Nat
  | 0, d, _ => d
  | _ + 1, d, 0 => d
  | n + 1, d, l + 1 => endF wk n (d + 1) (if wk d = true then l else l + 1)
theorem nxt_le (wk : Nat → Bool) : ∀ n d, nxt wk n d ≤ d + n ∧ d ≤ nxt wk n d
  | 0, d => by simp [nxt]
  | n + 1, d => by
    have := nxt_le wk n (d + 1)
    unfold nxt
    split <;> omega
theorem cnt_r (wk : Nat → Bool) : ∀ n d, 0 ≤ cnt wk n d ∧ cnt wk n d ≤ n
  | 0, d => by simp [cnt]
  | n + 1, d => by
    have := cnt_r wk n (d + 1)
    have := bI_01 (wk d)
    unfold cnt
    omega
theorem endF_le (wk : Nat → Bool) : ∀ n d l, endF wk n d l ≤ d + n ∧ d ≤ endF wk n d l
  | 0, d, _ => by simp [endF]
  | _ + 1, d, 0 => by simp [endF]
  | n + 1, d, l + 1 => by
    have := endF_le wk n (d + 1) (if wk d = true then l else l + 1)
    unfold endF
    omega
theorem cbk_r (wk : Nat → Bool) : ∀ n l, -1 ≤ cbk wk n l ∧ cbk wk n l < n
  | 0, _ => by simp [cbk]
  | n + 1, l => by
    have h1 := cbk_r wk n (l - 1)
    have h2 := cbk_r wk n l
    unfold cbk
    split
    · split <;> omega
    · omega
def IsCal (G : Ctx) (h : AH) (a : Nat) (w fc : Int) (f : Nat → Int) : Prop := h a = some (eO 0 [JV w, JV fc, .ref (a + 1)]) ∧ h (a + 1) = some (eZ G 1000 f) ∧ (0 ≤ w ∧ w < 128) ∧ (∀ d, f d = 0 ∨ f d = 1) ∧ (-100000 ≤ fc ∧ fc ≤ 100000)
section Cal
variable {G : Ctx} {h : AH} {N a : Nat} {w fc : Int} {f : Nat → Int}
theorem c_worksOn {d : Int} (hc : IsCal G h a w fc f) (h0 : 0 ≤ d) (h1 : d < 100000) : CT G mX0_worksOn [.ref a, JV d] h N 0 0 (PV (JV (bI (wkd w f d.toNat))) h N) := by
  have e7 : (d % 7).toNat = d.toNat % 7 := by omega
  have hw := hc.2.2.1
  have hf := hc.2.2.2.1 d.toNat
  have hdv := Nat.div_le_self w.toNat (2 ^ (d % 7).toNat)
  have hdn : 0 ≤ ((w.toNat / 2 ^ (d % 7).toNat : Nat) : Int) := Int.natCast_nonneg _
  refine CT_of (by decide +kernel) rfl (by simp [Value.category]) (Nat.le_of_ble_eq_true rfl) ?_
  change WP G mX0_worksOn _ noX _ _ h N 0 [some (.ref a), some (JV d)] []
  refine wp_iload_n dX0_worksOn_0 rfl ?_
  refine wp_if_lt 18 dX0_worksOn_1 (by decide) ⟨by omega, by omega⟩ (fun c_1 => ?_) (fun c_1 => ?_)
  · exact absurd c_1 (by omega)
  · refine wp_aload_n dX0_worksOn_4 rfl ?_
    refine wp_get fkX0_9 dX0_worksOn_5 hc.1 rfl ?_
    refine wp_iload_n dX0_worksOn_8 rfl ?_
    refine wp_bipush dX0_worksOn_9 rfl ?_
    refine wp_irem dX0_worksOn_11 ⟨by omega, by omega⟩ (by omega) ⟨by omega, by omega⟩ (by omega) ?_
    refine wp_ishr dX0_worksOn_12 (by omega) (by omega) (by omega) (by omega) ?_
    refine wp_iconst dX0_worksOn_13 ?_
    refine wp_and1 dX0_worksOn_14 (by omega) (by omega) ?_
    refine wp_if_ne 20 dX0_worksOn_15 (by decide) ⟨by omega, by omega⟩ (fun c_15 => ?_) (fun c_15 => ?_)
    · refine wp_iload_n dX0_worksOn_20 rfl ?_
      refine wp_sipush dX0_worksOn_21 rfl ?_
      refine wp_icmp_ge 36 dX0_worksOn_24 (by decide) ⟨by omega, by omega⟩ ⟨by omega, by omega⟩ (fun c_24 => ?_) (fun c_24 => ?_)
      · refine wp_iconst dX0_worksOn_36 ?_
        refine wp_goto 41 dX0_worksOn_37 (by decide) ?_
        refine wp_zret dX0_worksOn_41 rfl (by omega) ?_
        rw [e7] at c_15
        refine ⟨congrArg (fun z : Int => some (JV z)) (bI_t ?_).symm, rfl, rfl⟩
        unfold wkd
        generalize w.toNat / 2 ^ (d.toNat % 7) = A at *
        have h1 : A % 2 = 1 := by omega
        first | (have h2 : 1000 ≤ d.toNat := by omega) | skip
        simp [h1, *]
      · refine wp_aload_n dX0_worksOn_27 rfl ?_
        refine wp_get fkX0_15 dX0_worksOn_28 hc.1 rfl ?_
        refine wp_iload_n dX0_worksOn_31 rfl ?_
        refine wp_zaload dX0_worksOn_32 hc.2.1 (by omega) (by omega) (by omega) ?_
        refine wp_if_ne 40 dX0_worksOn_33 (by decide) ⟨by omega, by omega⟩ (fun c_33 => ?_) (fun c_33 => ?_)
        · refine wp_iconst dX0_worksOn_40 ?_
          refine wp_zret dX0_worksOn_41 rfl (by omega) ?_
          rw [e7] at c_15
          refine ⟨congrArg (fun z : Int => some (JV z)) (bI_f ?_).symm, rfl, rfl⟩
          unfold wkd
          have h2 : ¬ 1000 ≤ d.toNat := by omega
          simp [h2, c_33]
        · refine wp_iconst dX0_worksOn_36 ?_
          refine wp_goto 41 dX0_worksOn_37 (by decide) ?_
          refine wp_zret dX0_worksOn_41 rfl (by omega) ?_
          rw [e7] at c_15
          refine ⟨congrArg (fun z : Int => some (JV z)) (bI_t ?_).symm, rfl, rfl⟩
          unfold wkd
          generalize w.toNat / 2 ^ (d.toNat % 7) = A at *
          have h1 : A % 2 = 1 := by omega
          first | (have h2 : 1000 ≤ d.toNat := by omega) | skip
          simp [h1, *]
    · refine wp_iconst dX0_worksOn_18 ?_
      refine wp_zret dX0_worksOn_19 rfl (by omega) ?_
      rw [e7] at c_15
      refine ⟨congrArg (fun z : Int => some (JV z)) (bI_f ?_).symm, rfl, rfl⟩
      unfold wkd
      generalize w.toNat / 2 ^ (d.toNat % 7) = A at *
      have : ¬ A % 2 = 1 := by omega
      simp [this]

theorem l_firstFrom {Q : PQ} {X : PX} {k n : Nat} {day : Int} (hc : IsCal G h a w fc f) : ∀ (m : Nat) (x : Nat), 5000 - x = m → x ≤ 50000 → (WP G mX0_firstFrom Q X k n h N 27 [some (.ref a), some (JV day), some (JV ((nxt (wkd w f) m x : Nat) : Int))] []) → WP G mX0_firstFrom Q X k n h N 6 [some (.ref a), some (JV day), some (JV (x : Int))] [] := by
  intro m
  induction m with
  | zero =>
    intro x hm hx kk
    refine wp_iload_n dX0_firstFrom_6 rfl ?_
    refine wp_sipush dX0_firstFrom_7 rfl ?_
    refine wp_icmp_ge 27 dX0_firstFrom_10 (by decide) ⟨by omega, by omega⟩ ⟨by omega, by omega⟩ (fun c_10 => ?_) (fun c_10 => ?_)
    · exact kk
    · exact absurd c_10 (by omega)
  | succ m ih =>
    intro x hm hx kk
    refine wp_iload_n dX0_firstFrom_6 rfl ?_
    refine wp_sipush dX0_firstFrom_7 rfl ?_
    refine wp_icmp_ge 27 dX0_firstFrom_10 (by decide) ⟨by omega, by omega⟩ ⟨by omega, by omega⟩ (fun c_10 => ?_) (fun c_10 => ?_)
    · exact absurd c_10 (by omega)
    · refine wp_aload_n dX0_firstFrom_13 rfl ?_
      refine wp_iload_n dX0_firstFrom_14 rfl ?_
      refine wp_v1p (c_worksOn (N := N) hc (d := (x : Int)) (by omega) (by omega)) cvX0_34 dX0_firstFrom_15 ⟨Nat.le_of_ble_eq_true rfl, Nat.le_of_ble_eq_true rfl⟩ (Nat.le_of_ble_eq_true rfl) hc.1 rfl rfl ?_
      refine wp_if_ne 27 dX0_firstFrom_18 (by decide) (bI_r _) (fun c_18 => ?_) (fun c_18 => ?_)
      · have hw : wkd w f x = true := bI_ne c_18
        rw [nxt, if_pos hw] at kk
        exact kk
      · have hw : wkd w f x = false := bI_eq c_18
        rw [nxt, if_neg (by rw [hw]; decide)] at kk
        refine wp_iinc dX0_firstFrom_21 rfl (Nat.le_of_ble_eq_true rfl) rfl ?_
        change WP G mX0_firstFrom _ _ _ _ h N 24 [some (.ref a), some (JV day), some (JV ((x : Int) + 1))] []
        refine wp_goto 6 dX0_firstFrom_24 (by decide) ?_
        exact ih (x + 1) (by omega) (by omega) kk

theorem c_firstFrom {d : Int} (hc : IsCal G h a w fc f) (h0 : -50000 ≤ d) (h1 : d ≤ 50000) : CT G mX0_firstFrom [.ref a, JV d] h N 0 0 (PV (JV ((nxt (wkd w f) (5000 - (max d 0).toNat) (max d 0).toNat : Nat) : Int)) h N) := by
  refine CT_of (by decide +kernel) rfl (by simp [Value.category]) (Nat.le_of_ble_eq_true rfl) ?_
  change WP G mX0_firstFrom _ noX _ _ h N 0 [some (.ref a), some (JV d), none] []
  refine wp_iload_n dX0_firstFrom_0 rfl ?_
  refine wp_iconst dX0_firstFrom_1 ?_
  refine wp_max dX0_firstFrom_2 maX0_28 w_max (Nat.le_of_ble_eq_true rfl) (Nat.le_of_ble_eq_true rfl) ⟨by omega, by omega⟩ ⟨by omega, by omega⟩ ?_
  refine wp_istore_n dX0_firstFrom_5 (Nat.le_of_ble_eq_true rfl) rfl ?_
  change WP G mX0_firstFrom _ _ _ _ h N 6 [some (.ref a), some (JV d), some (JV (max d 0))] []
  have e : max d 0 = ((max d 0).toNat : Int) := by omega
  rw [e]
  refine l_firstFrom hc _ _ rfl (by omega) ?_
  refine wp_iload_n dX0_firstFrom_27 rfl ?_
  refine wp_iret dX0_firstFrom_28 rfl ⟨rfl, rfl, rfl⟩

theorem l_countBack {Q : PQ} {X : PX} {k n : Nat} {day ct : Int} (hc : IsCal G h a w fc f) : ∀ (m : Nat) (l : Int), -100000 ≤ l ∧ l ≤ 100000 - m → m ≤ 50000 → (Q (some (JV (cbk (wkd w f) m l))) h N) → WP G mX0_countBack Q X k n h N 5 [some (.ref a), some (JV day), some (JV ct), some (JV l), some (JV ((m : Int) - 1))] [] := by
  intro m
  induction m with
  | zero =>
    intro l hm hx kk
    refine wp_iload dX0_countBack_5 rfl ?_
    refine wp_if_lt 35 dX0_countBack_7 (by decide) ⟨by omega, by omega⟩ (fun c_7 => ?_) (fun c_7 => ?_)
    · refine wp_iconst dX0_countBack_35 ?_
      refine wp_iret dX0_countBack_36 rfl ?_
      exact kk
    · exact absurd c_7 (by omega)
  | succ m ih =>
    intro l hm hx kk
    refine wp_iload dX0_countBack_5 rfl ?_
    refine wp_if_lt 35 dX0_countBack_7 (by decide) ⟨by omega, by omega⟩ (fun c_7 => ?_) (fun c_7 => ?_)
    · exact absurd c_7 (by omega)
    · have e6 : ((m + 1 : Nat) : Int) - 1 = (m : Int) := by omega
      have e7 : (((m + 1 : Nat) : Int) - 1).toNat = m := by omega
      refine wp_aload_n dX0_countBack_10 rfl ?_
      refine wp_iload dX0_countBack_11 rfl ?_
      refine wp_v1p (c_worksOn (N := N) hc (d := ((m + 1 : Nat) : Int) - 1) (by omega) (by omega)) cvX0_34 dX0_countBack_13 ⟨Nat.le_of_ble_eq_true rfl, Nat.le_of_ble_eq_true rfl⟩ (Nat.le_of_ble_eq_true rfl) hc.1 rfl rfl ?_
      refine wp_if_eq 29 dX0_countBack_16 (by decide) (bI_r _) (fun c_16 => ?_) (fun c_16 => ?_)
      · have hw : wkd w f m = false := by rw [e7] at c_16; exact bI_eq c_16
        rw [cbk, if_neg (by rw [hw]; decide)] at kk
        refine wp_iinc dX0_countBack_29 rfl (Nat.le_of_ble_eq_true rfl) rfl ?_
        change WP G mX0_countBack _ _ _ _ h N 32 [some (.ref a), some (JV day), some (JV ct), some (JV l), some (JV ((((m + 1 : Nat) : Int) - 1) + (-1)))] []
        refine wp_goto 5 dX0_countBack_32 (by decide) ?_
        have e5 : ((m + 1 : Nat) : Int) - 1 + (-1) = (m : Int) - 1 := by omega
        rw [e5]
        exact ih _ (by omega) (by omega) kk
      · have hw : wkd w f m = true := by rw [e7] at c_16; exact bI_ne c_16
        rw [cbk, if_pos hw] at kk
        refine wp_iinc dX0_countBack_19 rfl (Nat.le_of_ble_eq_true rfl) rfl ?_
        change WP G mX0_countBack _ _ _ _ h N 22 [some (.ref a), some (JV day), some (JV ct), some (JV (l + (-1))), some (JV (((m + 1 : Nat) : Int) - 1))] []
        refine wp_iload_n dX0_countBack_22 rfl ?_
        refine wp_if_gt 29 dX0_countBack_23 (by decide) ⟨by omega, by omega⟩ (fun c_23 => ?_) (fun c_23 => ?_)
        · rw [if_neg (by omega)] at kk
          refine wp_iinc dX0_countBack_29 rfl (Nat.le_of_ble_eq_true rfl) rfl ?_
          change WP G mX0_countBack _ _ _ _ h N 32 [some (.ref a), some (JV day), some (JV ct), some (JV (l + (-1))), some (JV ((((m + 1 : Nat) : Int) - 1) + (-1)))] []
          refine wp_goto 5 dX0_countBack_32 (by decide) ?_
          have e5 : ((m + 1 : Nat) : Int) - 1 + (-1) = (m : Int) - 1 := by omega
          rw [e5]
          exact ih _ (by omega) (by omega) kk
        · rw [if_pos (by omega)] at kk
          refine wp_iload dX0_countBack_26 rfl ?_
          refine wp_iret dX0_countBack_28 rfl ?_
          rw [e6]
          exact kk

theorem c_countBack {d c : Int} (hc : IsCal G h a w fc f) (h0 : -50000 ≤ d) (h1 : d < 50000) (h2 : -40000 ≤ c) (h3 : c ≤ 40000) : CT G mX0_countBack [.ref a, JV d, JV c] h N 0 0 (PV (JV (cbk (wkd w f) (d + 1).toNat c)) h N) := by
  refine CT_of (by decide +kernel) rfl (by simp [Value.category]) (Nat.le_of_ble_eq_true rfl) ?_
  change WP G mX0_countBack _ noX _ _ h N 0 [some (.ref a), some (JV d), some (JV c), none, none] []
  refine wp_iload_n dX0_countBack_0 rfl ?_
  refine wp_istore_n dX0_countBack_1 (Nat.le_of_ble_eq_true rfl) rfl ?_
  change WP G mX0_countBack _ _ _ _ h N 2 [some (.ref a), some (JV d), some (JV c), some (JV c), none] []
  refine wp_iload_n dX0_countBack_2 rfl ?_
  refine wp_istore dX0_countBack_3 (Nat.le_of_ble_eq_true rfl) rfl ?_
  change WP G mX0_countBack _ _ _ _ h N 5 [some (.ref a), some (JV d), some (JV c), some (JV c), some (JV d)] []
  by_cases hd : 0 ≤ d
  · have e : d = (((d + 1).toNat : Nat) : Int) - 1 := by omega
    have := l_countBack (Q := PV (JV (cbk (wkd w f) (d + 1).toNat c)) h N) (X := noX) (k := 0) (n := 0) (N := N) (day := d) (ct := c) hc (d + 1).toNat c ⟨by omega, by omega⟩ (by omega) ⟨rfl, rfl, rfl⟩
    rw [← e] at this
    exact this
  · rw [show (d + 1).toNat = 0 by omega]
    refine wp_iload dX0_countBack_5 rfl ?_
    refine wp_if_lt 35 dX0_countBack_7 (by decide) ⟨by omega, by omega⟩ (fun c_7 => ?_) (fun c_7 => absurd c_7 (by omega))
    refine wp_iconst dX0_countBack_35 ?_
    exact wp_iret dX0_countBack_36 rfl ⟨rfl, rfl, rfl⟩

theorem l_countWithin {Q : PQ} {X : PX} {k n : Nat} {fr t : Int} (hc : IsCal G h a w fc f) (ht : -50000 ≤ t ∧ t ≤ 50000) : ∀ (m : Nat) (c : Int) (x : Nat), (t - (x : Int)).toNat = m → x ≤ 50000 → 0 ≤ c ∧ c ≤ x → (Q (some (JV (c + cnt (wkd w f) m x))) h N) → WP G mX0_countWithin Q X k n h N 5 [some (.ref a), some (JV fr), some (JV t), some (JV c), some (JV (x : Int))] [] := by
  intro m
  induction m with
  | zero =>
    intro c x hm hx hcb kk
    refine wp_iload dX0_countWithin_5 rfl ?_
    refine wp_iload_n dX0_countWithin_7 rfl ?_
    refine wp_icmp_ge 29 dX0_countWithin_8 (by decide) ⟨by omega, by omega⟩ ⟨by omega, by omega⟩ (fun c_8 => ?_) (fun c_8 => ?_)
    · refine wp_iload_n dX0_countWithin_29 rfl ?_
      refine wp_iret dX0_countWithin_30 rfl ?_
      have e : cnt (wkd w f) 0 x = 0 := rfl
      rw [e, Int.add_zero] at kk
      exact kk
    · exact absurd c_8 (by omega)
  | succ m ih =>
    intro c x hm hx hcb kk
    refine wp_iload dX0_countWithin_5 rfl ?_
    refine wp_iload_n dX0_countWithin_7 rfl ?_
    refine wp_icmp_ge 29 dX0_countWithin_8 (by decide) ⟨by omega, by omega⟩ ⟨by omega, by omega⟩ (fun c_8 => ?_) (fun c_8 => ?_)
    · exact absurd c_8 (by omega)
    · refine wp_aload_n dX0_countWithin_11 rfl ?_
      refine wp_iload dX0_countWithin_12 rfl ?_
      refine wp_v1p (c_worksOn (N := N) hc (d := (x : Int)) (by omega) (by omega)) cvX0_34 dX0_countWithin_14 ⟨Nat.le_of_ble_eq_true rfl, Nat.le_of_ble_eq_true rfl⟩ (Nat.le_of_ble_eq_true rfl) hc.1 rfl rfl ?_
      refine wp_if_eq 23 dX0_countWithin_17 (by decide) (bI_r _) (fun c_17 => ?_) (fun c_17 => ?_)
      · have hw : wkd w f x = false := bI_eq c_17
        have e : cnt (wkd w f) (m + 1) x = bI (wkd w f x) + cnt (wkd w f) m (x + 1) := rfl
        rw [e, hw] at kk
        refine wp_iinc dX0_countWithin_23 rfl (Nat.le_of_ble_eq_true rfl) rfl ?_
        change WP G mX0_countWithin _ _ _ _ h N 26 [some (.ref a), some (JV fr), some (JV t), some (JV c), some (JV ((x : Int) + 1))] []
        refine wp_goto 5 dX0_countWithin_26 (by decide) ?_
        refine ih _ (x + 1) (by omega) (by omega) (by omega) ?_
        have e2 : c + cnt (wkd w f) m (x + 1) = c + (bI false + cnt (wkd w f) m (x + 1)) := by simp only [bI]; simp; try omega
        rw [e2]
        exact kk
      · have hw : wkd w f x = true := bI_ne c_17
        have e : cnt (wkd w f) (m + 1) x = bI (wkd w f x) + cnt (wkd w f) m (x + 1) := rfl
        rw [e, hw] at kk
        refine wp_iinc dX0_countWithin_20 rfl (Nat.le_of_ble_eq_true rfl) rfl ?_
        change WP G mX0_countWithin _ _ _ _ h N 23 [some (.ref a), some (JV fr), some (JV t), some (JV (c + 1)), some (JV (x : Int))] []
        refine wp_iinc dX0_countWithin_23 rfl (Nat.le_of_ble_eq_true rfl) rfl ?_
        change WP G mX0_countWithin _ _ _ _ h N 26 [some (.ref a), some (JV fr), some (JV t), some (JV (c + 1)), some (JV ((x : Int) + 1))] []
        refine wp_goto 5 dX0_countWithin_26 (by decide) ?_
        refine ih _ (x + 1) (by omega) (by omega) (by omega) ?_
        have e2 : c + 1 + cnt (wkd w f) m (x + 1) = c + (bI true + cnt (wkd w f) m (x + 1)) := by simp only [bI]; simp; try omega
        rw [e2]
        exact kk

theorem c_countWithin {fr t : Int} (hc : IsCal G h a w fc f) (h0 : 0 ≤ fr) (h1 : fr ≤ 50000) (h2 : -50000 ≤ t) (h3 : t ≤ 50000) : CT G mX0_countWithin [.ref a, JV fr, JV t] h N 0 0 (PV (JV (cnt (wkd w f) (t - fr).toNat fr.toNat)) h N) := by
  refine CT_of (by decide +kernel) rfl (by simp [Value.category]) (Nat.le_of_ble_eq_true rfl) ?_
  change WP G mX0_countWithin _ noX _ _ h N 0 [some (.ref a), some (JV fr), some (JV t), none, none] []
  refine wp_iconst dX0_countWithin_0 ?_
  refine wp_istore_n dX0_countWithin_1 (Nat.le_of_ble_eq_true rfl) rfl ?_
  change WP G mX0_countWithin _ _ _ _ h N 2 [some (.ref a), some (JV fr), some (JV t), some (JV 0), none] []
  refine wp_iload_n dX0_countWithin_2 rfl ?_
  refine wp_istore dX0_countWithin_3 (Nat.le_of_ble_eq_true rfl) rfl ?_
  change WP G mX0_countWithin _ _ _ _ h N 5 [some (.ref a), some (JV fr), some (JV t), some (JV 0), some (JV fr)] []
  have e : fr = (fr.toNat : Int) := by omega
  have := l_countWithin (Q := PV (JV (cnt (wkd w f) (t - fr).toNat fr.toNat)) h N) (X := noX) (k := 0) (n := 0) (N := N) (fr := fr) (t := t) hc ⟨by omega, by omega⟩ (t - fr).toNat 0 fr.toNat (by omega) (by omega) ⟨by omega, by omega⟩ (by rw [Int.zero_add]; exact ⟨rfl, rfl, rfl⟩)
  rw [← e] at this
  exact this

theorem l_endOf {Q : PQ} {X : PX} {k n : Nat} {b0 l0 : Int} (hc : IsCal G h a w fc f) : ∀ (m : Nat) (x y : Nat), 5000 - x = m → x ≤ 50000 → y ≤ 1000 → (Q (some (JV ((endF (wkd w f) m x y : Nat) : Int))) h N) → WP G mX0_endOf Q X k n h N 5 [some (.ref a), some (JV b0), some (JV l0), some (JV (x : Int)), some (JV (y : Int))] [] := by
  intro m
  induction m with
  | zero =>
    intro x y hm hx hy kk
    refine wp_iload dX0_endOf_5 rfl ?_
    refine wp_if_le 34 dX0_endOf_7 (by decide) ⟨by omega, by omega⟩ (fun c_7 => ?_) (fun c_7 => ?_)
    · refine wp_iload_n dX0_endOf_34 rfl ?_
      refine wp_iret dX0_endOf_35 rfl ?_
      exact kk
    · refine wp_iload_n dX0_endOf_10 rfl ?_
      refine wp_sipush dX0_endOf_11 rfl ?_
      refine wp_icmp_ge 34 dX0_endOf_14 (by decide) ⟨by omega, by omega⟩ ⟨by omega, by omega⟩ (fun c_14 => ?_) (fun c_14 => ?_)
      · refine wp_iload_n dX0_endOf_34 rfl ?_
        refine wp_iret dX0_endOf_35 rfl ?_
        exact kk
      · exact absurd c_14 (by omega)
  | succ m ih =>
    intro x y hm hx hy kk
    refine wp_iload dX0_endOf_5 rfl ?_
    refine wp_if_le 34 dX0_endOf_7 (by decide) ⟨by omega, by omega⟩ (fun c_7 => ?_) (fun c_7 => ?_)
    · have hy0 : y = 0 := by omega
      subst hy0
      refine wp_iload_n dX0_endOf_34 rfl ?_
      refine wp_iret dX0_endOf_35 rfl ?_
      exact kk
    · obtain ⟨y', rfl⟩ : ∃ y', y = y' + 1 := ⟨y - 1, by omega⟩
      refine wp_iload_n dX0_endOf_10 rfl ?_
      refine wp_sipush dX0_endOf_11 rfl ?_
      refine wp_icmp_ge 34 dX0_endOf_14 (by decide) ⟨by omega, by omega⟩ ⟨by omega, by omega⟩ (fun c_14 => ?_) (fun c_14 => ?_)
      · exact absurd c_14 (by omega)
      · refine wp_aload_n dX0_endOf_17 rfl ?_
        refine wp_iload_n dX0_endOf_18 rfl ?_
        refine wp_v1p (c_worksOn (N := N) hc (d := (x : Int)) (by omega) (by omega)) cvX0_34 dX0_endOf_19 ⟨Nat.le_of_ble_eq_true rfl, Nat.le_of_ble_eq_true rfl⟩ (Nat.le_of_ble_eq_true rfl) hc.1 rfl rfl ?_
        refine wp_if_eq 28 dX0_endOf_22 (by decide) (bI_r _) (fun c_22 => ?_) (fun c_22 => ?_)
        · have hw : wkd w f x = false := bI_eq c_22
          rw [endF, if_neg (by rw [hw]; decide)] at kk
          refine wp_iinc dX0_endOf_28 rfl (Nat.le_of_ble_eq_true rfl) rfl ?_
          change WP G mX0_endOf _ _ _ _ h N 31 [some (.ref a), some (JV b0), some (JV l0), some (JV ((x : Int) + 1)), some (JV ((y' + 1 : Nat) : Int))] []
          refine wp_goto 5 dX0_endOf_31 (by decide) ?_
          exact ih (x + 1) (y' + 1) (by omega) (by omega) (by omega) kk
        · have hw : wkd w f x = true := bI_ne c_22
          rw [endF, if_pos hw] at kk
          refine wp_iinc dX0_endOf_25 rfl (Nat.le_of_ble_eq_true rfl) rfl ?_
          change WP G mX0_endOf _ _ _ _ h N 28 [some (.ref a), some (JV b0), some (JV l0), some (JV (x : Int)), some (JV (((y' + 1 : Nat) : Int) + (-1)))] []
          refine wp_iinc dX0_endOf_28 rfl (Nat.le_of_ble_eq_true rfl) rfl ?_
          change WP G mX0_endOf _ _ _ _ h N 31 [some (.ref a), some (JV b0), some (JV l0), some (JV ((x : Int) + 1)), some (JV (((y' + 1 : Nat) : Int) + (-1)))] []
          refine wp_goto 5 dX0_endOf_31 (by decide) ?_
          have e5 : ((y' + 1 : Nat) : Int) + (-1) = (y' : Int) := by omega
          rw [e5]
          exact ih (x + 1) y' (by omega) (by omega) (by omega) kk

theorem c_endOf {b c : Int} (hc : IsCal G h a w fc f) (h0 : 0 ≤ b) (h1 : b ≤ 50000) (h2 : 0 ≤ c) (h3 : c ≤ 1000) : CT G mX0_endOf [.ref a, JV b, JV c] h N 0 0 (PV (JV ((endF (wkd w f) (5000 - b.toNat) b.toNat c.toNat : Nat) : Int)) h N) := by
  refine CT_of (by decide +kernel) rfl (by simp [Value.category]) (Nat.le_of_ble_eq_true rfl) ?_
  change WP G mX0_endOf _ noX _ _ h N 0 [some (.ref a), some (JV b), some (JV c), none, none] []
  refine wp_iload_n dX0_endOf_0 rfl ?_
  refine wp_istore_n dX0_endOf_1 (Nat.le_of_ble_eq_true rfl) rfl ?_
  change WP G mX0_endOf _ _ _ _ h N 2 [some (.ref a), some (JV b), some (JV c), some (JV b), none] []
  refine wp_iload_n dX0_endOf_2 rfl ?_
  refine wp_istore dX0_endOf_3 (Nat.le_of_ble_eq_true rfl) rfl ?_
  change WP G mX0_endOf _ _ _ _ h N 5 [some (.ref a), some (JV b), some (JV c), some (JV b), some (JV c)] []
  have e1 : b = (b.toNat : Int) := by omega
  have e2 : c = (c.toNat : Int) := by omega
  have := l_endOf (Q := PV (JV ((endF (wkd w f) (5000 - b.toNat) b.toNat c.toNat : Nat) : Int)) h N) (X := noX) (k := 0) (n := 0) (N := N) (b0 := b) (l0 := c) hc (5000 - b.toNat) b.toNat c.toNat rfl (by omega) (by omega) ⟨rfl, rfl, rfl⟩
  rw [← e1, ← e2] at this
  exact this

/-- the first day to begin on, not ahead of fr, so that the end isn't ahead of ef -/
def fbeg (wk : Nat → Bool) (l fr ef : Int) : Int := if l = 0 then max fr ef else max ((nxt wk (5000 - (max fr 0).toNat) (max fr 0).toNat : Nat) : Int) (cbk wk ((nxt wk (5000 - (max (ef - 1) 0).toNat) (max (ef - 1) 0).toNat : Nat) + 1) l)
/-- the latest day to begin on -/
def lbeg (wk : Nat → Bool) (l t et : Int) : Int := if l = 0 then min t et else min (cbk wk (t + 1).toNat 1) (cbk wk et.toNat l)
theorem nxt_R (wk : Nat → Bool) (d : Int) (h0 : d ≤ 40000) : ((nxt wk (5000 - (max d 0).toNat) (max d 0).toNat : Nat) : Int) ≤ 45000 := by
  have := nxt_le wk (5000 - (max d 0).toNat) (max d 0).toNat
  omega
theorem c_firstBegin {le fr ef : Int} (hc : IsCal G h a w fc f) (h0 : 0 ≤ le) (h1 : le ≤ 1000) (h2 : 0 ≤ fr) (h3 : fr ≤ 40000) (h4 : 0 ≤ ef) (h5 : ef ≤ 40000) : CT G mX0_firstBegin [.ref a, JV le, JV fr, JV ef] h N 0 0 (PV (JV (fbeg (wkd w f) le fr ef)) h N) := by
  refine CT_of (by decide +kernel) rfl (by simp [Value.category]) (Nat.le_of_ble_eq_true rfl) ?_
  change WP G mX0_firstBegin _ noX _ _ h N 0 [some (.ref a), some (JV le), some (JV fr), some (JV ef)] []
  refine wp_iload_n dX0_firstBegin_0 rfl ?_
  refine wp_if_ne 10 dX0_firstBegin_1 (by decide) ⟨by omega, by omega⟩ (fun c_1 => ?_) (fun c_1 => ?_)
  · have r1 := nxt_R (wkd w f) fr (by omega)
    have r2 := nxt_R (wkd w f) (ef - 1) (by omega)
    have r3 := cbk_r (wkd w f) (((nxt (wkd w f) (5000 - (max (ef - 1) 0).toNat) (max (ef - 1) 0).toNat : Nat) : Int) + 1).toNat le
    refine wp_aload_n dX0_firstBegin_10 rfl ?_
    refine wp_iload_n dX0_firstBegin_11 rfl ?_
    refine wp_v1p (c_firstFrom (N := N) hc (d := fr) (by omega) (by omega)) cvX0_38 dX0_firstBegin_12 ⟨Nat.le_of_ble_eq_true rfl, Nat.le_of_ble_eq_true rfl⟩ (Nat.le_of_ble_eq_true rfl) hc.1 rfl rfl ?_
    refine wp_aload_n dX0_firstBegin_15 rfl ?_
    refine wp_aload_n dX0_firstBegin_16 rfl ?_
    refine wp_iload_n dX0_firstBegin_17 rfl ?_
    refine wp_iconst dX0_firstBegin_18 ?_
    refine wp_isub dX0_firstBegin_19 ?_
    refine wp_v1p (c_firstFrom (N := N) hc (d := ef - 1) (by omega) (by omega)) cvX0_38 dX0_firstBegin_20 ⟨Nat.le_of_ble_eq_true rfl, Nat.le_of_ble_eq_true rfl⟩ (Nat.le_of_ble_eq_true rfl) hc.1 rfl rfl ?_
    refine wp_iload_n dX0_firstBegin_23 rfl ?_
    refine wp_v2p (c_countBack (N := N) hc (d := ((nxt (wkd w f) (5000 - (max (ef - 1) 0).toNat) (max (ef - 1) 0).toNat : Nat) : Int)) (c := le) (by omega) (by omega) (by omega) (by omega)) cvX0_42 dX0_firstBegin_24 ⟨Nat.le_of_ble_eq_true rfl, Nat.le_of_ble_eq_true rfl⟩ (Nat.le_of_ble_eq_true rfl) hc.1 rfl rfl ?_
    refine wp_max dX0_firstBegin_27 maX0_28 w_max (Nat.le_of_ble_eq_true rfl) (Nat.le_of_ble_eq_true rfl) ⟨by omega, by omega⟩ ⟨by omega, by omega⟩ ?_
    refine wp_iret dX0_firstBegin_30 rfl ?_
    refine ⟨?_, rfl, rfl⟩
    unfold fbeg
    rw [if_neg (by omega)]
    rfl
  · refine wp_iload_n dX0_firstBegin_4 rfl ?_
    refine wp_iload_n dX0_firstBegin_5 rfl ?_
    refine wp_max dX0_firstBegin_6 maX0_28 w_max (Nat.le_of_ble_eq_true rfl) (Nat.le_of_ble_eq_true rfl) ⟨by omega, by omega⟩ ⟨by omega, by omega⟩ ?_
    refine wp_iret dX0_firstBegin_9 rfl ?_
    refine ⟨?_, rfl, rfl⟩
    unfold fbeg
    rw [if_pos (by omega)]

theorem c_latestBegin {le t et : Int} (hc : IsCal G h a w fc f) (h0 : 0 ≤ le) (h1 : le ≤ 1000) (h2 : -40000 ≤ t) (h3 : t ≤ 40000) (h4 : -40000 ≤ et) (h5 : et ≤ 40000) : CT G mX0_latestBegin [.ref a, JV le, JV t, JV et] h N 0 0 (PV (JV (lbeg (wkd w f) le t et)) h N) := by
  refine CT_of (by decide +kernel) rfl (by simp [Value.category]) (Nat.le_of_ble_eq_true rfl) ?_
  change WP G mX0_latestBegin _ noX _ _ h N 0 [some (.ref a), some (JV le), some (JV t), some (JV et)] []
  refine wp_iload_n dX0_latestBegin_0 rfl ?_
  refine wp_if_ne 10 dX0_latestBegin_1 (by decide) ⟨by omega, by omega⟩ (fun c_1 => ?_) (fun c_1 => ?_)
  · have r1 := cbk_r (wkd w f) (t + 1).toNat 1
    have r2 := cbk_r (wkd w f) (et - 1 + 1).toNat le
    refine wp_aload_n dX0_latestBegin_10 rfl ?_
    refine wp_iload_n dX0_latestBegin_11 rfl ?_
    refine wp_iconst dX0_latestBegin_12 ?_
    refine wp_v2p (c_countBack (N := N) hc (d := t) (c := 1) (by omega) (by omega) (by omega) (by omega)) cvX0_42 dX0_latestBegin_13 ⟨Nat.le_of_ble_eq_true rfl, Nat.le_of_ble_eq_true rfl⟩ (Nat.le_of_ble_eq_true rfl) hc.1 rfl rfl ?_
    refine wp_aload_n dX0_latestBegin_16 rfl ?_
    refine wp_iload_n dX0_latestBegin_17 rfl ?_
    refine wp_iconst dX0_latestBegin_18 ?_
    refine wp_isub dX0_latestBegin_19 ?_
    refine wp_iload_n dX0_latestBegin_20 rfl ?_
    refine wp_v2p (c_countBack (N := N) hc (d := et - 1) (c := le) (by omega) (by omega) (by omega) (by omega)) cvX0_42 dX0_latestBegin_21 ⟨Nat.le_of_ble_eq_true rfl, Nat.le_of_ble_eq_true rfl⟩ (Nat.le_of_ble_eq_true rfl) hc.1 rfl rfl ?_
    refine wp_min dX0_latestBegin_24 maX0_45 w_min (Nat.le_of_ble_eq_true rfl) (Nat.le_of_ble_eq_true rfl) ⟨by omega, by omega⟩ ⟨by omega, by omega⟩ ?_
    refine wp_iret dX0_latestBegin_27 rfl ?_
    refine ⟨?_, rfl, rfl⟩
    unfold lbeg
    rw [if_neg (by omega), show et - 1 + 1 = et by omega]
  · refine wp_iload_n dX0_latestBegin_4 rfl ?_
    refine wp_iload_n dX0_latestBegin_5 rfl ?_
    refine wp_min dX0_latestBegin_6 maX0_45 w_min (Nat.le_of_ble_eq_true rfl) (Nat.le_of_ble_eq_true rfl) ⟨by omega, by omega⟩ ⟨by omega, by omega⟩ ?_
    refine wp_iret dX0_latestBegin_9 rfl ?_
    refine ⟨?_, rfl, rfl⟩
    unfold lbeg
    rw [if_pos (by omega)]

end Cal

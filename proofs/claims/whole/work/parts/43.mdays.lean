/-! ===== the reference told by the project's table; its days ===== -/
/-- all but the reference's own cells, and its links' rows, stays -/
def FRM (G : Ctx) (h h' : AH) : Prop := ∀ q : Nat, (q < cB G + 169 ∨ (cB G + 213 ≤ q ∧ q < cB G + 253) ∨ cB G + 281 ≤ q) → h' q = h q
theorem FRM.rf {G : Ctx} {h : AH} : FRM G h h := fun _ _ => rfl
theorem FRM.tr {G : Ctx} {h h1 h2 : AH} (a : FRM G h h1) (b : FRM G h1 h2) : FRM G h h2 := fun q hq => (b q hq).trans (a q hq)
theorem FRM.up {G : Ctx} {a : Nat} {e : va_E} {h h1 h2 : AH} (x : FRM G h h1) (eh : h2 = hup h1 a e) (ha : cB G + 169 ≤ a ∧ (a < cB G + 213 ∨ cB G + 253 ≤ a) ∧ a < cB G + 281) : FRM G h h2 := fun q hq => (hup_at eh (by omega)).trans (x q hq)
def RS (S M : ST) : Prop :=
  (∀ c, M 1 c 0 = S 0 c 0 ∧ M 2 c 0 = S 1 c 0 ∧ M 4 c 0 = S 3 c 0 ∧ M 5 c 0 = S 4 c 0) ∧
  (∀ t, M 7 t 0 = S 5 t 0 ∧ M 8 t 0 = S 6 t 0 ∧ M 9 t 0 = S 7 t 0 ∧ M 10 t 0 = S 8 t 0 ∧ M 12 t 0 = S 9 t 0 ∧ M 13 0 t = S 10 t 0 ∧ M 13 1 t = S 11 t 0 ∧ ∀ c, M 11 t c = S 12 t c) ∧
  (M 6 0 0 = S 13 0 0 ∧ M 14 0 0 = S 14 0 0 ∧ M 16 0 0 = S 15 0 0) ∧
  (∀ k : Nat, (k : Int) < S 14 0 0 → M 15 k 0 = lF S k ∧ M 15 k 1 = lT S k ∧ M 15 k 2 = lK S k ∧ M 15 k 3 = lG S k) ∧
  (∀ c, c < 4 → (∀ k : Nat, (k : Int) < S 1 c 0 → (0 ≤ M 3 c k ∧ M 3 c k ≤ 999) ∧ S 2 c (M 3 c k).toNat = 1) ∧ (∀ d : Nat, d < 1000 → S 2 c d = 1 → ∃ k : Nat, (k : Int) < S 1 c 0 ∧ M 3 c k = (d : Int)) ∧ ∀ k k' : Nat, (k : Int) < S 1 c 0 → (k' : Int) < S 1 c 0 → M 3 c k = M 3 c k' → k = k')
abbrev mBS : List Nat := [1, 2, 3, 4, 5, 6, 7, 8, 9, 10, 11, 12, 13, 14, 15, 16]
section Rs
variable {G : Ctx} {h : AH} {N : Nat} {S M M' : ST} {L : Nat → Nat} {z : Int64}
theorem RS.of (r : RS S M) (e : ∀ f ∈ mBS, M' f = M f) : RS S M' := by
  unfold RS
  rw [e 1 (by decide), e 2 (by decide), e 3 (by decide), e 4 (by decide), e 5 (by decide), e 6 (by decide), e 7 (by decide), e 8 (by decide), e 9 (by decide), e 10 (by decide), e 11 (by decide), e 12 (by decide), e 13 (by decide), e 14 (by decide), e 15 (by decide), e 16 (by decide)]
  exact r
theorem RS.der (r : RS S M) {f i j : Nat} {v : Int} (hf : ∀ g ∈ mBS, g ≠ f) : RS S (su M f i j v) := r.of fun g hg => su_f (hf g hg)
theorem RS.lF (r : RS S M) {k : Nat} (hk : (k : Int) < S 14 0 0) : M 15 k 0 = S 19 (S 18 k 0).toNat 0 := (r.2.2.2.1 k hk).1
theorem RS.lT (r : RS S M) {k : Nat} (hk : (k : Int) < S 14 0 0) : M 15 k 1 = S 20 (S 18 k 0).toNat 0 := (r.2.2.2.1 k hk).2.1
theorem RS.lK (r : RS S M) {k : Nat} (hk : (k : Int) < S 14 0 0) : M 15 k 2 = S 21 (S 18 k 0).toNat 0 := (r.2.2.2.1 k hk).2.2.1
theorem RS.lG (r : RS S M) {k : Nat} (hk : (k : Int) < S 14 0 0) : M 15 k 3 = S 22 (S 18 k 0).toNat 0 := (r.2.2.2.1 k hk).2.2.2
theorem MP.s0 (P : MP G N M L z h) (r : RS S M) : h (cB G + 169) = some (eO 11 [JV (M 0 0 0), .ref (cB G + 170), .ref (cB G + 171), .ref (cB G + 172), .ref (cB G + 177), .ref (cB G + 178), JV (S 13 0 0), .ref (cB G + 179), .ref (cB G + 180), .ref (cB G + 181), .ref (cB G + 182), .ref (cB G + 183), .ref (cB G + 208), .ref (cB G + 209), JV (S 14 0 0), .ref (cB G + 212), JV (S 15 0 0), JV (M 17 0 0), .ref (cB G + 253), .ref (cB G + 254), .ref (cB G + 257), .ref (cB G + 260), .ref (cB G + 261), .ref (cB G + 264), JV (M 24 0 0), JV (M 25 0 0), JV (M 26 0 0), .ref (cB G + 265), JV (M 28 0 0), .ref (cB G + 270), .ref (cB G + 273), .ref (cB G + 274), .ref (cB G + 275), .ref (cB G + 276), .long z]) := by
  rw [← r.2.2.1.1, ← r.2.2.1.2.1, ← r.2.2.1.2.2]
  exact P.c0
theorem MP.s1 (P : MP G N M L z h) (r : RS S M) : h (cB G + 170) = some (eI G 4 (fun i => S 0 i 0)) := by
  rw [P.c1, show (fun i => M 1 i 0) = fun i => S 0 i 0 from funext fun x => (r.1 x).1]
theorem MP.s2 (P : MP G N M L z h) (r : RS S M) : h (cB G + 171) = some (eI G 4 (fun i => S 1 i 0)) := by
  rw [P.c2, show (fun i => M 2 i 0) = fun i => S 1 i 0 from funext fun x => (r.1 x).2.1]
theorem MP.s4 (P : MP G N M L z h) (r : RS S M) : h (cB G + 177) = some (eI G 4 (fun i => S 3 i 0)) := by
  rw [P.c4, show (fun i => M 4 i 0) = fun i => S 3 i 0 from funext fun x => (r.1 x).2.2.1]
theorem MP.s5 (P : MP G N M L z h) (r : RS S M) : h (cB G + 178) = some (eI G 4 (fun i => S 4 i 0)) := by
  rw [P.c5, show (fun i => M 5 i 0) = fun i => S 4 i 0 from funext fun x => (r.1 x).2.2.2]
theorem MP.s7 (P : MP G N M L z h) (r : RS S M) : h (cB G + 179) = some (eI G 24 (fun i => S 5 i 0)) := by
  rw [P.c7, show (fun i => M 7 i 0) = fun i => S 5 i 0 from funext fun x => (r.2.1 x).1]
theorem MP.s8 (P : MP G N M L z h) (r : RS S M) : h (cB G + 180) = some (eI G 24 (fun i => S 6 i 0)) := by
  rw [P.c8, show (fun i => M 8 i 0) = fun i => S 6 i 0 from funext fun x => (r.2.1 x).2.1]
theorem MP.s9 (P : MP G N M L z h) (r : RS S M) : h (cB G + 181) = some (eI G 24 (fun i => S 7 i 0)) := by
  rw [P.c9, show (fun i => M 9 i 0) = fun i => S 7 i 0 from funext fun x => (r.2.1 x).2.2.1]
theorem MP.s10 (P : MP G N M L z h) (r : RS S M) : h (cB G + 182) = some (eI G 24 (fun i => S 8 i 0)) := by
  rw [P.c10, show (fun i => M 10 i 0) = fun i => S 8 i 0 from funext fun x => (r.2.1 x).2.2.2.1]
theorem MP.s12 (P : MP G N M L z h) (r : RS S M) : h (cB G + 208) = some (eZ G 24 (fun i => S 9 i 0)) := by
  rw [P.c12, show (fun i => M 12 i 0) = fun i => S 9 i 0 from funext fun x => (r.2.1 x).2.2.2.2.1]
theorem MP.s11 (P : MP G N M L z h) (r : RS S M) {i : Nat} (hi : i < 24) : h (cB G + 184 + i) = some (eI G 4 (fun j9 => S 12 i j9)) := by
  rw [P.r11 hi, show (fun j => M 11 i j) = fun j9 => S 12 i j9 from funext fun x => (r.2.1 i).2.2.2.2.2.2.2 x]
theorem MP.s13a (P : MP G N M L z h) (r : RS S M) : h (cB G + 210 + 0) = some (eI G 24 (fun j9 => S 10 j9 0)) := by
  rw [P.r13 (by omega), show (fun j => M 13 0 j) = fun j9 => S 10 j9 0 from funext fun x => (r.2.1 x).2.2.2.2.2.1]
theorem MP.s13b (P : MP G N M L z h) (r : RS S M) : h (cB G + 210 + 1) = some (eI G 24 (fun j9 => S 11 j9 0)) := by
  rw [P.r13 (by omega), show (fun j => M 13 1 j) = fun j9 => S 11 j9 0 from funext fun x => (r.2.1 x).2.2.2.2.2.2.1]
def frA (f : Nat → Int) (d : Int) : Nat → Int
  | 0 => -1
  | n + 1 => if f n = d then (n : Int) else frA f d n
theorem frA_r {f : Nat → Int} {d : Int} : ∀ n, (frA f d n = -1 ∧ ∀ k, k < n → f k ≠ d) ∨ ∃ k : Nat, k < n ∧ frA f d n = (k : Int) ∧ f k = d
  | 0 => Or.inl ⟨rfl, fun k hk => by omega⟩
  | n + 1 => by
    rw [frA]
    by_cases hf : f n = d
    · rw [if_pos hf]
      exact Or.inr ⟨n, by omega, rfl, hf⟩
    · rw [if_neg hf]
      rcases frA_r (f := f) (d := d) n with ⟨a, b⟩ | ⟨k, a, b, c⟩
      · refine Or.inl ⟨a, fun k hk => ?_⟩
        by_cases hkn : k = n
        · rw [hkn]; exact hf
        · exact b k (by omega)
      · exact Or.inr ⟨k, by omega, b, c⟩
theorem wk_m (r : RS S M) (w : WF S) {c d : Nat} (hc : c < 4) : wkS S c d = true ↔ (((S 0 c 0).toNat / 2 ^ ((d : Int) % 7).toNat : Nat) : Int) % 2 ≠ 0 ∧ frA (fun k => M 3 c k) (d : Int) (S 1 c 0).toNat = -1 := by
  have e : ((d : Int) % 7).toNat = d % 7 := by omega
  have q := r.2.2.2.2 c hc
  have w2 := w.2.1 c d
  have w3 := w.2.2.1 c hc
  rw [e]
  have fr : frA (fun k => M 3 c k) (d : Int) (S 1 c 0).toNat = -1 ↔ 1000 ≤ d ∨ S 2 c d = 0 := by
    rcases frA_r (f := fun k => M 3 c k) (d := (d : Int)) (S 1 c 0).toNat with ⟨a, b⟩ | ⟨k, a, b, e3⟩
    · refine ⟨fun _ => ?_, fun _ => a⟩
      by_cases hd : d < 1000
      · rcases w2 with z | z
        · exact Or.inr z
        · obtain ⟨k, k1, k2⟩ := q.2.1 d hd z
          exact absurd k2 (b k (by omega))
      · exact Or.inl (by omega)
    · have q1 := q.1 k (by omega)
      have e3 : M 3 c k = (d : Int) := e3
      rw [e3, Int.toNat_natCast] at q1
      omega
  rw [fr]
  unfold wkS wkd
  simp only [Bool.and_eq_true, Bool.or_eq_true, decide_eq_true_eq]
  refine and_congr_left fun _ => ?_
  omega
theorem m_is {v lo hi : Int} (hv : InR v) (hlo : InR lo) (hhi : InR hi) : CT G mX11_is [JV v, JV lo, JV hi] h N 0 0 (PV (JV (bI (decide (lo ≤ v ∧ v ≤ hi)))) h N) := by
  refine CT_of (by decide +kernel) rfl (by simp [Value.category]) (Nat.le_of_ble_eq_true rfl) ?_
  change WP G mX11_is _ noX _ _ h N 0 [some (JV v), some (JV lo), some (JV hi)] []
  refine wp_iload_n dX11_is_0 rfl ?_
  refine wp_iload_n dX11_is_1 rfl ?_
  refine wp_icmp_lt 14 dX11_is_2 (by decide) hv hlo (fun c_2 => ?_) (fun c_2 => ?_)
  · refine wp_iconst dX11_is_14 ?_
    refine wp_zret dX11_is_15 rfl (by omega) ?_
    refine ⟨?_, rfl, rfl⟩
    rw [show decide (lo ≤ v ∧ v ≤ hi) = false by simp; omega]; rfl
  · refine wp_iload_n dX11_is_5 rfl ?_
    refine wp_iload_n dX11_is_6 rfl ?_
    refine wp_icmp_gt 14 dX11_is_7 (by decide) hv hhi (fun c_7 => ?_) (fun c_7 => ?_)
    · refine wp_iconst dX11_is_14 ?_
      refine wp_zret dX11_is_15 rfl (by omega) ?_
      refine ⟨?_, rfl, rfl⟩
      rw [show decide (lo ≤ v ∧ v ≤ hi) = false by simp; omega]; rfl
    · refine wp_iconst dX11_is_10 ?_
      refine wp_goto 15 dX11_is_11 (by decide) ?_
      refine wp_zret dX11_is_15 rfl (by omega) ?_
      refine ⟨?_, rfl, rfl⟩
      rw [show decide (lo ≤ v ∧ v ≤ hi) = true by simp; omega]; rfl

theorem m_isCalendar {v : Int} (hv : InR v) : CT G mX11_isCalendar [JV v] h N 0 0 (PV (JV (bI (decide (0 ≤ v ∧ v ≤ 3)))) h N) := by
  refine CT_of (by decide +kernel) rfl (by simp [Value.category]) (Nat.le_of_ble_eq_true rfl) ?_
  change WP G mX11_isCalendar _ noX _ _ h N 0 [some (JV v)] []
  refine wp_iload_n dX11_isCalendar_0 rfl ?_
  refine wp_iconst dX11_isCalendar_1 ?_
  refine wp_iconst dX11_isCalendar_2 ?_
  refine wp_s3p (m_is (N := N) hv ⟨by omega, by omega⟩ ⟨by omega, by omega⟩) csX11_92 dX11_isCalendar_3 ⟨Nat.le_of_ble_eq_true rfl, Nat.le_of_ble_eq_true rfl⟩ (Nat.le_of_ble_eq_true rfl) ?_
  refine wp_zret dX11_isCalendar_6 rfl (bI_01 _) ?_
  exact ⟨rfl, rfl, rfl⟩

theorem m_isCrew {v : Int} (hv : InR v) : CT G mX11_isCrew [JV v] h N 0 0 (PV (JV (bI (decide (0 ≤ v ∧ v ≤ 3)))) h N) := by
  refine CT_of (by decide +kernel) rfl (by simp [Value.category]) (Nat.le_of_ble_eq_true rfl) ?_
  change WP G mX11_isCrew _ noX _ _ h N 0 [some (JV v)] []
  refine wp_iload_n dX11_isCrew_0 rfl ?_
  refine wp_iconst dX11_isCrew_1 ?_
  refine wp_iconst dX11_isCrew_2 ?_
  refine wp_s3p (m_is (N := N) hv ⟨by omega, by omega⟩ ⟨by omega, by omega⟩) csX11_92 dX11_isCrew_3 ⟨Nat.le_of_ble_eq_true rfl, Nat.le_of_ble_eq_true rfl⟩ (Nat.le_of_ble_eq_true rfl) ?_
  refine wp_zret dX11_isCrew_6 rfl (bI_01 _) ?_
  exact ⟨rfl, rfl, rfl⟩

theorem m_isTask (P : MP G N M L z h) (r : RS S M) (w : WF S) {v : Int} (hv : InR v) : CT G mX11_isTask [.ref (cB G + 169), JV v] h N 0 0 (PV (JV (bI (decide (0 ≤ v ∧ v ≤ S 13 0 0 - 1)))) h N) := by
  refine CT_of (by decide +kernel) rfl (by simp [Value.category]) (Nat.le_of_ble_eq_true rfl) ?_
  change WP G mX11_isTask _ noX _ _ h N 0 [some (.ref (cB G + 169)), some (JV v)] []
  have wT := w.nT
  have wL := w.nL
  refine wp_iload_n dX11_isTask_0 rfl ?_
  refine wp_iconst dX11_isTask_1 ?_
  refine wp_aload_n dX11_isTask_2 rfl ?_
  refine wp_get fkX11_96 dX11_isTask_3 (P.s0 r) rfl ?_
  refine wp_iconst dX11_isTask_6 ?_
  refine wp_isub dX11_isTask_7 ?_
  refine wp_s3p (m_is (N := N) hv ⟨by omega, by omega⟩ ⟨by omega, by omega⟩) csX11_92 dX11_isTask_8 ⟨Nat.le_of_ble_eq_true rfl, Nat.le_of_ble_eq_true rfl⟩ (Nat.le_of_ble_eq_true rfl) ?_
  refine wp_zret dX11_isTask_11 rfl (bI_01 _) ?_
  exact ⟨rfl, rfl, rfl⟩

theorem m_isLink (P : MP G N M L z h) (r : RS S M) (w : WF S) {v : Int} (hv : InR v) : CT G mX11_isLink [.ref (cB G + 169), JV v] h N 0 0 (PV (JV (bI (decide (0 ≤ v ∧ v ≤ S 14 0 0 - 1)))) h N) := by
  refine CT_of (by decide +kernel) rfl (by simp [Value.category]) (Nat.le_of_ble_eq_true rfl) ?_
  change WP G mX11_isLink _ noX _ _ h N 0 [some (.ref (cB G + 169)), some (JV v)] []
  have wT := w.nT
  have wL := w.nL
  refine wp_iload_n dX11_isLink_0 rfl ?_
  refine wp_iconst dX11_isLink_1 ?_
  refine wp_aload_n dX11_isLink_2 rfl ?_
  refine wp_get fkX11_99 dX11_isLink_3 (P.s0 r) rfl ?_
  refine wp_iconst dX11_isLink_6 ?_
  refine wp_isub dX11_isLink_7 ?_
  refine wp_s3p (m_is (N := N) hv ⟨by omega, by omega⟩ ⟨by omega, by omega⟩) csX11_92 dX11_isLink_8 ⟨Nat.le_of_ble_eq_true rfl, Nat.le_of_ble_eq_true rfl⟩ (Nat.le_of_ble_eq_true rfl) ?_
  refine wp_zret dX11_isLink_11 rfl (bI_01 _) ?_
  exact ⟨rfl, rfl, rfl⟩

theorem m_thrown (P : MP G N M L z h) : CT G mX11_thrown [.ref (cB G + 169)] h N 0 0 (PV (JV (M 0 0 0)) h N) := by
  refine CT_of (by decide +kernel) rfl (by simp [Value.category]) (Nat.le_of_ble_eq_true rfl) ?_
  change WP G mX11_thrown _ noX _ _ h N 0 [some (.ref (cB G + 169))] []
  refine wp_aload_n dX11_thrown_0 rfl ?_
  refine wp_get fkX11_88 dX11_thrown_1 P.c0 rfl ?_
  refine wp_iret dX11_thrown_4 rfl ?_
  exact ⟨rfl, rfl, rfl⟩

theorem m_refuse {x : Int} (P : MP G N M L z h) : CT G mX11_refuse [.ref (cB G + 169), JV x] h N 0 0 (fun r h' N' => N' = N ∧ r = some (JV 0) ∧ ∃ M', MP G N M' L z h' ∧ M' = su M 0 0 0 x ∧ FRM G h h') := by
  refine CT_of (by decide +kernel) rfl (by simp [Value.category]) (Nat.le_of_ble_eq_true rfl) ?_
  change WP G mX11_refuse _ noX _ _ h N 0 [some (.ref (cB G + 169)), some (JV x)] []
  refine wp_aload_n dX11_refuse_0 rfl ?_
  refine wp_iload_n dX11_refuse_1 rfl ?_
  refine wp_put fkX11_88 dX11_refuse_2 P.c0 rfl rfl (Nat.le_of_ble_eq_true rfl) ?_
  obtain ⟨h_1, eh_1⟩ : ∃ hh9 : AH, hh9 = hup h (cB G + 169) (eO 11 [JV x, .ref (cB G + 170), .ref (cB G + 171), .ref (cB G + 172), .ref (cB G + 177), .ref (cB G + 178), JV (M 6 0 0), .ref (cB G + 179), .ref (cB G + 180), .ref (cB G + 181), .ref (cB G + 182), .ref (cB G + 183), .ref (cB G + 208), .ref (cB G + 209), JV (M 14 0 0), .ref (cB G + 212), JV (M 16 0 0), JV (M 17 0 0), .ref (cB G + 253), .ref (cB G + 254), .ref (cB G + 257), .ref (cB G + 260), .ref (cB G + 261), .ref (cB G + 264), JV (M 24 0 0), JV (M 25 0 0), JV (M 26 0 0), .ref (cB G + 265), JV (M 28 0 0), .ref (cB G + 270), .ref (cB G + 273), .ref (cB G + 274), .ref (cB G + 275), .ref (cB G + 276), .long z]) := ⟨_, rfl⟩
  refine WP.heq eh_1 ?_
  obtain ⟨M_1, eM_1⟩ : ∃ ss9 : ST, ss9 = su M 0 0 0 x := ⟨_, rfl⟩
  have P_1 : MP G (N) M_1 L z h_1 := by rw [eM_1]; exact P.sc (f := 0) (v := x) (by decide) (eh_1.trans (by simp [cMod, su]))
  refine wp_iconst dX11_refuse_5 ?_
  refine wp_iret dX11_refuse_6 rfl ?_
  exact ⟨rfl, rfl, M_1, P_1, eM_1, fun q hq => hup_at eh_1 (by omega)⟩

theorem l_freeAt {Q : PQ} {X : PX} {k9 n9 : Nat} (P : MP G N M L z h) (r : RS S M) (w : WF S) {c : Nat} {d : Int} (hc : c < 4) (hd : InR d) : ∀ (m : Nat), ((m : Int) ≤ S 1 c 0) → (Q (some (JV (frA (fun k => M 3 c k) d m))) h N) → WP G mX11_freeAt Q X k9 n9 h N 9 [some (.ref (cB G + 169)), some (JV (c : Int)), some (JV d), some (JV ((m : Int) - 1))] [] := by
  intro m
  induction m with
  | zero =>
    intro  hm kk
    refine wp_iload_n dX11_freeAt_9 rfl ?_
    refine wp_if_lt 31 dX11_freeAt_10 (by decide) ⟨by omega, by omega⟩ (fun c_10 => ?_) (fun c_10 => ?_)
    · refine wp_iload_n dX11_freeAt_31 rfl ?_
      refine wp_iret dX11_freeAt_32 rfl ?_
      exact kk
    · exact absurd c_10 (by omega)
  | succ m ih =>
    intro  hm kk
    rw [show ((m + 1 : Nat) : Int) - 1 = (m : Int) by omega]
    have w3 := w.2.2.1 c hc
    have q := (r.2.2.2.2 c hc).1 m (by omega)
    refine wp_iload_n dX11_freeAt_9 rfl ?_
    refine wp_if_lt 31 dX11_freeAt_10 (by decide) ⟨by omega, by omega⟩ (fun c_10 => ?_) (fun c_10 => ?_)
    · exact absurd c_10 (by omega)
    · refine wp_aload_n dX11_freeAt_13 rfl ?_
      refine wp_get fkX11_18 dX11_freeAt_14 (P.s0 r) rfl ?_
      refine wp_iload_n dX11_freeAt_17 rfl ?_
      refine wp_aaload dX11_freeAt_18 P.q3 rfl rfl (by omega) (by omega) (by omega) (if_pos (by omega)) ?_
      change WP G mX11_freeAt _ _ _ _ h N 19 [some (.ref (cB G + 169)), some (JV (c : Int)), some (JV d), some (JV (m : Int))] [.ref (cB G + 173 + c)]
      refine wp_iload_n dX11_freeAt_19 rfl ?_
      refine wp_iaload dX11_freeAt_20 (P.r3 (i := c) (by omega)) (by omega) (by omega) (by omega) ?_
      change WP G mX11_freeAt _ _ _ _ h N 21 [some (.ref (cB G + 169)), some (JV (c : Int)), some (JV d), some (JV (m : Int))] [JV (M 3 c m)]
      refine wp_iload_n dX11_freeAt_21 rfl ?_
      refine wp_icmp_eq 31 dX11_freeAt_22 (by decide) ⟨by omega, by omega⟩ hd (fun c_22 => ?_) (fun c_22 => ?_)
      · rw [frA, if_pos c_22] at kk
        refine wp_iload_n dX11_freeAt_31 rfl ?_
        refine wp_iret dX11_freeAt_32 rfl ?_
        exact kk
      · rw [frA, if_neg c_22] at kk
        refine wp_iinc dX11_freeAt_25 rfl (Nat.le_of_ble_eq_true rfl) rfl ?_
        change WP G mX11_freeAt _ _ _ _ h N 28 [some (.ref (cB G + 169)), some (JV (c : Int)), some (JV d), some (JV ((m : Int) + (-1)))] []
        refine wp_goto 9 dX11_freeAt_28 (by decide) ?_
        rw [show (m : Int) + (-1) = (m : Int) - 1 by omega]
        exact ih (by omega) kk

theorem m_freeAt (P : MP G N M L z h) (r : RS S M) (w : WF S) {c : Nat} {d : Int} (hc : c < 4) (hd : InR d) : CT G mX11_freeAt [.ref (cB G + 169), JV (c : Int), JV d] h N 0 0 (PV (JV (frA (fun k => M 3 c k) d (S 1 c 0).toNat)) h N) := by
  refine CT_of (by decide +kernel) rfl (by simp [Value.category]) (Nat.le_of_ble_eq_true rfl) ?_
  change WP G mX11_freeAt _ noX _ _ h N 0 [some (.ref (cB G + 169)), some (JV (c : Int)), some (JV d), none] []
  refine wp_aload_n dX11_freeAt_0 rfl ?_
  refine wp_get fkX11_13 dX11_freeAt_1 (P.s0 r) rfl ?_
  refine wp_iload_n dX11_freeAt_4 rfl ?_
  refine wp_iaload dX11_freeAt_5 (P.s2 r) (by omega) (by omega) (by omega) ?_
  change WP G mX11_freeAt _ _ _ _ h N 6 [some (.ref (cB G + 169)), some (JV (c : Int)), some (JV d), none] [JV (S 1 c 0)]
  refine wp_iconst dX11_freeAt_6 ?_
  refine wp_isub dX11_freeAt_7 ?_
  refine wp_istore_n dX11_freeAt_8 (Nat.le_of_ble_eq_true rfl) rfl ?_
  change WP G mX11_freeAt _ _ _ _ h N 9 [some (.ref (cB G + 169)), some (JV (c : Int)), some (JV d), some (JV ((S 1 c 0) - 1))] []
  have w3 := w.2.2.1 c hc
  obtain ⟨k, ek⟩ : ∃ k : Nat, S 1 c 0 = (k : Int) := ⟨(S 1 c 0).toNat, by omega⟩
  rw [ek]
  rw [show ((k : Int)).toNat = k from Int.toNat_natCast k]
  exact l_freeAt P r w hc hd k (by omega) ⟨rfl, rfl, rfl⟩

theorem m_worksOn (P : MP G N M L z h) (r : RS S M) (w : WF S) {c d : Nat} (hc : c < 4) (hd : d ≤ 1000000) : CT G mX11_worksOn [.ref (cB G + 169), JV (c : Int), JV (d : Int)] h N 0 0 (PV (JV (bI (wkS S c d))) h N) := by
  refine CT_of (by decide +kernel) rfl (by simp [Value.category]) (Nat.le_of_ble_eq_true rfl) ?_
  change WP G mX11_worksOn _ noX _ _ h N 0 [some (.ref (cB G + 169)), some (JV (c : Int)), some (JV (d : Int))] []
  have w1 := w.1 c hc
  have w3 := w.2.2.1 c hc
  have p7 : (S 0 c 0).toNat / 2 ^ ((d : Int) % 7).toNat ≤ 127 := Nat.le_trans (Nat.div_le_self _ _) (by omega)
  have p8 : (0 : Int) ≤ (((S 0 c 0).toNat / 2 ^ ((d : Int) % 7).toNat : Nat) : Int) := Int.natCast_nonneg _
  have p9 : (((S 0 c 0).toNat / 2 ^ ((d : Int) % 7).toNat : Nat) : Int) ≤ 127 := Int.ofNat_le.mpr p7
  have fb := frA_r (f := fun k => M 3 c k) (d := (d : Int)) (S 1 c 0).toNat
  refine wp_aload_n dX11_worksOn_0 rfl ?_
  refine wp_get fkX11_7 dX11_worksOn_1 (P.s0 r) rfl ?_
  refine wp_iload_n dX11_worksOn_4 rfl ?_
  refine wp_iaload dX11_worksOn_5 (P.s1 r) (by omega) (by omega) (by omega) ?_
  change WP G mX11_worksOn _ _ _ _ h N 6 [some (.ref (cB G + 169)), some (JV (c : Int)), some (JV (d : Int))] [JV (S 0 c 0)]
  refine wp_iload_n dX11_worksOn_6 rfl ?_
  refine wp_bipush dX11_worksOn_7 rfl ?_
  refine wp_irem dX11_worksOn_9 ⟨by omega, by omega⟩ (by omega) ⟨by omega, by omega⟩ (by omega) ?_
  refine wp_ishr dX11_worksOn_10 (by omega) (by omega) (by omega) (by omega) ?_
  refine wp_iconst dX11_worksOn_11 ?_
  refine wp_and1 dX11_worksOn_12 (by omega) (by omega) ?_
  refine wp_if_eq 30 dX11_worksOn_13 (by decide) ⟨by omega, by omega⟩ (fun c_13 => ?_) (fun c_13 => ?_)
  · refine wp_iconst dX11_worksOn_30 ?_
    refine wp_zret dX11_worksOn_31 rfl (by omega) ?_
    refine ⟨?_, rfl, rfl⟩
    rw [bI_f (Bool.eq_false_iff.mpr fun q => by have q := (wk_m r w hc).mp q; omega)]
  · refine wp_aload_n dX11_worksOn_16 rfl ?_
    refine wp_iload_n dX11_worksOn_17 rfl ?_
    refine wp_iload_n dX11_worksOn_18 rfl ?_
    refine wp_v2p (m_freeAt (N := N) P r w (c := c) (d := (d : Int)) hc ⟨by omega, by omega⟩) cvX11_102 dX11_worksOn_19 ⟨Nat.le_of_ble_eq_true rfl, Nat.le_of_ble_eq_true rfl⟩ (Nat.le_of_ble_eq_true rfl) (P.s0 r) rfl rfl ?_
    refine wp_iconst dX11_worksOn_22 ?_
    refine wp_icmp_ne 30 dX11_worksOn_23 (by decide) ⟨by omega, by omega⟩ ⟨by omega, by omega⟩ (fun c_23 => ?_) (fun c_23 => ?_)
    · refine wp_iconst dX11_worksOn_30 ?_
      refine wp_zret dX11_worksOn_31 rfl (by omega) ?_
      refine ⟨?_, rfl, rfl⟩
      rw [bI_f (Bool.eq_false_iff.mpr fun q => by have q := (wk_m r w hc).mp q; omega)]
    · refine wp_iconst dX11_worksOn_26 ?_
      refine wp_goto 31 dX11_worksOn_27 (by decide) ?_
      refine wp_zret dX11_worksOn_31 rfl (by omega) ?_
      refine ⟨?_, rfl, rfl⟩
      rw [bI_t ((wk_m r w hc).mpr ⟨c_13, c_23⟩)]

theorem l_from {Q : PQ} {X : PX} {k9 n9 : Nat} (P : MP G N M L z h) (r : RS S M) (w : WF S) {t y : Nat} {d0 : Int} (ht : t < 24) (hok : (S 5 t 0).toNat = 0 ∨ wkS S (S 6 t 0).toNat y = true) (hy : y ≤ 100000) : ∀ (m : Nat) (b : Nat), (y - b = m) → (b ≤ y) → (∀ x, b ≤ x → x < y → ¬ wkS S (S 6 t 0).toNat x = true) → ((S 5 t 0).toNat = 0 → b = y) → (Q (some (JV (y : Int))) h N) → WP G mX11_from Q X k9 n9 h N 2 [some (.ref (cB G + 169)), some (JV (t : Int)), some (JV d0), some (JV (b : Int))] [] := by
  intro m
  induction m with
  | zero =>
    intro b hm hb hn h0 kk
    have wt := w.task ht
    have hb : b = y := by omega
    subst hb
    refine wp_aload_n dX11_from_2 rfl ?_
    refine wp_get fkX11_27 dX11_from_3 (P.s0 r) rfl ?_
    refine wp_iload_n dX11_from_6 rfl ?_
    refine wp_iaload dX11_from_7 (P.s7 r) (by omega) (by omega) (by omega) ?_
    change WP G mX11_from _ _ _ _ h N 8 [some (.ref (cB G + 169)), some (JV (t : Int)), some (JV d0), some (JV (b : Int))] [JV (S 5 t 0)]
    refine wp_if_le 31 dX11_from_8 (by decide) ⟨by omega, by omega⟩ (fun c_8 => ?_) (fun c_8 => ?_)
    · refine wp_iload_n dX11_from_31 rfl ?_
      refine wp_iret dX11_from_32 rfl ?_
      exact kk
    · refine wp_aload_n dX11_from_11 rfl ?_
      refine wp_aload_n dX11_from_12 rfl ?_
      refine wp_get fkX11_30 dX11_from_13 (P.s0 r) rfl ?_
      refine wp_iload_n dX11_from_16 rfl ?_
      refine wp_iaload dX11_from_17 (P.s8 r) (by omega) (by omega) (by omega) ?_
      change WP G mX11_from _ _ _ _ h N 18 [some (.ref (cB G + 169)), some (JV (t : Int)), some (JV d0), some (JV (b : Int))] [JV (S 6 t 0), .ref (cB G + 169)]
      refine wp_iload_n dX11_from_18 rfl ?_
      have won_19 := m_worksOn (N := N) (G := G) P r w (c := (S 6 t 0).toNat) (d := b) (by omega) (by omega)
      rw [show (((S 6 t 0).toNat : Nat) : Int) = S 6 t 0 by omega] at won_19
      refine wp_v2p won_19 cvX11_106 dX11_from_19 ⟨Nat.le_of_ble_eq_true rfl, Nat.le_of_ble_eq_true rfl⟩ (Nat.le_of_ble_eq_true rfl) (P.s0 r) rfl rfl ?_
      refine wp_if_ne 31 dX11_from_22 (by decide) (bI_r _) (fun c_22 => ?_) (fun c_22 => ?_)
      · refine wp_iload_n dX11_from_31 rfl ?_
        refine wp_iret dX11_from_32 rfl ?_
        exact kk
      · exact absurd (bI_eq c_22) (by rcases hok with q | q; omega; rw [q]; decide)
  | succ m ih =>
    intro b hm hb hn h0 kk
    have wt := w.task ht
    have hl : ¬ (S 5 t 0).toNat = 0 := fun q => by have := h0 q; omega
    have hnb := hn b (Nat.le_refl _) (by omega)
    refine wp_aload_n dX11_from_2 rfl ?_
    refine wp_get fkX11_27 dX11_from_3 (P.s0 r) rfl ?_
    refine wp_iload_n dX11_from_6 rfl ?_
    refine wp_iaload dX11_from_7 (P.s7 r) (by omega) (by omega) (by omega) ?_
    change WP G mX11_from _ _ _ _ h N 8 [some (.ref (cB G + 169)), some (JV (t : Int)), some (JV d0), some (JV (b : Int))] [JV (S 5 t 0)]
    refine wp_if_le 31 dX11_from_8 (by decide) ⟨by omega, by omega⟩ (fun c_8 => ?_) (fun c_8 => ?_)
    · exact absurd c_8 (by omega)
    · refine wp_aload_n dX11_from_11 rfl ?_
      refine wp_aload_n dX11_from_12 rfl ?_
      refine wp_get fkX11_30 dX11_from_13 (P.s0 r) rfl ?_
      refine wp_iload_n dX11_from_16 rfl ?_
      refine wp_iaload dX11_from_17 (P.s8 r) (by omega) (by omega) (by omega) ?_
      change WP G mX11_from _ _ _ _ h N 18 [some (.ref (cB G + 169)), some (JV (t : Int)), some (JV d0), some (JV (b : Int))] [JV (S 6 t 0), .ref (cB G + 169)]
      refine wp_iload_n dX11_from_18 rfl ?_
      have won_19 := m_worksOn (N := N) (G := G) P r w (c := (S 6 t 0).toNat) (d := b) (by omega) (by omega)
      rw [show (((S 6 t 0).toNat : Nat) : Int) = S 6 t 0 by omega] at won_19
      refine wp_v2p won_19 cvX11_106 dX11_from_19 ⟨Nat.le_of_ble_eq_true rfl, Nat.le_of_ble_eq_true rfl⟩ (Nat.le_of_ble_eq_true rfl) (P.s0 r) rfl rfl ?_
      refine wp_if_ne 31 dX11_from_22 (by decide) (bI_r _) (fun c_22 => ?_) (fun c_22 => ?_)
      · exact absurd (bI_ne c_22) hnb
      · refine wp_iinc dX11_from_25 rfl (Nat.le_of_ble_eq_true rfl) rfl ?_
        change WP G mX11_from _ _ _ _ h N 28 [some (.ref (cB G + 169)), some (JV (t : Int)), some (JV d0), some (JV ((b : Int) + 1))] []
        refine wp_goto 2 dX11_from_28 (by decide) ?_
        exact ih (b + 1) (by omega) (by omega) (fun x h1 h2 => hn x (by omega) h2) (fun q => absurd q hl) kk

theorem m_from (P : MP G N M L z h) (r : RS S M) (w : WF S) {t d y : Nat} (ht : t < 24) (hq : LBq (wkS S (S 6 t 0).toNat) (S 5 t 0).toNat (fun b => d ≤ b) y) (hy : y < 20000) : CT G mX11_from [.ref (cB G + 169), JV (t : Int), JV (d : Int)] h N 0 0 (PV (JV (y : Int)) h N) := by
  refine CT_of (by decide +kernel) rfl (by simp [Value.category]) (Nat.le_of_ble_eq_true rfl) ?_
  change WP G mX11_from _ noX _ _ h N 0 [some (.ref (cB G + 169)), some (JV (t : Int)), some (JV (d : Int)), none] []
  refine wp_iload_n dX11_from_0 rfl ?_
  refine wp_istore_n dX11_from_1 (Nat.le_of_ble_eq_true rfl) rfl ?_
  change WP G mX11_from _ _ _ _ h N 2 [some (.ref (cB G + 169)), some (JV (t : Int)), some (JV (d : Int)), some (JV (d : Int))] []
  have hdy : d ≤ y := (hq.2 y (by omega) hq.1).mp (Nat.le_refl _)
  refine l_from P r w ht hq.1 (by omega) _ d rfl hdy (fun x h1 h2 h3 => ?_) (fun q => ?_) ⟨rfl, rfl, rfl⟩
  · have := (hq.2 x (by omega) (Or.inr h3)).mpr h1
    omega
  · have := (hq.2 d (by omega) (Or.inl q)).mpr (Nat.le_refl _)
    omega

theorem lm_endOf {Q : PQ} {X : PX} {k9 n9 : Nat} (P : MP G N M L z h) (r : RS S M) (w : WF S) {t b e : Nat} (ht : t < 24) (he : e < 19000) (hE : ∀ y, y < 20000 → (e ≤ y ↔ b ≤ y ∧ Cn (wkS S (S 6 t 0).toNat) b + (S 5 t 0).toNat ≤ Cn (wkS S (S 6 t 0).toNat) y)) : ∀ (m : Nat) (d l : Nat), (e - d = m) → (d ≤ e) → (b ≤ d) → (Cn (wkS S (S 6 t 0).toNat) d + l = Cn (wkS S (S 6 t 0).toNat) b + (S 5 t 0).toNat) → (l ≤ 20) → (Q (some (JV (e : Int))) h N) → WP G mX11_endOf Q X k9 n9 h N 10 [some (.ref (cB G + 169)), some (JV (t : Int)), some (JV (b : Int)), some (JV (d : Int)), some (JV (l : Int))] [] := by
  intro m
  induction m with
  | zero =>
    intro d l hm hde hbd hc hl9 kk
    have wt := w.task ht
    have hd : d = e := by omega
    subst hd
    have hl : l = 0 := by have := ((hE d (by omega)).mp (Nat.le_refl _)).2; omega
    refine wp_iload dX11_endOf_10 rfl ?_
    refine wp_if_le 45 dX11_endOf_12 (by decide) ⟨by omega, by omega⟩ (fun c_12 => ?_) (fun c_12 => ?_)
    · refine wp_iload_n dX11_endOf_45 rfl ?_
      refine wp_iret dX11_endOf_46 rfl ?_
      exact kk
    · exact absurd c_12 (by omega)
  | succ m ih =>
    intro d l hm hde hbd hc hl9 kk
    have wt := w.task ht
    have hl : l ≠ 0 := fun q => by have := (hE d (by omega)).mpr ⟨hbd, by omega⟩; omega
    refine wp_iload dX11_endOf_10 rfl ?_
    refine wp_if_le 45 dX11_endOf_12 (by decide) ⟨by omega, by omega⟩ (fun c_12 => ?_) (fun c_12 => ?_)
    · exact absurd c_12 (by omega)
    · refine wp_iload dX11_endOf_15 rfl ?_
      refine wp_aload_n dX11_endOf_17 rfl ?_
      refine wp_aload_n dX11_endOf_18 rfl ?_
      refine wp_get fkX11_30 dX11_endOf_19 (P.s0 r) rfl ?_
      refine wp_iload_n dX11_endOf_22 rfl ?_
      refine wp_iaload dX11_endOf_23 (P.s8 r) (by omega) (by omega) (by omega) ?_
      change WP G mX11_endOf _ _ _ _ h N 24 [some (.ref (cB G + 169)), some (JV (t : Int)), some (JV (b : Int)), some (JV (d : Int)), some (JV (l : Int))] [JV (S 6 t 0), .ref (cB G + 169), JV (l : Int)]
      refine wp_iload_n dX11_endOf_24 rfl ?_
      have won_25 := m_worksOn (N := N) (G := G) P r w (c := (S 6 t 0).toNat) (d := d) (by omega) (by omega)
      rw [show (((S 6 t 0).toNat : Nat) : Int) = S 6 t 0 by omega] at won_25
      refine wp_v2p won_25 cvX11_106 dX11_endOf_25 ⟨Nat.le_of_ble_eq_true rfl, Nat.le_of_ble_eq_true rfl⟩ (Nat.le_of_ble_eq_true rfl) (P.s0 r) rfl rfl ?_
      refine wp_if_eq 35 dX11_endOf_28 (by decide) (bI_r _) (fun c_28 => ?_) (fun c_28 => ?_)
      · have cn := Cn_f (wk := wkS S (S 6 t 0).toNat) (n := d) (fun q => by rw [q] at c_28; cases c_28)
        refine wp_iconst dX11_endOf_35 ?_
        refine wp_isub dX11_endOf_36 ?_
        refine wp_istore dX11_endOf_37 (Nat.le_of_ble_eq_true rfl) rfl ?_
        change WP G mX11_endOf _ _ _ _ h N 39 [some (.ref (cB G + 169)), some (JV (t : Int)), some (JV (b : Int)), some (JV (d : Int)), some (JV ((l : Int) - 0))] []
        refine wp_iinc dX11_endOf_39 rfl (Nat.le_of_ble_eq_true rfl) rfl ?_
        change WP G mX11_endOf _ _ _ _ h N 42 [some (.ref (cB G + 169)), some (JV (t : Int)), some (JV (b : Int)), some (JV ((d : Int) + 1)), some (JV ((l : Int) - 0))] []
        refine wp_goto 10 dX11_endOf_42 (by decide) ?_
        rw [show (l : Int) - 0 = (l : Int) by omega]
        exact ih (d + 1) l (by omega) (by omega) (by omega) (by omega) hl9 kk
      · have cn := Cn_t (bI_ne c_28)
        refine wp_iconst dX11_endOf_31 ?_
        refine wp_goto 36 dX11_endOf_32 (by decide) ?_
        refine wp_isub dX11_endOf_36 ?_
        refine wp_istore dX11_endOf_37 (Nat.le_of_ble_eq_true rfl) rfl ?_
        change WP G mX11_endOf _ _ _ _ h N 39 [some (.ref (cB G + 169)), some (JV (t : Int)), some (JV (b : Int)), some (JV (d : Int)), some (JV ((l : Int) - 1))] []
        refine wp_iinc dX11_endOf_39 rfl (Nat.le_of_ble_eq_true rfl) rfl ?_
        change WP G mX11_endOf _ _ _ _ h N 42 [some (.ref (cB G + 169)), some (JV (t : Int)), some (JV (b : Int)), some (JV ((d : Int) + 1)), some (JV ((l : Int) - 1))] []
        refine wp_goto 10 dX11_endOf_42 (by decide) ?_
        rw [show (l : Int) - 1 = ((l - 1 : Nat) : Int) by omega]
        exact ih (d + 1) (l - 1) (by omega) (by omega) (by omega) (by omega) (by omega) kk

theorem m_endOf (P : MP G N M L z h) (r : RS S M) (w : WF S) {t b : Nat} (ht : t < 24) (he : EN (wkS S (S 6 t 0).toNat) (S 5 t 0).toNat b < 19000) : CT G mX11_endOf [.ref (cB G + 169), JV (t : Int), JV (b : Int)] h N 0 0 (PV (JV ((EN (wkS S (S 6 t 0).toNat) (S 5 t 0).toNat b : Nat) : Int)) h N) := by
  refine CT_of (by decide +kernel) rfl (by simp [Value.category]) (Nat.le_of_ble_eq_true rfl) ?_
  change WP G mX11_endOf _ noX _ _ h N 0 [some (.ref (cB G + 169)), some (JV (t : Int)), some (JV (b : Int)), none, none] []
  have wt := w.task ht
  refine wp_iload_n dX11_endOf_0 rfl ?_
  refine wp_istore_n dX11_endOf_1 (Nat.le_of_ble_eq_true rfl) rfl ?_
  change WP G mX11_endOf _ _ _ _ h N 2 [some (.ref (cB G + 169)), some (JV (t : Int)), some (JV (b : Int)), some (JV (b : Int)), none] []
  refine wp_aload_n dX11_endOf_2 rfl ?_
  refine wp_get fkX11_27 dX11_endOf_3 (P.s0 r) rfl ?_
  refine wp_iload_n dX11_endOf_6 rfl ?_
  refine wp_iaload dX11_endOf_7 (P.s7 r) (by omega) (by omega) (by omega) ?_
  change WP G mX11_endOf _ _ _ _ h N 8 [some (.ref (cB G + 169)), some (JV (t : Int)), some (JV (b : Int)), some (JV (b : Int)), none] [JV (S 5 t 0)]
  refine wp_istore dX11_endOf_8 (Nat.le_of_ble_eq_true rfl) rfl ?_
  change WP G mX11_endOf _ _ _ _ h N 10 [some (.ref (cB G + 169)), some (JV (t : Int)), some (JV (b : Int)), some (JV (b : Int)), some (JV (S 5 t 0))] []
  rw [show S 5 t 0 = (((S 5 t 0).toNat : Nat) : Int) by omega]
  have g := EN_ge (wk := wkS S (S 6 t 0).toNat) (l := (S 5 t 0).toNat) (b := b)
  refine lm_endOf (b := b) (e := EN (wkS S (S 6 t 0).toNat) (S 5 t 0).toNat b) P r w ht he (fun y hy => EN_le hy) _ b (S 5 t 0).toNat rfl g (Nat.le_refl _) rfl (by omega) ⟨?_, rfl, rfl⟩
  rfl

theorem frm_ex {wk : Nat → Bool} (k : WKP wk) (l : Nat) {d : Nat} (hd : d ≤ 4900) : ∃ y, y ≤ max d 1000 + 6 ∧ LBq wk l (fun b => d ≤ b) y := by
  obtain ⟨y, _, y2, y3⟩ := fbeg_LB k (l := l) (fr := (d : Int)) (ef := 0) (by omega) (by omega)
  exact ⟨y, by omega, y3.congr fun b _ _ => ⟨fun q => by have := q.1; omega, fun q => by
    show (d : Int) ≤ (b : Int) ∧ (0 : Int) ≤ (EN wk l b : Int)
    omega⟩⟩
def IsPl (G : Ctx) (h : AH) (a : Nat) (b e : Nat → Int) : Prop := h a = some (eQ G 4 2 (fun i => if i < 2 then some (a + 1 + i) else none)) ∧ h (a + 1 + 0) = some (eI G 24 b) ∧ h (a + 1 + 1) = some (eI G 24 e)
variable {b e : Nat → Int} {a : Nat}
theorem FDk_t {t k x : Nat} (h : lT S k = (t : Int)) : FDk S b e t (k + 1) x ↔ FDk S b e t k x ∧ bAsk b e (lF S k) (lK S k) (lG S k) ≤ (x : Int) ∧ eAsk e (lF S k) (lK S k) (lG S k) ≤ (EN (wkS S (S 6 t 0).toNat) (S 5 t 0).toNat x : Int) := by
  unfold FDk
  constructor
  · intro q
    exact ⟨⟨q.1, fun j h1 h2 => q.2 j (by omega) h2⟩, q.2 k (by omega) h⟩
  · intro q
    refine ⟨q.1.1, fun j h1 h2 => ?_⟩
    by_cases hj : j = k
    · rw [hj]; exact q.2
    · exact q.1.2 j (by omega) h2
theorem FDk_f {t k x : Nat} (h : ¬ lT S k = (t : Int)) : FDk S b e t (k + 1) x ↔ FDk S b e t k x := by
  unfold FDk
  refine and_congr_right fun _ => ⟨fun q j h1 h2 => q j (by omega) h2, fun q j h1 h2 => ?_⟩
  by_cases hj : j = k
  · exact absurd (hj ▸ h2) h
  · exact q j (by omega) h2
theorem l_ending {Q : PQ} {X : PX} {k9 n9 : Nat} (P : MP G N M L z h) (r : RS S M) (w : WF S) {t y d : Nat} {en : Int} (ht : t < 24) (hq : LBq (wkS S (S 6 t 0).toNat) (S 5 t 0).toNat (fun x => d ≤ x ∧ en ≤ (EN (wkS S (S 6 t 0).toNat) (S 5 t 0).toNat x : Int)) y) (hy : y ≤ 4890) (hen : -1000000 ≤ en ∧ en ≤ 1000000) : ∀ (m : Nat) (b : Nat), (y - b ≤ m) → (b ≤ y) → (d ≤ b) → ((S 5 t 0).toNat = 0 ∨ wkS S (S 6 t 0).toNat b = true) → (Q (some (JV (y : Int))) h N) → WP G mX11_ending Q X k9 n9 h N 8 [some (.ref (cB G + 169)), some (JV (t : Int)), some (JV (d : Int)), some (JV en), some (JV (b : Int))] [] := by
  intro m
  induction m with
  | zero =>
    intro b hm hby hdb hok kk
    have wt := w.task ht
    have k9 := wkS_WK w (c := (S 6 t 0).toNat) (by omega)
    have eb := EN_r k9 (l := (S 5 t 0).toNat) (b := b) (by omega) (by omega)
    have ye := ((hq.2 y (by omega) hq.1).mp (Nat.le_refl _)).2
    have hby : b = y := by omega
    subst hby
    refine wp_aload_n dX11_ending_8 rfl ?_
    refine wp_iload_n dX11_ending_9 rfl ?_
    refine wp_iload dX11_ending_10 rfl ?_
    refine wp_v2p (m_endOf (N := N) P r w (t := t) (b := b) ht (by omega)) cvX11_113 dX11_ending_12 ⟨Nat.le_of_ble_eq_true rfl, Nat.le_of_ble_eq_true rfl⟩ (Nat.le_of_ble_eq_true rfl) (P.s0 r) rfl rfl ?_
    refine wp_iload_n dX11_ending_15 rfl ?_
    refine wp_icmp_ge 33 dX11_ending_16 (by decide) ⟨by omega, by omega⟩ ⟨by omega, by omega⟩ (fun c_16 => ?_) (fun c_16 => ?_)
    · refine wp_iload dX11_ending_33 rfl ?_
      refine wp_iret dX11_ending_35 rfl ?_
      exact kk
    · exact absurd c_16 (by omega)
  | succ m ih =>
    intro b hm hby hdb hok kk
    have wt := w.task ht
    have k9 := wkS_WK w (c := (S 6 t 0).toNat) (by omega)
    have eb := EN_r k9 (l := (S 5 t 0).toNat) (b := b) (by omega) (by omega)
    have ye := ((hq.2 y (by omega) hq.1).mp (Nat.le_refl _)).2
    refine wp_aload_n dX11_ending_8 rfl ?_
    refine wp_iload_n dX11_ending_9 rfl ?_
    refine wp_iload dX11_ending_10 rfl ?_
    refine wp_v2p (m_endOf (N := N) P r w (t := t) (b := b) ht (by omega)) cvX11_113 dX11_ending_12 ⟨Nat.le_of_ble_eq_true rfl, Nat.le_of_ble_eq_true rfl⟩ (Nat.le_of_ble_eq_true rfl) (P.s0 r) rfl rfl ?_
    refine wp_iload_n dX11_ending_15 rfl ?_
    refine wp_icmp_ge 33 dX11_ending_16 (by decide) ⟨by omega, by omega⟩ ⟨by omega, by omega⟩ (fun c_16 => ?_) (fun c_16 => ?_)
    · have hby : b = y := by have := (hq.2 b (by omega) hok).mpr ⟨hdb, by omega⟩; omega
      subst hby
      refine wp_iload dX11_ending_33 rfl ?_
      refine wp_iret dX11_ending_35 rfl ?_
      exact kk
    · have hbn : b ≠ y := fun q => by subst q; omega
      refine wp_aload_n dX11_ending_19 rfl ?_
      refine wp_iload_n dX11_ending_20 rfl ?_
      refine wp_iload dX11_ending_21 rfl ?_
      refine wp_iconst dX11_ending_23 ?_
      refine wp_iadd dX11_ending_24 ?_
      obtain ⟨y1, z1, z2⟩ := frm_ex k9 (S 5 t 0).toNat (d := b + 1) (by omega)
      have z3 : y1 ≤ y := (z2.2 y (by omega) hq.1).mpr (by omega)
      have z4 := (z2.2 y1 (by omega) z2.1).mp (Nat.le_refl _)
      rw [show (b : Int) + 1 = ((b + 1 : Nat) : Int) by omega]
      refine wp_v2p (m_from (N := N) P r w (t := t) (d := b + 1) (y := y1) ht z2 (by omega)) cvX11_110 dX11_ending_25 ⟨Nat.le_of_ble_eq_true rfl, Nat.le_of_ble_eq_true rfl⟩ (Nat.le_of_ble_eq_true rfl) (P.s0 r) rfl rfl ?_
      refine wp_istore dX11_ending_28 (Nat.le_of_ble_eq_true rfl) rfl ?_
      change WP G mX11_ending _ _ _ _ h N 30 [some (.ref (cB G + 169)), some (JV (t : Int)), some (JV (d : Int)), some (JV en), some (JV (y1 : Int))] []
      refine wp_goto 8 dX11_ending_30 (by decide) ?_
      exact ih y1 (by omega) (by omega) (by omega) z2.1 kk

theorem m_ending (P : MP G N M L z h) (r : RS S M) (w : WF S) {t y d : Nat} {en : Int} (ht : t < 24) (hq : LBq (wkS S (S 6 t 0).toNat) (S 5 t 0).toNat (fun x => d ≤ x ∧ en ≤ (EN (wkS S (S 6 t 0).toNat) (S 5 t 0).toNat x : Int)) y) (hy : y ≤ 4890) (hen : -1000000 ≤ en ∧ en ≤ 1000000) : CT G mX11_ending [.ref (cB G + 169), JV (t : Int), JV (d : Int), JV en] h N 0 0 (PV (JV (y : Int)) h N) := by
  refine CT_of (by decide +kernel) rfl (by simp [Value.category]) (Nat.le_of_ble_eq_true rfl) ?_
  change WP G mX11_ending _ noX _ _ h N 0 [some (.ref (cB G + 169)), some (JV (t : Int)), some (JV (d : Int)), some (JV en), none] []
  refine wp_aload_n dX11_ending_0 rfl ?_
  refine wp_iload_n dX11_ending_1 rfl ?_
  refine wp_iload_n dX11_ending_2 rfl ?_
  have k9 := wkS_WK w (c := (S 6 t 0).toNat) (by have := w.task ht; omega)
  have yd := ((hq.2 y (by omega) hq.1).mp (Nat.le_refl _)).1
  obtain ⟨y1, z1, z2⟩ := frm_ex k9 (S 5 t 0).toNat (d := d) (by omega)
  have z3 : y1 ≤ y := (z2.2 y (by omega) hq.1).mpr yd
  have z4 := (z2.2 y1 (by omega) z2.1).mp (Nat.le_refl _)
  refine wp_v2p (m_from (N := N) P r w (t := t) (d := d) (y := y1) ht z2 (by omega)) cvX11_110 dX11_ending_3 ⟨Nat.le_of_ble_eq_true rfl, Nat.le_of_ble_eq_true rfl⟩ (Nat.le_of_ble_eq_true rfl) (P.s0 r) rfl rfl ?_
  refine wp_istore dX11_ending_6 (Nat.le_of_ble_eq_true rfl) rfl ?_
  change WP G mX11_ending _ _ _ _ h N 8 [some (.ref (cB G + 169)), some (JV (t : Int)), some (JV (d : Int)), some (JV en), some (JV (y1 : Int))] []
  exact l_ending P r w ht hq hy hen _ y1 (Nat.le_refl _) z3 z4 z2.1 ⟨rfl, rfl, rfl⟩

theorem m_byLink (P : MP G N M L z h) (r : RS S M) (w : WF S) {t y d k : Nat} (pl : IsPl G h a b e) (ht : t < 24) (hk : (k : Int) < S 14 0 0) (htk : S 20 (S 18 k 0).toNat 0 = (t : Int)) (hpb : (-1 ≤ b (S 19 (S 18 k 0).toNat 0).toNat ∧ b (S 19 (S 18 k 0).toNat 0).toNat ≤ 5000) ∧ -1 ≤ e (S 19 (S 18 k 0).toNat 0).toNat ∧ e (S 19 (S 18 k 0).toNat 0).toNat ≤ 5000) (hq : LBq (wkS S (S 6 t 0).toNat) (S 5 t 0).toNat (fun x => d ≤ x ∧ bAsk b e (S 19 (S 18 k 0).toNat 0) (S 21 (S 18 k 0).toNat 0) (S 22 (S 18 k 0).toNat 0) ≤ (x : Int) ∧ eAsk e (S 19 (S 18 k 0).toNat 0) (S 21 (S 18 k 0).toNat 0) (S 22 (S 18 k 0).toNat 0) ≤ (EN (wkS S (S 6 t 0).toNat) (S 5 t 0).toNat x : Int)) y) (hy : y ≤ 4890) : CT G mX11_byLink [.ref (cB G + 169), JV (k : Int), .ref a, JV (d : Int)] h N 0 0 (PV (JV (y : Int)) h N) := by
  refine CT_of (by decide +kernel) rfl (by simp [Value.category]) (Nat.le_of_ble_eq_true rfl) ?_
  change WP G mX11_byLink _ noX _ _ h N 0 [some (.ref (cB G + 169)), some (JV (k : Int)), some (.ref a), some (JV (d : Int)), none, none] []
  have wL := w.nL
  have wk9 := w.at (i := k) (by omega)
  refine wp_aload_n dX11_byLink_0 rfl ?_
  refine wp_get fkX11_49 dX11_byLink_1 (P.s0 r) rfl ?_
  refine wp_iload_n dX11_byLink_4 rfl ?_
  refine wp_aaload dX11_byLink_5 P.qL rfl rfl (by omega) (by omega) (by omega) (if_pos (by omega)) ?_
  change WP G mX11_byLink _ _ _ _ h N 6 [some (.ref (cB G + 169)), some (JV (k : Int)), some (.ref a), some (JV (d : Int)), none, none] [.ref (L k)]
  refine wp_iconst dX11_byLink_6 ?_
  refine wp_iaload dX11_byLink_7 (P.rL (i := k) (by omega)) (by omega) (by omega) (by omega) ?_
  change WP G mX11_byLink _ _ _ _ h N 8 [some (.ref (cB G + 169)), some (JV (k : Int)), some (.ref a), some (JV (d : Int)), none, none] [JV (M 15 k 0)]
  rw [r.lF hk]
  refine wp_istore dX11_byLink_8 (Nat.le_of_ble_eq_true rfl) rfl ?_
  change WP G mX11_byLink _ _ _ _ h N 10 [some (.ref (cB G + 169)), some (JV (k : Int)), some (.ref a), some (JV (d : Int)), some (JV (S 19 (S 18 k 0).toNat 0)), none] []
  refine wp_aload_n dX11_byLink_10 rfl ?_
  refine wp_get fkX11_49 dX11_byLink_11 (P.s0 r) rfl ?_
  refine wp_iload_n dX11_byLink_14 rfl ?_
  refine wp_aaload dX11_byLink_15 P.qL rfl rfl (by omega) (by omega) (by omega) (if_pos (by omega)) ?_
  change WP G mX11_byLink _ _ _ _ h N 16 [some (.ref (cB G + 169)), some (JV (k : Int)), some (.ref a), some (JV (d : Int)), some (JV (S 19 (S 18 k 0).toNat 0)), none] [.ref (L k)]
  refine wp_iconst dX11_byLink_16 ?_
  refine wp_iaload dX11_byLink_17 (P.rL (i := k) (by omega)) (by omega) (by omega) (by omega) ?_
  change WP G mX11_byLink _ _ _ _ h N 18 [some (.ref (cB G + 169)), some (JV (k : Int)), some (.ref a), some (JV (d : Int)), some (JV (S 19 (S 18 k 0).toNat 0)), none] [JV (M 15 k 1)]
  rw [r.lT hk]
  rw [htk]
  have yd := (hq.2 y (by omega) hq.1).mp (Nat.le_refl _)
  refine wp_istore dX11_byLink_18 (Nat.le_of_ble_eq_true rfl) rfl ?_
  change WP G mX11_byLink _ _ _ _ h N 20 [some (.ref (cB G + 169)), some (JV (k : Int)), some (.ref a), some (JV (d : Int)), some (JV (S 19 (S 18 k 0).toNat 0)), some (JV (t : Int))] []
  refine wp_aload_n dX11_byLink_20 rfl ?_
  refine wp_get fkX11_49 dX11_byLink_21 (P.s0 r) rfl ?_
  refine wp_iload_n dX11_byLink_24 rfl ?_
  refine wp_aaload dX11_byLink_25 P.qL rfl rfl (by omega) (by omega) (by omega) (if_pos (by omega)) ?_
  change WP G mX11_byLink _ _ _ _ h N 26 [some (.ref (cB G + 169)), some (JV (k : Int)), some (.ref a), some (JV (d : Int)), some (JV (S 19 (S 18 k 0).toNat 0)), some (JV (t : Int))] [.ref (L k)]
  refine wp_iconst dX11_byLink_26 ?_
  refine wp_iaload dX11_byLink_27 (P.rL (i := k) (by omega)) (by omega) (by omega) (by omega) ?_
  change WP G mX11_byLink _ _ _ _ h N 28 [some (.ref (cB G + 169)), some (JV (k : Int)), some (.ref a), some (JV (d : Int)), some (JV (S 19 (S 18 k 0).toNat 0)), some (JV (t : Int))] [JV (M 15 k 2)]
  rw [r.lK hk]
  refine wp_if_ne 57 dX11_byLink_28 (by decide) ⟨by omega, by omega⟩ (fun c_28 => ?_) (fun c_28 => ?_)
  · refine wp_aload_n dX11_byLink_57 rfl ?_
    refine wp_get fkX11_49 dX11_byLink_58 (P.s0 r) rfl ?_
    refine wp_iload_n dX11_byLink_61 rfl ?_
    refine wp_aaload dX11_byLink_62 P.qL rfl rfl (by omega) (by omega) (by omega) (if_pos (by omega)) ?_
    change WP G mX11_byLink _ _ _ _ h N 63 [some (.ref (cB G + 169)), some (JV (k : Int)), some (.ref a), some (JV (d : Int)), some (JV (S 19 (S 18 k 0).toNat 0)), some (JV (t : Int))] [.ref (L k)]
    refine wp_iconst dX11_byLink_63 ?_
    refine wp_iaload dX11_byLink_64 (P.rL (i := k) (by omega)) (by omega) (by omega) (by omega) ?_
    change WP G mX11_byLink _ _ _ _ h N 65 [some (.ref (cB G + 169)), some (JV (k : Int)), some (.ref a), some (JV (d : Int)), some (JV (S 19 (S 18 k 0).toNat 0)), some (JV (t : Int))] [JV (M 15 k 2)]
    rw [r.lK hk]
    refine wp_iconst dX11_byLink_65 ?_
    refine wp_icmp_ne 95 dX11_byLink_66 (by decide) ⟨by omega, by omega⟩ ⟨by omega, by omega⟩ (fun c_66 => ?_) (fun c_66 => ?_)
    · refine wp_aload_n dX11_byLink_95 rfl ?_
      refine wp_iload dX11_byLink_96 rfl ?_
      refine wp_iload_n dX11_byLink_98 rfl ?_
      refine wp_aload_n dX11_byLink_99 rfl ?_
      refine wp_iconst dX11_byLink_100 ?_
      refine wp_aaload dX11_byLink_101 pl.1 rfl rfl (by omega) (by omega) (by omega) (if_pos (by omega)) ?_
      change WP G mX11_byLink _ _ _ _ h N 102 [some (.ref (cB G + 169)), some (JV (k : Int)), some (.ref a), some (JV (d : Int)), some (JV (S 19 (S 18 k 0).toNat 0)), some (JV (t : Int))] [.ref (a + 1 + 1), JV (d : Int), JV (t : Int), .ref (cB G + 169)]
      refine wp_iload dX11_byLink_102 rfl ?_
      refine wp_iaload dX11_byLink_104 pl.2.2 (by omega) (by omega) (by omega) ?_
      refine wp_aload_n dX11_byLink_105 rfl ?_
      refine wp_get fkX11_49 dX11_byLink_106 (P.s0 r) rfl ?_
      refine wp_iload_n dX11_byLink_109 rfl ?_
      refine wp_aaload dX11_byLink_110 P.qL rfl rfl (by omega) (by omega) (by omega) (if_pos (by omega)) ?_
      change WP G mX11_byLink _ _ _ _ h N 111 [some (.ref (cB G + 169)), some (JV (k : Int)), some (.ref a), some (JV (d : Int)), some (JV (S 19 (S 18 k 0).toNat 0)), some (JV (t : Int))] [.ref (L k), JV (e (S 19 (S 18 k 0).toNat 0).toNat), JV (d : Int), JV (t : Int), .ref (cB G + 169)]
      refine wp_iconst dX11_byLink_111 ?_
      refine wp_iaload dX11_byLink_112 (P.rL (i := k) (by omega)) (by omega) (by omega) (by omega) ?_
      change WP G mX11_byLink _ _ _ _ h N 113 [some (.ref (cB G + 169)), some (JV (k : Int)), some (.ref a), some (JV (d : Int)), some (JV (S 19 (S 18 k 0).toNat 0)), some (JV (t : Int))] [JV (M 15 k 3), JV (e (S 19 (S 18 k 0).toNat 0).toNat), JV (d : Int), JV (t : Int), .ref (cB G + 169)]
      rw [r.lG hk]
      refine wp_iadd dX11_byLink_113 ?_
      have k0 : ¬ S 21 (S 18 k 0).toNat 0 = 0 := by omega
      have k1 : ¬ S 21 (S 18 k 0).toNat 0 = 1 := by omega
      have eb : bAsk b e (S 19 (S 18 k 0).toNat 0) (S 21 (S 18 k 0).toNat 0) (S 22 (S 18 k 0).toNat 0) = 0 := by unfold bAsk; rw [if_neg k0, if_neg k1]
      have ea : eAsk e (S 19 (S 18 k 0).toNat 0) (S 21 (S 18 k 0).toNat 0) (S 22 (S 18 k 0).toNat 0) = (e (S 19 (S 18 k 0).toNat 0).toNat) + (S 22 (S 18 k 0).toNat 0) := by unfold eAsk; rw [if_neg k0, if_neg k1]
      have hq2 : LBq (wkS S (S 6 t 0).toNat) (S 5 t 0).toNat (fun x => d ≤ x ∧ (e (S 19 (S 18 k 0).toNat 0).toNat) + (S 22 (S 18 k 0).toNat 0) ≤ (EN (wkS S (S 6 t 0).toNat) (S 5 t 0).toNat x : Int)) y := hq.congr fun x _ _ => by
        show (d ≤ x ∧ bAsk b e (S 19 (S 18 k 0).toNat 0) (S 21 (S 18 k 0).toNat 0) (S 22 (S 18 k 0).toNat 0) ≤ (x : Int) ∧ eAsk e (S 19 (S 18 k 0).toNat 0) (S 21 (S 18 k 0).toNat 0) (S 22 (S 18 k 0).toNat 0) ≤ (EN (wkS S (S 6 t 0).toNat) (S 5 t 0).toNat x : Int)) ↔ (d ≤ x ∧ (e (S 19 (S 18 k 0).toNat 0).toNat) + (S 22 (S 18 k 0).toNat 0) ≤ (EN (wkS S (S 6 t 0).toNat) (S 5 t 0).toNat x : Int))
        omega
      refine wp_v3p (m_ending (N := N) P r w (t := t) (d := d) (y := y) (en := (e (S 19 (S 18 k 0).toNat 0).toNat) + (S 22 (S 18 k 0).toNat 0)) ht hq2 hy (by omega)) cvX11_121 dX11_byLink_114 ⟨Nat.le_of_ble_eq_true rfl, Nat.le_of_ble_eq_true rfl⟩ (Nat.le_of_ble_eq_true rfl) (P.s0 r) rfl rfl ?_
      refine wp_iret dX11_byLink_117 rfl ?_
      exact ⟨rfl, rfl, rfl⟩
    · refine wp_aload_n dX11_byLink_69 rfl ?_
      refine wp_iload dX11_byLink_70 rfl ?_
      refine wp_iload_n dX11_byLink_72 rfl ?_
      refine wp_aload_n dX11_byLink_73 rfl ?_
      refine wp_iconst dX11_byLink_74 ?_
      refine wp_aaload dX11_byLink_75 pl.1 rfl rfl (by omega) (by omega) (by omega) (if_pos (by omega)) ?_
      change WP G mX11_byLink _ _ _ _ h N 76 [some (.ref (cB G + 169)), some (JV (k : Int)), some (.ref a), some (JV (d : Int)), some (JV (S 19 (S 18 k 0).toNat 0)), some (JV (t : Int))] [.ref (a + 1 + 0), JV (d : Int), JV (t : Int), .ref (cB G + 169)]
      refine wp_iload dX11_byLink_76 rfl ?_
      refine wp_iaload dX11_byLink_78 pl.2.1 (by omega) (by omega) (by omega) ?_
      refine wp_aload_n dX11_byLink_79 rfl ?_
      refine wp_get fkX11_49 dX11_byLink_80 (P.s0 r) rfl ?_
      refine wp_iload_n dX11_byLink_83 rfl ?_
      refine wp_aaload dX11_byLink_84 P.qL rfl rfl (by omega) (by omega) (by omega) (if_pos (by omega)) ?_
      change WP G mX11_byLink _ _ _ _ h N 85 [some (.ref (cB G + 169)), some (JV (k : Int)), some (.ref a), some (JV (d : Int)), some (JV (S 19 (S 18 k 0).toNat 0)), some (JV (t : Int))] [.ref (L k), JV (b (S 19 (S 18 k 0).toNat 0).toNat), JV (d : Int), JV (t : Int), .ref (cB G + 169)]
      refine wp_iconst dX11_byLink_85 ?_
      refine wp_iaload dX11_byLink_86 (P.rL (i := k) (by omega)) (by omega) (by omega) (by omega) ?_
      change WP G mX11_byLink _ _ _ _ h N 87 [some (.ref (cB G + 169)), some (JV (k : Int)), some (.ref a), some (JV (d : Int)), some (JV (S 19 (S 18 k 0).toNat 0)), some (JV (t : Int))] [JV (M 15 k 3), JV (b (S 19 (S 18 k 0).toNat 0).toNat), JV (d : Int), JV (t : Int), .ref (cB G + 169)]
      rw [r.lG hk]
      refine wp_iadd dX11_byLink_87 ?_
      refine wp_max dX11_byLink_88 maX11_116 w_max (Nat.le_of_ble_eq_true rfl) (Nat.le_of_ble_eq_true rfl) ⟨by omega, by omega⟩ ⟨by omega, by omega⟩ ?_
      have kz : S 21 (S 18 k 0).toNat 0 = 1 := by omega
      have eb : bAsk b e (S 19 (S 18 k 0).toNat 0) (S 21 (S 18 k 0).toNat 0) (S 22 (S 18 k 0).toNat 0) = b (S 19 (S 18 k 0).toNat 0).toNat + S 22 (S 18 k 0).toNat 0 := by unfold bAsk; rw [if_neg (by omega), if_pos kz]
      have ea : eAsk e (S 19 (S 18 k 0).toNat 0) (S 21 (S 18 k 0).toNat 0) (S 22 (S 18 k 0).toNat 0) = 0 := by unfold eAsk; rw [if_neg (by omega), if_pos kz]
      obtain ⟨d2, ed2⟩ : ∃ d2 : Nat, max (d : Int) ((b (S 19 (S 18 k 0).toNat 0).toNat) + (S 22 (S 18 k 0).toNat 0)) = (d2 : Int) := ⟨(max (d : Int) ((b (S 19 (S 18 k 0).toNat 0).toNat) + (S 22 (S 18 k 0).toNat 0))).toNat, by omega⟩
      rw [ed2]
      have hq2 : LBq (wkS S (S 6 t 0).toNat) (S 5 t 0).toNat (fun x => d2 ≤ x) y := hq.congr fun x _ _ => by
        show (d ≤ x ∧ bAsk b e (S 19 (S 18 k 0).toNat 0) (S 21 (S 18 k 0).toNat 0) (S 22 (S 18 k 0).toNat 0) ≤ (x : Int) ∧ eAsk e (S 19 (S 18 k 0).toNat 0) (S 21 (S 18 k 0).toNat 0) (S 22 (S 18 k 0).toNat 0) ≤ (EN (wkS S (S 6 t 0).toNat) (S 5 t 0).toNat x : Int)) ↔ d2 ≤ x
        omega
      refine wp_v2p (m_from (N := N) P r w (t := t) (d := d2) (y := y) ht hq2 (by omega)) cvX11_110 dX11_byLink_91 ⟨Nat.le_of_ble_eq_true rfl, Nat.le_of_ble_eq_true rfl⟩ (Nat.le_of_ble_eq_true rfl) (P.s0 r) rfl rfl ?_
      refine wp_iret dX11_byLink_94 rfl ?_
      exact ⟨rfl, rfl, rfl⟩
  · refine wp_aload_n dX11_byLink_31 rfl ?_
    refine wp_iload dX11_byLink_32 rfl ?_
    refine wp_iload_n dX11_byLink_34 rfl ?_
    refine wp_aload_n dX11_byLink_35 rfl ?_
    refine wp_iconst dX11_byLink_36 ?_
    refine wp_aaload dX11_byLink_37 pl.1 rfl rfl (by omega) (by omega) (by omega) (if_pos (by omega)) ?_
    change WP G mX11_byLink _ _ _ _ h N 38 [some (.ref (cB G + 169)), some (JV (k : Int)), some (.ref a), some (JV (d : Int)), some (JV (S 19 (S 18 k 0).toNat 0)), some (JV (t : Int))] [.ref (a + 1 + 1), JV (d : Int), JV (t : Int), .ref (cB G + 169)]
    refine wp_iload dX11_byLink_38 rfl ?_
    refine wp_iaload dX11_byLink_40 pl.2.2 (by omega) (by omega) (by omega) ?_
    refine wp_aload_n dX11_byLink_41 rfl ?_
    refine wp_get fkX11_49 dX11_byLink_42 (P.s0 r) rfl ?_
    refine wp_iload_n dX11_byLink_45 rfl ?_
    refine wp_aaload dX11_byLink_46 P.qL rfl rfl (by omega) (by omega) (by omega) (if_pos (by omega)) ?_
    change WP G mX11_byLink _ _ _ _ h N 47 [some (.ref (cB G + 169)), some (JV (k : Int)), some (.ref a), some (JV (d : Int)), some (JV (S 19 (S 18 k 0).toNat 0)), some (JV (t : Int))] [.ref (L k), JV (e (S 19 (S 18 k 0).toNat 0).toNat), JV (d : Int), JV (t : Int), .ref (cB G + 169)]
    refine wp_iconst dX11_byLink_47 ?_
    refine wp_iaload dX11_byLink_48 (P.rL (i := k) (by omega)) (by omega) (by omega) (by omega) ?_
    change WP G mX11_byLink _ _ _ _ h N 49 [some (.ref (cB G + 169)), some (JV (k : Int)), some (.ref a), some (JV (d : Int)), some (JV (S 19 (S 18 k 0).toNat 0)), some (JV (t : Int))] [JV (M 15 k 3), JV (e (S 19 (S 18 k 0).toNat 0).toNat), JV (d : Int), JV (t : Int), .ref (cB G + 169)]
    rw [r.lG hk]
    refine wp_iadd dX11_byLink_49 ?_
    refine wp_max dX11_byLink_50 maX11_116 w_max (Nat.le_of_ble_eq_true rfl) (Nat.le_of_ble_eq_true rfl) ⟨by omega, by omega⟩ ⟨by omega, by omega⟩ ?_
    have kz : S 21 (S 18 k 0).toNat 0 = 0 := by omega
    have eb : bAsk b e (S 19 (S 18 k 0).toNat 0) (S 21 (S 18 k 0).toNat 0) (S 22 (S 18 k 0).toNat 0) = e (S 19 (S 18 k 0).toNat 0).toNat + S 22 (S 18 k 0).toNat 0 := by unfold bAsk; rw [if_pos kz]
    have ea : eAsk e (S 19 (S 18 k 0).toNat 0) (S 21 (S 18 k 0).toNat 0) (S 22 (S 18 k 0).toNat 0) = 0 := by unfold eAsk; rw [if_pos kz]
    obtain ⟨d2, ed2⟩ : ∃ d2 : Nat, max (d : Int) ((e (S 19 (S 18 k 0).toNat 0).toNat) + (S 22 (S 18 k 0).toNat 0)) = (d2 : Int) := ⟨(max (d : Int) ((e (S 19 (S 18 k 0).toNat 0).toNat) + (S 22 (S 18 k 0).toNat 0))).toNat, by omega⟩
    rw [ed2]
    have hq2 : LBq (wkS S (S 6 t 0).toNat) (S 5 t 0).toNat (fun x => d2 ≤ x) y := hq.congr fun x _ _ => by
      show (d ≤ x ∧ bAsk b e (S 19 (S 18 k 0).toNat 0) (S 21 (S 18 k 0).toNat 0) (S 22 (S 18 k 0).toNat 0) ≤ (x : Int) ∧ eAsk e (S 19 (S 18 k 0).toNat 0) (S 21 (S 18 k 0).toNat 0) (S 22 (S 18 k 0).toNat 0) ≤ (EN (wkS S (S 6 t 0).toNat) (S 5 t 0).toNat x : Int)) ↔ d2 ≤ x
      omega
    refine wp_v2p (m_from (N := N) P r w (t := t) (d := d2) (y := y) ht hq2 (by omega)) cvX11_110 dX11_byLink_53 ⟨Nat.le_of_ble_eq_true rfl, Nat.le_of_ble_eq_true rfl⟩ (Nat.le_of_ble_eq_true rfl) (P.s0 r) rfl rfl ?_
    refine wp_iret dX11_byLink_56 rfl ?_
    exact ⟨rfl, rfl, rfl⟩

theorem l_byAll {Q : PQ} {X : PX} {k9 n9 : Nat} (P : MP G N M L z h) (r : RS S M) (w : WF S) {t : Nat} {B : Int} (pl : IsPl G h a b e) (ht : t < 24) (hB : 0 ≤ B ∧ B ≤ 4850) (hpre : ∀ j : Nat, (j : Int) < S 14 0 0 → lT S j = (t : Int) → (-1 ≤ b (lF S j).toNat ∧ b (lF S j).toNat ≤ B) ∧ -1 ≤ e (lF S j).toNat ∧ e (lF S j).toNat ≤ B) : ∀ (m : Nat) (k y : Nat), ((S 14 0 0).toNat - k = m) → ((k : Int) ≤ S 14 0 0) → (y ≤ 4890) → (LBq (wkS S (S 6 t 0).toNat) (S 5 t 0).toNat (FDk S b e t k) y) → (Q (some (JV (fday S b e t))) h N) → WP G mX11_byAll Q X k9 n9 h N 15 [some (.ref (cB G + 169)), some (JV (t : Int)), some (.ref a), some (JV (y : Int)), some (JV (k : Int))] [] := by
  intro m
  induction m with
  | zero =>
    intro k y hm hk40 hy hq kk
    have wL := w.nL
    have hpr2 := fun j h1 h2 => (⟨(hpre j h1 h2).1.2, (hpre j h1 h2).2.2⟩ : b (lF S j).toNat ≤ B ∧ e (lF S j).toNat ≤ B)
    refine wp_iload dX11_byAll_15 rfl ?_
    refine wp_aload_n dX11_byAll_17 rfl ?_
    refine wp_get fkX11_99 dX11_byAll_18 (P.s0 r) rfl ?_
    refine wp_icmp_ge 52 dX11_byAll_21 (by decide) ⟨by omega, by omega⟩ ⟨by omega, by omega⟩ (fun c_21 => ?_) (fun c_21 => ?_)
    · refine wp_iload_n dX11_byAll_52 rfl ?_
      refine wp_iret dX11_byAll_53 rfl ?_
      obtain ⟨y2, a1, a2, a3⟩ := fdk_LB w ht hB (m := (S 14 0 0).toNat) (by omega) hpr2
      have hk9 : k = (S 14 0 0).toNat := by omega
      subst hk9
      have := hq.uniq a3 (by omega) (by omega)
      subst this
      rw [← a1]
      exact kk
    · exact absurd c_21 (by omega)
  | succ m ih =>
    intro k y hm hk40 hy hq kk
    have wL := w.nL
    have hpr2 := fun j h1 h2 => (⟨(hpre j h1 h2).1.2, (hpre j h1 h2).2.2⟩ : b (lF S j).toNat ≤ B ∧ e (lF S j).toNat ≤ B)
    refine wp_iload dX11_byAll_15 rfl ?_
    refine wp_aload_n dX11_byAll_17 rfl ?_
    refine wp_get fkX11_99 dX11_byAll_18 (P.s0 r) rfl ?_
    refine wp_icmp_ge 52 dX11_byAll_21 (by decide) ⟨by omega, by omega⟩ ⟨by omega, by omega⟩ (fun c_21 => ?_) (fun c_21 => ?_)
    · exact absurd c_21 (by omega)
    · have wk9 := w.at (i := k) (by omega)
      refine wp_aload_n dX11_byAll_24 rfl ?_
      refine wp_get fkX11_49 dX11_byAll_25 (P.s0 r) rfl ?_
      refine wp_iload dX11_byAll_28 rfl ?_
      refine wp_aaload dX11_byAll_30 P.qL rfl rfl (by omega) (by omega) (by omega) (if_pos (by omega)) ?_
      change WP G mX11_byAll _ _ _ _ h N 31 [some (.ref (cB G + 169)), some (JV (t : Int)), some (.ref a), some (JV (y : Int)), some (JV (k : Int))] [.ref (L k)]
      refine wp_iconst dX11_byAll_31 ?_
      refine wp_iaload dX11_byAll_32 (P.rL (i := k) (by omega)) (by omega) (by omega) (by omega) ?_
      change WP G mX11_byAll _ _ _ _ h N 33 [some (.ref (cB G + 169)), some (JV (t : Int)), some (.ref a), some (JV (y : Int)), some (JV (k : Int))] [JV (M 15 k 1)]
      rw [r.lT (by omega)]
      refine wp_iload_n dX11_byAll_33 rfl ?_
      refine wp_icmp_ne 46 dX11_byAll_34 (by decide) ⟨by omega, by omega⟩ ⟨by omega, by omega⟩ (fun c_34 => ?_) (fun c_34 => ?_)
      · refine wp_iinc dX11_byAll_46 rfl (Nat.le_of_ble_eq_true rfl) rfl ?_
        change WP G mX11_byAll _ _ _ _ h N 49 [some (.ref (cB G + 169)), some (JV (t : Int)), some (.ref a), some (JV (y : Int)), some (JV ((k : Int) + 1))] []
        refine wp_goto 15 dX11_byAll_49 (by decide) ?_
        exact ih (k + 1) y (by omega) (by omega) hy (hq.congr fun x _ _ => (FDk_f c_34).symm) kk
      · refine wp_aload_n dX11_byAll_37 rfl ?_
        refine wp_iload dX11_byAll_38 rfl ?_
        refine wp_aload_n dX11_byAll_40 rfl ?_
        refine wp_iload_n dX11_byAll_41 rfl ?_
        have htk : lT S k = (t : Int) := c_34
        obtain ⟨y2, a1, a2, a3⟩ := fdk_LB w ht hB (m := k + 1) (by omega) hpr2
        have hq2 : LBq (wkS S (S 6 t 0).toNat) (S 5 t 0).toNat (fun x => y ≤ x ∧ bAsk b e (lF S k) (lK S k) (lG S k) ≤ (x : Int) ∧ eAsk e (lF S k) (lK S k) (lG S k) ≤ (EN (wkS S (S 6 t 0).toNat) (S 5 t 0).toNat x : Int)) y2 := a3.congr fun x hx ok => by
          rw [FDk_t htk]
          exact and_congr_left fun _ => (hq.2 x hx ok).symm
        have hpk := hpre k (by omega) htk
        refine wp_v3p (m_byLink (N := N) P r w (t := t) (d := y) (k := k) (y := y2) pl ht (by omega) htk ⟨⟨hpk.1.1, Int.le_trans hpk.1.2 (by omega)⟩, hpk.2.1, Int.le_trans hpk.2.2 (by omega)⟩ hq2 (by omega)) cvX11_125 dX11_byAll_42 ⟨Nat.le_of_ble_eq_true rfl, Nat.le_of_ble_eq_true rfl⟩ (Nat.le_of_ble_eq_true rfl) (P.s0 r) rfl rfl ?_
        refine wp_istore_n dX11_byAll_45 (Nat.le_of_ble_eq_true rfl) rfl ?_
        change WP G mX11_byAll _ _ _ _ h N 46 [some (.ref (cB G + 169)), some (JV (t : Int)), some (.ref a), some (JV (y2 : Int)), some (JV (k : Int))] []
        refine wp_iinc dX11_byAll_46 rfl (Nat.le_of_ble_eq_true rfl) rfl ?_
        change WP G mX11_byAll _ _ _ _ h N 49 [some (.ref (cB G + 169)), some (JV (t : Int)), some (.ref a), some (JV (y2 : Int)), some (JV ((k : Int) + 1))] []
        refine wp_goto 15 dX11_byAll_49 (by decide) ?_
        exact ih (k + 1) y2 (by omega) (by omega) (by omega) a3 kk

theorem m_byAll (P : MP G N M L z h) (r : RS S M) (w : WF S) {t : Nat} {B : Int} (pl : IsPl G h a b e) (ht : t < 24) (hB : 0 ≤ B ∧ B ≤ 4850) (hpre : ∀ j : Nat, (j : Int) < S 14 0 0 → lT S j = (t : Int) → (-1 ≤ b (lF S j).toNat ∧ b (lF S j).toNat ≤ B) ∧ -1 ≤ e (lF S j).toNat ∧ e (lF S j).toNat ≤ B) : CT G mX11_byAll [.ref (cB G + 169), JV (t : Int), .ref a] h N 0 0 (PV (JV (fday S b e t)) h N) := by
  refine CT_of (by decide +kernel) rfl (by simp [Value.category]) (Nat.le_of_ble_eq_true rfl) ?_
  change WP G mX11_byAll _ noX _ _ h N 0 [some (.ref (cB G + 169)), some (JV (t : Int)), some (.ref a), none, none] []
  refine wp_aload_n dX11_byAll_0 rfl ?_
  refine wp_iload_n dX11_byAll_1 rfl ?_
  refine wp_aload_n dX11_byAll_2 rfl ?_
  refine wp_get fkX11_36 dX11_byAll_3 (P.s0 r) rfl ?_
  refine wp_iload_n dX11_byAll_6 rfl ?_
  refine wp_iaload dX11_byAll_7 (P.s10 r) (by omega) (by omega) (by omega) ?_
  change WP G mX11_byAll _ _ _ _ h N 8 [some (.ref (cB G + 169)), some (JV (t : Int)), some (.ref a), none, none] [JV (S 8 t 0), JV (t : Int), .ref (cB G + 169)]
  have wt := w.task ht
  obtain ⟨d, ed⟩ : ∃ d : Nat, S 8 t 0 = (d : Int) := ⟨(S 8 t 0).toNat, by omega⟩
  have k9 := wkS_WK w (c := (S 6 t 0).toNat) (by omega)
  obtain ⟨y1, z1, z2⟩ := frm_ex k9 (S 5 t 0).toNat (d := d) (by omega)
  rw [ed]
  refine wp_v2p (m_from (N := N) P r w (t := t) (d := d) (y := y1) ht z2 (by omega)) cvX11_110 dX11_byAll_8 ⟨Nat.le_of_ble_eq_true rfl, Nat.le_of_ble_eq_true rfl⟩ (Nat.le_of_ble_eq_true rfl) (P.s0 r) rfl rfl ?_
  refine wp_istore_n dX11_byAll_11 (Nat.le_of_ble_eq_true rfl) rfl ?_
  change WP G mX11_byAll _ _ _ _ h N 12 [some (.ref (cB G + 169)), some (JV (t : Int)), some (.ref a), some (JV (y1 : Int)), none] []
  refine wp_iconst dX11_byAll_12 ?_
  refine wp_istore dX11_byAll_13 (Nat.le_of_ble_eq_true rfl) rfl ?_
  change WP G mX11_byAll _ _ _ _ h N 15 [some (.ref (cB G + 169)), some (JV (t : Int)), some (.ref a), some (JV (y1 : Int)), some (JV 0)] []
  have wL := w.nL
  exact l_byAll P r w pl ht hB hpre _ 0 y1 rfl (by omega) (by omega) (z2.congr fun x _ _ => by unfold FDk; constructor; exact (fun q => ⟨by omega, fun j h1 => absurd h1 (by omega)⟩); exact (fun q => by have := q.1; omega)) ⟨rfl, rfl, rfl⟩

theorem l_isFree {Q : PQ} {X : PX} {k9 n9 : Nat} (P : MP G N M L z h) (r : RS S M) (w : WF S) {t : Int} {b : Nat} {g : Nat → Int} (ht : 0 ≤ t ∧ t < 24) (hb : h b = some (eZ G 24 g)) (hg : ∀ i, g i = 0 ∨ g i = 1) : ∀ (m : Nat) (i : Nat), ((S 14 0 0).toNat - i = m) → (i ≤ 40) → (Q (some (JV (bI (opn S g t m i)))) h N) → WP G mX11_isFree Q X k9 n9 h N 2 [some (.ref (cB G + 169)), some (JV t), some (.ref b), some (JV (i : Int))] [] := by
  intro m
  induction m with
  | zero =>
    intro i hm hi kk
    have wL := w.nL
    refine wp_iload_n dX11_isFree_2 rfl ?_
    refine wp_aload_n dX11_isFree_3 rfl ?_
    refine wp_get fkX11_99 dX11_isFree_4 (P.s0 r) rfl ?_
    refine wp_icmp_ge 43 dX11_isFree_7 (by decide) ⟨by omega, by omega⟩ ⟨by omega, by omega⟩ (fun c_7 => ?_) (fun c_7 => ?_)
    · refine wp_iconst dX11_isFree_43 ?_
      refine wp_zret dX11_isFree_44 rfl (by omega) ?_
      exact kk
    · exact absurd c_7 (by omega)
  | succ m ih =>
    intro i hm hi kk
    have wL := w.nL
    refine wp_iload_n dX11_isFree_2 rfl ?_
    refine wp_aload_n dX11_isFree_3 rfl ?_
    refine wp_get fkX11_99 dX11_isFree_4 (P.s0 r) rfl ?_
    refine wp_icmp_ge 43 dX11_isFree_7 (by decide) ⟨by omega, by omega⟩ ⟨by omega, by omega⟩ (fun c_7 => ?_) (fun c_7 => ?_)
    · exact absurd c_7 (by omega)
    · have wi := w.at (i := i) (by omega)
      have hgi := hg (S 19 (S 18 i 0).toNat 0).toNat
      refine wp_aload_n dX11_isFree_10 rfl ?_
      refine wp_get fkX11_49 dX11_isFree_11 (P.s0 r) rfl ?_
      refine wp_iload_n dX11_isFree_14 rfl ?_
      refine wp_aaload dX11_isFree_15 P.qL rfl rfl (by omega) (by omega) (by omega) (if_pos (by omega)) ?_
      change WP G mX11_isFree _ _ _ _ h N 16 [some (.ref (cB G + 169)), some (JV t), some (.ref b), some (JV (i : Int))] [.ref (L i)]
      refine wp_iconst dX11_isFree_16 ?_
      refine wp_iaload dX11_isFree_17 (P.rL (i := i) (by omega)) (by omega) (by omega) (by omega) ?_
      change WP G mX11_isFree _ _ _ _ h N 18 [some (.ref (cB G + 169)), some (JV t), some (.ref b), some (JV (i : Int))] [JV (M 15 i 1)]
      rw [r.lT (by omega)]
      refine wp_iload_n dX11_isFree_18 rfl ?_
      refine wp_icmp_ne 37 dX11_isFree_19 (by decide) ⟨by omega, by omega⟩ ⟨by omega, by omega⟩ (fun c_19 => ?_) (fun c_19 => ?_)
      · refine wp_iinc dX11_isFree_37 rfl (Nat.le_of_ble_eq_true rfl) rfl ?_
        change WP G mX11_isFree _ _ _ _ h N 40 [some (.ref (cB G + 169)), some (JV t), some (.ref b), some (JV ((i : Int) + 1))] []
        refine wp_goto 2 dX11_isFree_40 (by decide) ?_
        rw [opn, if_neg (fun q => c_19 q.1)] at kk
        exact ih (i + 1) (by omega) (by omega) kk
      · refine wp_aload_n dX11_isFree_22 rfl ?_
        refine wp_aload_n dX11_isFree_23 rfl ?_
        refine wp_get fkX11_49 dX11_isFree_24 (P.s0 r) rfl ?_
        refine wp_iload_n dX11_isFree_27 rfl ?_
        refine wp_aaload dX11_isFree_28 P.qL rfl rfl (by omega) (by omega) (by omega) (if_pos (by omega)) ?_
        change WP G mX11_isFree _ _ _ _ h N 29 [some (.ref (cB G + 169)), some (JV t), some (.ref b), some (JV (i : Int))] [.ref (L i), .ref b]
        refine wp_iconst dX11_isFree_29 ?_
        refine wp_iaload dX11_isFree_30 (P.rL (i := i) (by omega)) (by omega) (by omega) (by omega) ?_
        change WP G mX11_isFree _ _ _ _ h N 31 [some (.ref (cB G + 169)), some (JV t), some (.ref b), some (JV (i : Int))] [JV (M 15 i 0), .ref b]
        rw [r.lF (by omega)]
        refine wp_zaload dX11_isFree_31 hb (by omega) (by omega) (by omega) ?_
        refine wp_if_ne 37 dX11_isFree_32 (by decide) ⟨by omega, by omega⟩ (fun c_32 => ?_) (fun c_32 => ?_)
        · refine wp_iinc dX11_isFree_37 rfl (Nat.le_of_ble_eq_true rfl) rfl ?_
          change WP G mX11_isFree _ _ _ _ h N 40 [some (.ref (cB G + 169)), some (JV t), some (.ref b), some (JV ((i : Int) + 1))] []
          refine wp_goto 2 dX11_isFree_40 (by decide) ?_
          rw [opn, if_neg (fun q => c_32 q.2)] at kk
          exact ih (i + 1) (by omega) (by omega) kk
        · refine wp_iconst dX11_isFree_35 ?_
          refine wp_zret dX11_isFree_36 rfl (by omega) ?_
          rw [opn, if_pos ⟨c_19, c_32⟩] at kk
          exact kk

theorem m_isFree (P : MP G N M L z h) (r : RS S M) (w : WF S) {t : Int} {b : Nat} {g : Nat → Int} (ht : 0 ≤ t ∧ t < 24) (hb : h b = some (eZ G 24 g)) (hg : ∀ i, g i = 0 ∨ g i = 1) : CT G mX11_isFree [.ref (cB G + 169), JV t, .ref b] h N 0 0 (PV (JV (bI (opn S g t (S 14 0 0).toNat 0))) h N) := by
  refine CT_of (by decide +kernel) rfl (by simp [Value.category]) (Nat.le_of_ble_eq_true rfl) ?_
  change WP G mX11_isFree _ noX _ _ h N 0 [some (.ref (cB G + 169)), some (JV t), some (.ref b), none] []
  refine wp_iconst dX11_isFree_0 ?_
  refine wp_istore_n dX11_isFree_1 (Nat.le_of_ble_eq_true rfl) rfl ?_
  change WP G mX11_isFree _ _ _ _ h N 2 [some (.ref (cB G + 169)), some (JV t), some (.ref b), some (JV 0)] []
  have wL := w.nL
  exact l_isFree P r w ht hb hg _ 0 rfl (by omega) ⟨rfl, rfl, rfl⟩

end Rs

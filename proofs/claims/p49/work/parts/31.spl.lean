/-! ===== the checks that pass; the planner's state; refresh ===== -/
section Chk
variable {G : Ctx} {h : AH} {N : Nat}
theorem c_checkIndex {i n : Int} (h0 : 0 ≤ i) (h1 : i < n) (h2 : n ≤ 1000000) : CT G mX10_checkIndex [JV i, JV n] h N 0 0 (fun r h' N' => r = none ∧ h' = h ∧ N' = N) := by
  refine CT_of (by decide +kernel) rfl (by simp [Value.category]) (Nat.le_of_ble_eq_true rfl) ?_
  change WP G mX10_checkIndex _ noX _ _ h N 0 [some (JV i), some (JV n)] []
  refine wp_iload_n dX10_checkIndex_0 rfl ?_
  refine wp_if_lt 9 dX10_checkIndex_1 (by decide) ⟨by omega, by omega⟩ (fun c_1 => ?_) (fun c_1 => ?_)
  · exact absurd c_1 (by omega)
  · refine wp_iload_n dX10_checkIndex_4 rfl ?_
    refine wp_iload_n dX10_checkIndex_5 rfl ?_
    refine wp_icmp_lt 20 dX10_checkIndex_6 (by decide) ⟨by omega, by omega⟩ ⟨by omega, by omega⟩ (fun c_6 => ?_) (fun c_6 => ?_)
    · refine wp_vret dX10_checkIndex_20 rfl ?_
      exact ⟨rfl, rfl, rfl⟩
    · exact absurd c_6 (by omega)

theorem c_checkArgument  : CT G mX10_checkArgument [JV 1] h N 0 0 (fun r h' N' => r = none ∧ h' = h ∧ N' = N) := by
  refine CT_of (by decide +kernel) rfl (by simp [Value.category]) (Nat.le_of_ble_eq_true rfl) ?_
  change WP G mX10_checkArgument _ noX _ _ h N 0 [some (JV 1)] []
  refine wp_iload_n dX10_checkArgument_0 rfl ?_
  refine wp_if_ne 15 dX10_checkArgument_1 (by decide) ⟨by omega, by omega⟩ (fun c_1 => ?_) (fun c_1 => ?_)
  · refine wp_vret dX10_checkArgument_15 rfl ?_
    exact ⟨rfl, rfl, rfl⟩
  · exact absurd c_1 (by decide)

theorem c_checkState  : CT G mX10_checkState [JV 1] h N 0 0 (fun r h' N' => r = none ∧ h' = h ∧ N' = N) := by
  refine CT_of (by decide +kernel) rfl (by simp [Value.category]) (Nat.le_of_ble_eq_true rfl) ?_
  change WP G mX10_checkState _ noX _ _ h N 0 [some (JV 1)] []
  refine wp_iload_n dX10_checkState_0 rfl ?_
  refine wp_if_ne 15 dX10_checkState_1 (by decide) ⟨by omega, by omega⟩ (fun c_1 => ?_) (fun c_1 => ?_)
  · refine wp_vret dX10_checkState_15 rfl ?_
    exact ⟨rfl, rfl, rfl⟩
  · exact absurd c_1 (by decide)

theorem c_checkCalendar {i : Int} (h0 : 0 ≤ i) (h1 : i < 4) : CT G mX10_checkCalendar [JV i] h N 0 0 (fun r h' N' => r = none ∧ h' = h ∧ N' = N) := by
  refine CT_of (by decide +kernel) rfl (by simp [Value.category]) (Nat.le_of_ble_eq_true rfl) ?_
  change WP G mX10_checkCalendar _ noX _ _ h N 0 [some (JV i)] []
  refine wp_iload_n dX10_checkCalendar_0 rfl ?_
  refine wp_iconst dX10_checkCalendar_1 ?_
  refine wp_s2 0 0 (c_checkIndex (N := N) h0 h1 (by omega)) csX10_212 dX10_checkCalendar_2 ⟨Nat.le_of_ble_eq_true rfl, Nat.le_of_ble_eq_true rfl⟩ (Nat.le_of_ble_eq_true rfl) (by omega) (by omega) (fun r h9 N9 hq => ?_)
  obtain ⟨rfl, hh9, hN9⟩ := hq
  rw [hN9]
  rw [hh9]
  change WP G mX10_checkCalendar _ _ _ _ h N 5 [some (JV i)] []
  refine wp_vret dX10_checkCalendar_5 rfl ?_
  exact ⟨rfl, rfl, rfl⟩

theorem c_checkCrew {i : Int} (h0 : 0 ≤ i) (h1 : i < 4) : CT G mX10_checkCrew [JV i] h N 0 0 (fun r h' N' => r = none ∧ h' = h ∧ N' = N) := by
  refine CT_of (by decide +kernel) rfl (by simp [Value.category]) (Nat.le_of_ble_eq_true rfl) ?_
  change WP G mX10_checkCrew _ noX _ _ h N 0 [some (JV i)] []
  refine wp_iload_n dX10_checkCrew_0 rfl ?_
  refine wp_iconst dX10_checkCrew_1 ?_
  refine wp_s2 0 0 (c_checkIndex (N := N) h0 h1 (by omega)) csX10_212 dX10_checkCrew_2 ⟨Nat.le_of_ble_eq_true rfl, Nat.le_of_ble_eq_true rfl⟩ (Nat.le_of_ble_eq_true rfl) (by omega) (by omega) (fun r h9 N9 hq => ?_)
  obtain ⟨rfl, hh9, hN9⟩ := hq
  rw [hN9]
  rw [hh9]
  change WP G mX10_checkCrew _ _ _ _ h N 5 [some (JV i)] []
  refine wp_vret dX10_checkCrew_5 rfl ?_
  exact ⟨rfl, rfl, rfl⟩

theorem c_checkAskedDay {i : Int} (h0 : 0 ≤ i) (h1 : i ≤ 9999) : CT G mX10_checkAskedDay [JV i] h N 0 0 (fun r h' N' => r = none ∧ h' = h ∧ N' = N) := by
  refine CT_of (by decide +kernel) rfl (by simp [Value.category]) (Nat.le_of_ble_eq_true rfl) ?_
  change WP G mX10_checkAskedDay _ noX _ _ h N 0 [some (JV i)] []
  refine wp_iload_n dX10_checkAskedDay_0 rfl ?_
  refine wp_sipush dX10_checkAskedDay_1 rfl ?_
  refine wp_s2p (c_isWithin (N := N) (by omega) (by omega)) csX10_74 dX10_checkAskedDay_4 ⟨Nat.le_of_ble_eq_true rfl, Nat.le_of_ble_eq_true rfl⟩ (Nat.le_of_ble_eq_true rfl) ?_
  rw [show bI (decide (0 ≤ i ∧ i ≤ 9999)) = 1 from bI_t (decide_eq_true (by omega))]
  refine wp_s1 0 0 (c_checkArgument (N := N)) csX10_60 dX10_checkAskedDay_7 ⟨Nat.le_of_ble_eq_true rfl, Nat.le_of_ble_eq_true rfl⟩ (Nat.le_of_ble_eq_true rfl) (by omega) (by omega) (fun r h9 N9 hq => ?_)
  obtain ⟨rfl, hh9, hN9⟩ := hq
  rw [hN9]
  rw [hh9]
  change WP G mX10_checkAskedDay _ _ _ _ h N 10 [some (JV i)] []
  refine wp_vret dX10_checkAskedDay_10 rfl ?_
  exact ⟨rfl, rfl, rfl⟩

theorem c_checkTask {S : ST} {st i : Int} (hs : h (cB G) = some (cSP G st)) (H : HP G S h) (w : S 13 0 0 ≤ 40) (h0 : 0 ≤ i) (h1 : i < S 13 0 0) : CT G mX10_checkTask [.ref (cB G), JV i] h N 0 0 (fun r h' N' => r = none ∧ h' = h ∧ N' = N) := by
  refine CT_of (by decide +kernel) rfl (by simp [Value.category]) (Nat.le_of_ble_eq_true rfl) ?_
  change WP G mX10_checkTask _ noX _ _ h N 0 [some (.ref (cB G)), some (JV i)] []
  refine wp_iload_n dX10_checkTask_0 rfl ?_
  refine wp_aload_n dX10_checkTask_1 rfl ?_
  refine wp_get fkX10_10 dX10_checkTask_2 hs rfl ?_
  refine wp_get fkX10_107 dX10_checkTask_5 H.1 rfl ?_
  refine wp_s2 0 0 (c_checkIndex (N := N) h0 h1 (by omega)) csX10_212 dX10_checkTask_8 ⟨Nat.le_of_ble_eq_true rfl, Nat.le_of_ble_eq_true rfl⟩ (Nat.le_of_ble_eq_true rfl) (by omega) (by omega) (fun r h9 N9 hq => ?_)
  obtain ⟨rfl, hh9, hN9⟩ := hq
  rw [hN9]
  rw [hh9]
  change WP G mX10_checkTask _ _ _ _ h N 11 [some (.ref (cB G)), some (JV i)] []
  refine wp_vret dX10_checkTask_11 rfl ?_
  exact ⟨rfl, rfl, rfl⟩

theorem c_checkLink {S : ST} {st i : Int} (hs : h (cB G) = some (cSP G st)) (H : HP G S h) (w : S 14 0 0 ≤ 40) (h0 : 0 ≤ i) (h1 : i < S 14 0 0) : CT G mX10_checkLink [.ref (cB G), JV i] h N 0 0 (fun r h' N' => r = none ∧ h' = h ∧ N' = N) := by
  refine CT_of (by decide +kernel) rfl (by simp [Value.category]) (Nat.le_of_ble_eq_true rfl) ?_
  change WP G mX10_checkLink _ noX _ _ h N 0 [some (.ref (cB G)), some (JV i)] []
  refine wp_iload_n dX10_checkLink_0 rfl ?_
  refine wp_aload_n dX10_checkLink_1 rfl ?_
  refine wp_get fkX10_10 dX10_checkLink_2 hs rfl ?_
  refine wp_get fkX10_136 dX10_checkLink_5 H.1 rfl ?_
  refine wp_s2 0 0 (c_checkIndex (N := N) h0 h1 (by omega)) csX10_212 dX10_checkLink_8 ⟨Nat.le_of_ble_eq_true rfl, Nat.le_of_ble_eq_true rfl⟩ (Nat.le_of_ble_eq_true rfl) (by omega) (by omega) (fun r h9 N9 hq => ?_)
  obtain ⟨rfl, hh9, hN9⟩ := hq
  rw [hN9]
  rw [hh9]
  change WP G mX10_checkLink _ _ _ _ h N 11 [some (.ref (cB G)), some (JV i)] []
  refine wp_vret dX10_checkLink_11 rfl ?_
  exact ⟨rfl, rfl, rfl⟩

theorem ldg_in {S : ST} {b e : Nat → Int} {i : Nat} (hi : i < 24) (c d : Nat) : ldg S b e (fun t => if t < i + 1 then 1 else 0) c d = if b i ≤ (d : Int) ∧ (d : Int) < min (e i) 5000 ∧ wkS S (S 6 i 0).toNat d = true then ldg S b e (fun t => if t < i then 1 else 0) c d + S 12 i c else ldg S b e (fun t => if t < i then 1 else 0) c d := by
  have q := ldg_put (S := S) (b := b) (e := e) (inn := fun t => if t < i then 1 else 0) (t := i) (x := b i) (y := e i) hi (if_neg (by omega)) c d
  rw [← q]
  have e1 : fup b i (b i) = b := by
    funext x
    unfold fup
    split
    · rename_i hx; rw [hx]
    · rfl
  have e2 : fup e i (e i) = e := by
    funext x
    unfold fup
    split
    · rename_i hx; rw [hx]
    · rfl
  have e3 : fup (fun t => if t < i then (1 : Int) else 0) i 1 = fun t => if t < i + 1 then 1 else 0 := by
    funext x
    unfold fup
    by_cases hx : x = i
    · rw [if_pos hx, if_pos (by omega)]
    · rw [if_neg hx]
      show (if x < i then (1 : Int) else 0) = (if x < i + 1 then 1 else 0)
      by_cases hx2 : x < i
      · rw [if_pos hx2, if_pos (by omega)]
      · rw [if_neg hx2, if_neg (by omega)]
  rw [e1, e2, e3]
/-- which tasks there are -/
def inT (S : ST) : Nat → Int := fun t => if t < (S 13 0 0).toNat then 1 else 0
def NWz (G : Ctx) (h : AH) (a : Nat) : Prop := ∃ eb ee lb le rm ld, NW G h a eb ee lb le rm ld ∧ PB eb ee ∧ PB lb le ∧ RB rm
def LVz (G : Ctx) (h : AH) (a : Nat) : Prop := ∃ b e g u inn od ct ld, LV G h a b e g u inn od ct ld ∧ (0 ≤ u ∧ u ≤ 5000) ∧ ∀ c, c < 4 → ∀ d : Nat, u ≤ (d : Int) → g c d = 0
def LDz (G : Ctx) (h : AH) (a : Nat) : Prop := ∃ g u, LD G h a g u ∧ (0 ≤ u ∧ u ≤ 5000) ∧ ∀ c, c < 4 → ∀ d : Nat, u ≤ (d : Int) → g c d = 0
/-- all is reckoned -/
def FRESH (G : Ctx) (h : AH) (S : ST) : Prop := ∃ eb ee lb le rm ld wu od u, NW G h (cB G + 108) eb ee lb le rm ld ∧ (PB eb ee ∧ PB lb le ∧ RB rm) ∧ (EP S eb ee ∧ RG S eb ee ∧ LDY S ee ld) ∧ (LATE S eb lb le rm ld ∧ RG S lb le) ∧ (LD G h (cB G + 128) (ldg S eb ee (inT S)) wu ∧ (0 ≤ wu ∧ wu ≤ 5000) ∧ ∀ t : Nat, (t : Int) < S 13 0 0 → min (ee t) 5000 ≤ wu) ∧ LVS G h (cB G + 116) S (lvAll S lb rm (S 15 0 0) od) u ∧ LI (lvAll S lb rm (S 15 0 0) od) u
theorem NWz.frame {h' : AH} {a : Nat} (p : NWz G h a) (k : ∀ q, a ≤ q → q < a + 8 → h' q = h q) : NWz G h' a := by
  obtain ⟨x1, x2, x3, x4, x5, x6, y⟩ := p
  exact ⟨x1, x2, x3, x4, x5, x6, y.1.frame k, y.2⟩
theorem LVz.frame {h' : AH} {a : Nat} (p : LVz G h a) (k : ∀ q, a ≤ q → q < a + 12 → h' q = h q) : LVz G h' a := by
  obtain ⟨x1, x2, x3, x4, x5, x6, x7, x8, y⟩ := p
  exact ⟨x1, x2, x3, x4, x5, x6, x7, x8, y.1.frame k, y.2⟩
theorem LDz.frame {h' : AH} {a : Nat} (p : LDz G h a) (k : ∀ q, a ≤ q → q < a + 6 → h' q = h q) : LDz G h' a := by
  obtain ⟨x1, x2, y⟩ := p
  exact ⟨x1, x2, y.1.frame k, y.2⟩
theorem l_wanted {Q : PQ} {X : PX} {k9 n9 : Nat} {S : ST} {h0 : AH} {eb ee lb le rm : Nat → Int} {ld : Int} (w : WF S) (pe : PB eb ee) : ∀ (m : Nat) (i : Nat) (u : Int) (h : AH), ((S 13 0 0).toNat - i = m) → ((i : Int) ≤ S 13 0 0) → (h (cB G) = some (cSP G 1)) → (HP G S h) → (NW G h (cB G + 108) eb ee lb le rm ld) → (LD G h (cB G + 128) (ldg S eb ee (fun t => if t < i then 1 else 0)) u) → (0 ≤ u ∧ u ≤ 5000) → (∀ t : Nat, t < i → min (ee t) 5000 ≤ u) → (FR (cB G + 128) (cB G + 134) h0 h) → (∀ (u' : Int) (h' : AH), h' (cB G) = some (cSP G 1) → HP G S h' → NW G h' (cB G + 108) eb ee lb le rm ld → LD G h' (cB G + 128) (ldg S eb ee (inT S)) u' → (0 ≤ u' ∧ u' ≤ 5000) → (∀ t : Nat, (t : Int) < S 13 0 0 → min (ee t) 5000 ≤ u') → FR (cB G + 128) (cB G + 134) h0 h' → WP G mX10_refresh Q X k9 n9 h' N 96 [some (.ref (cB G)), some (JV (S 13 0 0))] []) → WP G mX10_refresh Q X k9 n9 h N 31 [some (.ref (cB G)), some (JV (i : Int))] [] := by
  intro m
  induction m with
  | zero =>
    intro i u h hm hi hs H W D hu hw fr kk
    have wT := w.nT
    refine wp_iload_n dX10_refresh_31 rfl ?_
    refine wp_aload_n dX10_refresh_32 rfl ?_
    refine wp_get fkX10_10 dX10_refresh_33 hs rfl ?_
    refine wp_get fkX10_107 dX10_refresh_36 H.1 rfl ?_
    refine wp_icmp_ge 96 dX10_refresh_39 (by decide) ⟨by omega, by omega⟩ ⟨by omega, by omega⟩ (fun c_39 => ?_) (fun c_39 => ?_)
    · have e9 : (i : Int) = S 13 0 0 := by omega
      rw [e9]
      refine kk u h hs H W ?_ hu (fun t ht => hw t (by omega)) fr
      have e8 : i = (S 13 0 0).toNat := by omega
      rw [e8] at D
      exact D
    · exact absurd c_39 (by omega)
  | succ m ih =>
    intro i u h hm hi hs H W D hu hw fr kk
    have wT := w.nT
    refine wp_iload_n dX10_refresh_31 rfl ?_
    refine wp_aload_n dX10_refresh_32 rfl ?_
    refine wp_get fkX10_10 dX10_refresh_33 hs rfl ?_
    refine wp_get fkX10_107 dX10_refresh_36 H.1 rfl ?_
    refine wp_icmp_ge 96 dX10_refresh_39 (by decide) ⟨by omega, by omega⟩ ⟨by omega, by omega⟩ (fun c_39 => ?_) (fun c_39 => ?_)
    · exact absurd c_39 (by omega)
    · have ht : i < 24 := by omega
      have wt := w.task ht
      have pt := pe i ht
      refine wp_aload_n dX10_refresh_42 rfl ?_
      refine wp_get fkX10_35 dX10_refresh_43 hs rfl ?_
      refine wp_aload_n dX10_refresh_46 rfl ?_
      refine wp_get fkX10_10 dX10_refresh_47 hs rfl ?_
      refine wp_get fkX10_117 dX10_refresh_50 H.1 rfl ?_
      refine wp_iload_n dX10_refresh_53 rfl ?_
      refine wp_aaload dX10_refresh_54 H.2.2.2.1 rfl rfl (by omega) (by omega) (by omega) (if_pos (by omega)) ?_
      change WP G mX10_refresh _ _ _ _ h N 55 [some (.ref (cB G)), some (JV (i : Int))] [.ref (cB G + 20 + 2 * i), .ref (cB G + 128)]
      refine wp_aload_n dX10_refresh_55 rfl ?_
      refine wp_get fkX10_10 dX10_refresh_56 hs rfl ?_
      refine wp_iload_n dX10_refresh_59 rfl ?_
      refine wp_v1p (c_calendarOf (N := N) H w ht) cvX10_296 dX10_refresh_60 ⟨Nat.le_of_ble_eq_true rfl, Nat.le_of_ble_eq_true rfl⟩ (Nat.le_of_ble_eq_true rfl) H.1 rfl rfl ?_
      refine wp_aload_n dX10_refresh_63 rfl ?_
      refine wp_get fkX10_21 dX10_refresh_64 hs rfl ?_
      refine wp_get fkX10_174 dX10_refresh_67 W.1 rfl ?_
      refine wp_get fkX10_178 dX10_refresh_70 W.2.1.1 rfl ?_
      refine wp_iload_n dX10_refresh_73 rfl ?_
      refine wp_iaload dX10_refresh_74 W.2.1.2.1 (by omega) (by omega) (by omega) ?_
      change WP G mX10_refresh _ _ _ _ h N 75 [some (.ref (cB G)), some (JV (i : Int))] [JV (eb i), .ref (cB G + 8 + 2 * (S 6 i 0).toNat), .ref (cB G + 20 + 2 * i), .ref (cB G + 128)]
      refine wp_aload_n dX10_refresh_75 rfl ?_
      refine wp_get fkX10_21 dX10_refresh_76 hs rfl ?_
      refine wp_get fkX10_174 dX10_refresh_79 W.1 rfl ?_
      refine wp_get fkX10_183 dX10_refresh_82 W.2.1.1 rfl ?_
      refine wp_iload_n dX10_refresh_85 rfl ?_
      refine wp_iaload dX10_refresh_86 W.2.1.2.2 (by omega) (by omega) (by omega) ?_
      change WP G mX10_refresh _ _ _ _ h N 87 [some (.ref (cB G)), some (JV (i : Int))] [JV (ee i), JV (eb i), .ref (cB G + 8 + 2 * (S 6 i 0).toNat), .ref (cB G + 20 + 2 * i), .ref (cB G + 128)]
      refine wp_v4 k9 n9 (c_add (N := N) (t := i) (q := (S 6 i 0).toNat) (b := eb i) (e := ee i) D H (by omega) w ht (by omega) (by omega) (by omega) hu) cvX10_300 dX10_refresh_87 ⟨Nat.le_of_ble_eq_true rfl, Nat.le_of_ble_eq_true rfl⟩ (Nat.le_of_ble_eq_true rfl) D.1 rfl rfl (by omega) (by omega) (fun r h8 N9 hq => ?_)
      obtain ⟨rfl, hN9, g8, p8, H8', q8, f8⟩ := hq
      rw [hN9]
      have D9 := p8.congr (g' := ldg S eb ee (fun t => if t < i + 1 then 1 else 0)) (fun c hc d => by rw [q8 c hc d, ldg_in ht])
      have W9 := W.frame (fun z h1 h2 => f8 z (by omega))
      have hs9 := (f8 (cB G) (by omega)).trans hs
      change WP G mX10_refresh _ _ _ _ h8 N 90 [some (.ref (cB G)), some (JV (i : Int))] []
      refine wp_iinc dX10_refresh_90 rfl (Nat.le_of_ble_eq_true rfl) rfl ?_
      change WP G mX10_refresh _ _ _ _ h8 N 93 [some (.ref (cB G)), some (JV ((i : Int) + 1))] []
      refine wp_goto 31 dX10_refresh_93 (by decide) ?_
      refine ih (i + 1) _ _ (by omega) (by omega) hs9 H8' W9 D9 (by omega) (fun t h1 => ?_) (fr.tr f8) kk
      by_cases hti : t = i
      · rw [hti]; omega
      · have := hw t (by omega); omega

/-- what is kept: begins, ends, in, worths, calendars -/
abbrev KTup : Type := AH × (Nat → Int) × (Nat → Int) × (Nat → Int) × (Nat → Int) × (Nat → Int) × (Nat → Int) × (Nat → Nat → Int)
def KPt (G : Ctx) (h : AH) (K : KTup) : Prop := KP G h (cB G + 154) K.2.1 K.2.2.1 K.2.2.2.1 K.2.2.2.2.1 K.2.2.2.2.2.1 K.2.2.2.2.2.2.1 K.2.2.2.2.2.2.2 ∧ KR K.2.1 K.2.2.1 K.2.2.2.1 K.2.2.2.2.1
/-- the planner between two calls -/
def SPI (G : Ctx) (h : AH) (S : ST) (st : Int) (K : KTup) : Prop := h (cB G) = some (cSP G st) ∧ HP G S h ∧ WF S ∧ TOP S ∧ NWz G h (cB G + 134) ∧ LVz G h (cB G + 142) ∧ KPt G h K ∧ ((st = 1 ∧ NWz G h (cB G + 108) ∧ LVz G h (cB G + 116) ∧ LDz G h (cB G + 128)) ∨ (st = 0 ∧ FRESH G h S)) ∧ ∀ q, cB G + 169 ≤ q → h q = K.1 q
theorem c_refresh1 {S : ST} {eb ee lb le rm : Nat → Int} {ld : Int} {b e : Nat → Int} {g g2 : Nat → Nat → Int} {u u2 : Int} {inn od : Nat → Int} {ct l9 : Int} (hs : h (cB G) = some (cSP G 1)) (H : HP G S h) (w : WF S) (tp : TOP S) (W : NW G h (cB G + 108) eb ee lb le rm ld) (pe : PB eb ee) (pl : PB lb le) (rb : RB rm) (V : LV G h (cB G + 116) b e g u inn od ct l9) (hu : 0 ≤ u ∧ u ≤ 5000) (hz : ∀ c, c < 4 → ∀ d : Nat, u ≤ (d : Int) → g c d = 0) (D : LD G h (cB G + 128) g2 u2) (hu2 : 0 ≤ u2 ∧ u2 ≤ 5000) (hz2 : ∀ c, c < 4 → ∀ d : Nat, u2 ≤ (d : Int) → g2 c d = 0) : CT G mX10_refresh [.ref (cB G)] h N 0 0 (fun r h' N' => r = none ∧ N' = N ∧ h' (cB G) = some (cSP G 0) ∧ HP G S h' ∧ FRESH G h' S ∧ FR (cB G) (cB G + 134) h h') := by
  refine CT_of (by decide +kernel) rfl (by simp [Value.category]) (Nat.le_of_ble_eq_true rfl) ?_
  change WP G mX10_refresh _ noX _ _ h N 0 [some (.ref (cB G)), none] []
  have wT := w.nT
  refine wp_aload_n dX10_refresh_0 rfl ?_
  refine wp_get fkX10_52 dX10_refresh_1 hs rfl ?_
  refine wp_if_ne 8 dX10_refresh_4 (by decide) ⟨by omega, by omega⟩ (fun c_4 => ?_) (fun c_4 => ?_)
  · refine wp_aload_n dX10_refresh_8 rfl ?_
    refine wp_get fkX10_21 dX10_refresh_9 hs rfl ?_
    refine wp_v0 0 0 (c_reckonEarly (N := N) W H (by omega) w tp pe) cvX10_260 dX10_refresh_12 ⟨Nat.le_of_ble_eq_true rfl, Nat.le_of_ble_eq_true rfl⟩ (Nat.le_of_ble_eq_true rfl) W.1 rfl rfl (by omega) (by omega) (fun r h7 N9 hq => ?_)
    obtain ⟨rfl, hN9, eb7, ee7, ld7, W7, H7, pe7, rg7, ep7, ly7, f7⟩ := hq
    rw [hN9]
    have hsf7 := (f7 (cB G) (by omega)).trans hs
    have VLf7 := V.frame (fun z h1 h2 => f7 z (by omega))
    have DLf7 := D.frame (fun z h1 h2 => f7 z (by omega))
    change WP G mX10_refresh _ _ _ _ h7 N 15 [some (.ref (cB G)), none] []
    refine wp_aload_n dX10_refresh_15 rfl ?_
    refine wp_get fkX10_21 dX10_refresh_16 hsf7 rfl ?_
    refine wp_v0 0 0 (c_reckonLate (N := N) W7 H7 (by omega) w tp pe7 rg7 ly7.2.2 pl rb) cvX10_263 dX10_refresh_19 ⟨Nat.le_of_ble_eq_true rfl, Nat.le_of_ble_eq_true rfl⟩ (Nat.le_of_ble_eq_true rfl) W7.1 rfl rfl (by omega) (by omega) (fun r h6 N9 hq => ?_)
    obtain ⟨rfl, hN9, lb6, le6, rm6, W6, H6, pl6, rb6, rg6, la6, f6⟩ := hq
    rw [hN9]
    have hsf6 := (f6 (cB G) (by omega)).trans hsf7
    have VLf6 := VLf7.frame (fun z h1 h2 => f6 z (by omega))
    have DLf6 := DLf7.frame (fun z h1 h2 => f6 z (by omega))
    change WP G mX10_refresh _ _ _ _ h6 N 22 [some (.ref (cB G)), none] []
    refine wp_aload_n dX10_refresh_22 rfl ?_
    refine wp_get fkX10_35 dX10_refresh_23 hsf6 rfl ?_
    refine wp_v0 0 0 (c_clear (N := N) DLf6 hu2) cvX10_293 dX10_refresh_26 ⟨Nat.le_of_ble_eq_true rfl, Nat.le_of_ble_eq_true rfl⟩ (Nat.le_of_ble_eq_true rfl) DLf6.1 rfl rfl (by omega) (by omega) (fun r h5 N9 hq => ?_)
    obtain ⟨rfl, hN9, g5, p5, q5, f5⟩ := hq
    rw [hN9]
    have hsf5 := (f5 (cB G) (by omega)).trans hsf6
    have VLf5 := VLf6.frame (fun z h1 h2 => f5 z (by omega))
    have WLf5 := W6.frame (fun z h1 h2 => f5 z (by omega))
    have HLf5 := H6.fr f5 (by omega)
    have D5 := p5.congr (g' := ldg S eb7 ee7 (fun t => if t < 0 then 1 else 0)) (fun c hc d => by
      rw [q5 c hc d, show (fun t : Nat => if t < 0 then (1 : Int) else 0) = fun _ => 0 from funext fun t => if_neg (by omega), ldg_0]
      split
      · rfl
      · exact hz2 c hc d (by omega))
    change WP G mX10_refresh _ _ _ _ h5 N 29 [some (.ref (cB G)), none] []
    refine wp_iconst dX10_refresh_29 ?_
    refine wp_istore_n dX10_refresh_30 (Nat.le_of_ble_eq_true rfl) rfl ?_
    change WP G mX10_refresh _ _ _ _ h5 N 31 [some (.ref (cB G)), some (JV 0)] []
    refine l_wanted (h0 := h5) w pe7 _ 0 0 h5 rfl (by omega) hsf5 HLf5 WLf5 D5 (by omega) (fun t ht => absurd ht (by omega)) FR.rf (fun u8 h8 hs8 H8 W8 D8 hu8 hw8 f8 => ?_)
    have V8 := VLf5.frame (fun z h1 h2 => f8 z (by omega))
    refine wp_aload_n dX10_refresh_96 rfl ?_
    refine wp_get fkX10_28 dX10_refresh_97 hs8 rfl ?_
    refine wp_aload_n dX10_refresh_100 rfl ?_
    refine wp_get fkX10_21 dX10_refresh_101 hs8 rfl ?_
    refine wp_aload_n dX10_refresh_104 rfl ?_
    refine wp_get fkX10_10 dX10_refresh_105 hs8 rfl ?_
    refine wp_get fkX10_161 dX10_refresh_108 H8.1 rfl ?_
    refine wp_v2 0 0 (c_reckon (N := N) (a := cB G + 116) (q := cB G + 108) (rl := S 15 0 0) (by omega) (by omega) w pl6 rb6 w.rule V8 hu hz H8 W8) cvX10_256 dX10_refresh_111 ⟨Nat.le_of_ble_eq_true rfl, Nat.le_of_ble_eq_true rfl⟩ (Nat.le_of_ble_eq_true rfl) V8.1 rfl rfl (by omega) (by omega) (fun r h4 N9 hq => ?_)
    obtain ⟨rfl, hN9, u4, V4, H4, li4, f4⟩ := hq
    rw [hN9]
    have hsf4 := (f4 (cB G) (by omega)).trans hs8
    have DLf4 := D8.frame (fun z h1 h2 => f4 z (by omega))
    have WLf4 := W8.frame (fun z h1 h2 => f4 z (by omega))
    have V4' := V4
    change WP G mX10_refresh _ _ _ _ h4 N 114 [some (.ref (cB G)), some (JV (S 13 0 0))] []
    refine wp_aload_n dX10_refresh_114 rfl ?_
    refine wp_iconst dX10_refresh_115 ?_
    refine wp_put fkX10_52 dX10_refresh_116 hsf4 rfl rfl (Nat.le_of_ble_eq_true rfl) ?_
    obtain ⟨h4_1, eh4_1⟩ : ∃ hh9 : AH, hh9 = hup h4 (cB G) (eO 10 [.ref (cB G + 1), .ref (cB G + 108), .ref (cB G + 116), .ref (cB G + 128), .ref (cB G + 134), .ref (cB G + 142), .ref (cB G + 154), JV 0]) := ⟨_, rfl⟩
    refine WP.heq eh4_1 ?_
    have c1_0 : h4_1 (cB G) = some (eO 10 [.ref (cB G + 1), .ref (cB G + 108), .ref (cB G + 116), .ref (cB G + 128), .ref (cB G + 134), .ref (cB G + 142), .ref (cB G + 154), JV 0]) := by rw [eh4_1]; exact hup_self _ _ _
    have HX_1 : HP G S h4_1 := H4.frame (fun q9 hq9 hq8 => hup_at eh4_1 (by omega))
    have WX_1_______108 : NW G h4_1 (cB G + 108) eb7 ee7 lb6 le6 rm6 ld7 := WLf4.frame (fun q9 hq9 hq8 => hup_at eh4_1 (by omega))
    have VX_1_______116 : LV G h4_1 (cB G + 116) ((lvAll S lb6 rm6 (S 15 0 0) od).1) ((lvAll S lb6 rm6 (S 15 0 0) od).2.1) (ldg S (lvAll S lb6 rm6 (S 15 0 0) od).1 (lvAll S lb6 rm6 (S 15 0 0) od).2.1 (lvAll S lb6 rm6 (S 15 0 0) od).2.2.1) u4 ((lvAll S lb6 rm6 (S 15 0 0) od).2.2.1) ((lvAll S lb6 rm6 (S 15 0 0) od).2.2.2.1) ((lvAll S lb6 rm6 (S 15 0 0) od).2.2.2.2.1) ((lvAll S lb6 rm6 (S 15 0 0) od).2.2.2.2.2) := V4.frame (fun q9 hq9 hq8 => hup_at eh4_1 (by omega))
    have DX_1B_128 : LD G h4_1 (cB G + 128) (ldg S eb7 ee7 (inT S)) u8 := DLf4.frame (fun q9 hq9 hq8 => hup_at eh4_1 (by omega))
    refine wp_vret dX10_refresh_119 rfl ?_
    refine ⟨rfl, rfl, c1_0, HX_1, ⟨eb7, ee7, lb6, le6, rm6, ld7, u8, od, u4, WX_1_______108, ⟨pe7, pl6, rb6⟩, ⟨ep7, rg7, ly7⟩, ⟨la6, rg6⟩, ⟨DX_1B_128, hu8, hw8⟩, VX_1_______116, li4⟩, ?_⟩
    exact ((((((f7.mono (lo' := cB G) (hi' := cB G + 134) (by omega) (by omega)).tr (f6.mono (by omega) (by omega))).tr (f5.mono (by omega) (by omega))).tr (f8.mono (by omega) (by omega))).tr (f4.mono (by omega) (by omega))).up eh4_1 ⟨by omega, by omega⟩)
  · exact absurd c_4 (by decide)

theorem c_refresh0 (hs : h (cB G) = some (cSP G 0)) : CT G mX10_refresh [.ref (cB G)] h N 0 0 (fun r h' N' => r = none ∧ h' = h ∧ N' = N) := by
  refine CT_of (by decide +kernel) rfl (by simp [Value.category]) (Nat.le_of_ble_eq_true rfl) ?_
  change WP G mX10_refresh _ noX _ _ h N 0 [some (.ref (cB G)), none] []
  refine wp_aload_n dX10_refresh_0 rfl ?_
  refine wp_get fkX10_52 dX10_refresh_1 hs rfl ?_
  refine wp_if_ne 8 dX10_refresh_4 (by decide) ⟨by omega, by omega⟩ (fun c_4 => ?_) (fun c_4 => ?_)
  · exact absurd rfl c_4
  · refine wp_vret dX10_refresh_7 rfl ?_
    exact ⟨rfl, rfl, rfl⟩

theorem c_refresh {S : ST} {st : Int} {K : KTup} (sp : SPI G h S st K) : CT G mX10_refresh [.ref (cB G)] h N 0 0 (fun r h' N' => r = none ∧ N' = N ∧ SPI G h' S 0 K) := by
  obtain ⟨hs, H, w, tp, nt, lt, kp, c⟩ := sp
  rcases c with ⟨⟨e, n, l, d⟩ | ⟨e, f⟩, gh⟩
  · subst e
    obtain ⟨eb, ee, lb, le, rm, ld, W, pe, pl, rb⟩ := n
    obtain ⟨b, e, g, u, inn, od, ct, l9, V, hu, hz⟩ := l
    obtain ⟨g2, u2, D, hu2, hz2⟩ := d
    refine (c_refresh1 hs H w tp W pe pl rb V hu hz D hu2 hz2).weak fun r h' N' q => ?_
    obtain ⟨q1, q2, q3, q4, q5, q6⟩ := q
    exact ⟨q1, q2, q3, q4, w, tp, nt.frame (fun z h1 h2 => q6 z (by omega)), lt.frame (fun z h1 h2 => q6 z (by omega)), ⟨kp.1.frame (fun z h1 h2 => q6 z (by omega)), kp.2⟩, ⟨Or.inr ⟨rfl, q5⟩, fun z hz => (q6 z (by omega)).trans (gh z hz)⟩⟩
  · subst e
    refine (c_refresh0 hs).weak fun r h' N' q => ?_
    obtain ⟨q1, q2, q3⟩ := q
    subst q2
    exact ⟨q1, q3, hs, H, w, tp, nt, lt, kp, Or.inr ⟨rfl, f⟩, gh⟩
end Chk

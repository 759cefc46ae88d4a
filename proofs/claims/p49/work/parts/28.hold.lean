/-! ===== what holds a task; the plan kept ===== -/
def holdF (S : ST) (b e inn : Nat → Int) (t : Nat) : Int := if S 9 t 0 = 0 ∧ inn t = 1 then (if b t > fday S b e t then 2 else if b t > fbeg (wkS S (S 6 t 0).toNat) (S 5 t 0) (S 8 t 0) 0 then 1 else 0) else -1
def lth (S : ST) (b e : Nat → Int) (t : Nat) : Nat → Nat → Int
  | 0, _ => -1
  | m + 1, i => if lT S i = (t : Int) ∧ b t ≤ fdayBy S b e i then (i : Int) else lth S b e t m (i + 1)
def lthF (S : ST) (b e inn : Nat → Int) (t : Nat) : Int := if holdF S b e inn t = 1 then lth S b e t (S 14 0 0).toNat 0 else -1
section Hold
variable {G : Ctx} {h : AH} {N a : Nat} {b e : Nat → Int} {g : Nat → Nat → Int} {u : Int} {inn od : Nat → Int} {ct ld : Int} {S : ST}
theorem c_fbS {c : Nat} {x y z : Int} (H : HP G S h) (w : WF S) (hc : c < 4) (h0 : 0 ≤ x) (h1 : x ≤ 1000) (h2 : 0 ≤ y) (h3 : y ≤ 40000) (h4 : 0 ≤ z) (h5 : z ≤ 40000) : CT G mX0_firstBegin [.ref (cB G + 8 + 2 * c), JV x, JV y, JV z] h N 0 0 (PV (JV (fbeg (wkS S c) x y z)) h N) := c_firstBegin (H.cal w hc) h0 h1 h2 h3 h4 h5
theorem c_holdOf {t : Nat} (V : LV G h a b e g u inn od ct ld) (H : HP G S h) (w : WF S) (pb : PB b e) (hi : ∀ x, inn x = 0 ∨ inn x = 1) (ht : t < 24) : CT G mX3_holdOf [.ref a, JV (t : Int)] h N 0 0 (PV (JV (holdF S b e inn t)) h N) := by
  refine CT_of (by decide +kernel) rfl (by simp [Value.category]) (Nat.le_of_ble_eq_true rfl) ?_
  change WP G mX3_holdOf _ noX _ _ h N 0 [some (.ref a), some (JV (t : Int)), none, none, none] []
  have wt := w.task ht
  have pt := pb t ht
  have h01 := hi t
  have hfd : -100000 ≤ fday S b e t ∧ fday S b e t ≤ 100000 := by
    have q := fday_r (b := b) (e := e) (M := 20000) w ht (by omega) (fun j h1 h2 => by have wi := w.at (i := j) (by have := w.nL; omega); have := pb (lF S j).toNat (by show (S 19 (S 18 j 0).toNat 0).toNat < 24; omega); exact ⟨this.1.2, this.2.2⟩)
    omega
  have hfb := fbeg_r (wk := wkS S (S 6 t 0).toNat) (l := S 5 t 0) (fr := S 8 t 0) (ef := 0) (M := 5000) (by omega) (by omega) (by omega)
  refine wp_aload_n dX3_holdOf_0 rfl ?_
  refine wp_get fkX3_33 dX3_holdOf_1 V.1 rfl ?_
  refine wp_get fkX3_46 dX3_holdOf_4 H.1 rfl ?_
  refine wp_iload_n dX3_holdOf_7 rfl ?_
  refine wp_aaload dX3_holdOf_8 H.2.2.2.1 rfl rfl (by omega) (by omega) (by omega) (if_pos (by omega)) ?_
  change WP G mX3_holdOf _ _ _ _ h N 9 [some (.ref a), some (JV (t : Int)), none, none, none] [.ref (cB G + 20 + 2 * t)]
  refine wp_astore_n dX3_holdOf_9 (Nat.le_of_ble_eq_true rfl) rfl ?_
  change WP G mX3_holdOf _ _ _ _ h N 10 [some (.ref a), some (JV (t : Int)), some (.ref (cB G + 20 + 2 * t)), none, none] []
  refine wp_aload_n dX3_holdOf_10 rfl ?_
  refine wp_get fkX3_50 dX3_holdOf_11 (H.2.2.2.2.2.2.2.2.2.2.1 t (by omega)) rfl ?_
  refine wp_if_ne 26 dX3_holdOf_14 (by decide) ⟨by omega, by omega⟩ (fun c_14 => ?_) (fun c_14 => ?_)
  · refine wp_iconst dX3_holdOf_26 ?_
    refine wp_iret dX3_holdOf_27 rfl ?_
    refine ⟨?_, rfl, rfl⟩
    rw [holdF, if_neg (by omega)]
  · refine wp_aload_n dX3_holdOf_17 rfl ?_
    refine wp_get fkX3_25 dX3_holdOf_18 V.1 rfl ?_
    refine wp_iload_n dX3_holdOf_21 rfl ?_
    refine wp_zaload dX3_holdOf_22 V.2.2.2.1 (by omega) (by omega) (by omega) ?_
    change WP G mX3_holdOf _ _ _ _ h N 23 [some (.ref a), some (JV (t : Int)), some (.ref (cB G + 20 + 2 * t)), none, none] [JV (inn t)]
    refine wp_if_ne 28 dX3_holdOf_23 (by decide) ⟨by omega, by omega⟩ (fun c_23 => ?_) (fun c_23 => ?_)
    · refine wp_aload_n dX3_holdOf_28 rfl ?_
      refine wp_get fkX3_12 dX3_holdOf_29 V.1 rfl ?_
      refine wp_get fkX3_126 dX3_holdOf_32 V.2.1.1 rfl ?_
      refine wp_iload_n dX3_holdOf_35 rfl ?_
      refine wp_iaload dX3_holdOf_36 V.2.1.2.1 (by omega) (by omega) (by omega) ?_
      change WP G mX3_holdOf _ _ _ _ h N 37 [some (.ref a), some (JV (t : Int)), some (.ref (cB G + 20 + 2 * t)), none, none] [JV (b t)]
      refine wp_istore_n dX3_holdOf_37 (Nat.le_of_ble_eq_true rfl) rfl ?_
      change WP G mX3_holdOf _ _ _ _ h N 38 [some (.ref a), some (JV (t : Int)), some (.ref (cB G + 20 + 2 * t)), some (JV (b t)), none] []
      refine wp_iload_n dX3_holdOf_38 rfl ?_
      refine wp_aload_n dX3_holdOf_39 rfl ?_
      refine wp_get fkX3_33 dX3_holdOf_40 V.1 rfl ?_
      refine wp_iload_n dX3_holdOf_43 rfl ?_
      refine wp_aload_n dX3_holdOf_44 rfl ?_
      refine wp_get fkX3_12 dX3_holdOf_45 V.1 rfl ?_
      refine wp_v2p (c_firstDay (N := N) H w V.2.1 pb ht) cvX3_70 dX3_holdOf_48 ⟨Nat.le_of_ble_eq_true rfl, Nat.le_of_ble_eq_true rfl⟩ (Nat.le_of_ble_eq_true rfl) H.1 rfl rfl ?_
      refine wp_icmp_le 56 dX3_holdOf_51 (by decide) ⟨by omega, by omega⟩ ⟨by omega, by omega⟩ (fun c_51 => ?_) (fun c_51 => ?_)
      · refine wp_iload_n dX3_holdOf_56 rfl ?_
        refine wp_aload_n dX3_holdOf_57 rfl ?_
        refine wp_get fkX3_33 dX3_holdOf_58 V.1 rfl ?_
        refine wp_iload_n dX3_holdOf_61 rfl ?_
        refine wp_v1p (c_calendarOf (N := N) H w ht) cvX3_78 dX3_holdOf_62 ⟨Nat.le_of_ble_eq_true rfl, Nat.le_of_ble_eq_true rfl⟩ (Nat.le_of_ble_eq_true rfl) H.1 rfl rfl ?_
        refine wp_aload_n dX3_holdOf_65 rfl ?_
        refine wp_get fkX3_82 dX3_holdOf_66 (H.2.2.2.2.2.2.2.2.2.2.1 t (by omega)) rfl ?_
        refine wp_aload_n dX3_holdOf_69 rfl ?_
        refine wp_get fkX3_157 dX3_holdOf_70 (H.2.2.2.2.2.2.2.2.2.2.1 t (by omega)) rfl ?_
        refine wp_iconst dX3_holdOf_73 ?_
        refine wp_v3p (c_fbS (N := N) (c := (S 6 t 0).toNat) H w (by omega) (by omega) (by omega) (by omega) (by omega) (by omega) (by omega)) cvX3_160 dX3_holdOf_74 ⟨Nat.le_of_ble_eq_true rfl, Nat.le_of_ble_eq_true rfl⟩ (Nat.le_of_ble_eq_true rfl) (H.2.2.2.2.2.2.2.1 (S 6 t 0).toNat (by omega)) rfl rfl ?_
        refine wp_icmp_le 84 dX3_holdOf_77 (by decide) ⟨by omega, by omega⟩ ⟨by omega, by omega⟩ (fun c_77 => ?_) (fun c_77 => ?_)
        · refine wp_iconst dX3_holdOf_84 ?_
          refine wp_istore dX3_holdOf_85 (Nat.le_of_ble_eq_true rfl) rfl ?_
          change WP G mX3_holdOf _ _ _ _ h N 87 [some (.ref a), some (JV (t : Int)), some (.ref (cB G + 20 + 2 * t)), some (JV (b t)), some (JV 0)] []
          refine wp_iload dX3_holdOf_87 rfl ?_
          refine wp_if_eq 96 dX3_holdOf_89 (by decide) ⟨by omega, by omega⟩ (fun c_89 => ?_) (fun c_89 => ?_)
          · refine wp_iconst dX3_holdOf_96 ?_
            refine wp_iret dX3_holdOf_97 rfl ?_
            refine ⟨?_, rfl, rfl⟩
            rw [holdF, if_pos ⟨by omega, by omega⟩, if_neg (by omega), if_neg (by omega)]
          · refine wp_iconst dX3_holdOf_92 ?_
            refine wp_goto 97 dX3_holdOf_93 (by decide) ?_
            refine wp_iret dX3_holdOf_97 rfl ?_
            exact absurd rfl c_89
        · refine wp_iconst dX3_holdOf_80 ?_
          refine wp_goto 85 dX3_holdOf_81 (by decide) ?_
          refine wp_istore dX3_holdOf_85 (Nat.le_of_ble_eq_true rfl) rfl ?_
          change WP G mX3_holdOf _ _ _ _ h N 87 [some (.ref a), some (JV (t : Int)), some (.ref (cB G + 20 + 2 * t)), some (JV (b t)), some (JV 1)] []
          refine wp_iload dX3_holdOf_87 rfl ?_
          refine wp_if_eq 96 dX3_holdOf_89 (by decide) ⟨by omega, by omega⟩ (fun c_89 => ?_) (fun c_89 => ?_)
          · refine wp_iconst dX3_holdOf_96 ?_
            refine wp_iret dX3_holdOf_97 rfl ?_
            exact absurd c_89 (by decide)
          · refine wp_iconst dX3_holdOf_92 ?_
            refine wp_goto 97 dX3_holdOf_93 (by decide) ?_
            refine wp_iret dX3_holdOf_97 rfl ?_
            refine ⟨?_, rfl, rfl⟩
            rw [holdF, if_pos ⟨by omega, by omega⟩, if_neg (by omega), if_pos (by omega)]
      · refine wp_iconst dX3_holdOf_54 ?_
        refine wp_iret dX3_holdOf_55 rfl ?_
        refine ⟨?_, rfl, rfl⟩
        rw [holdF, if_pos ⟨by omega, by omega⟩, if_pos (by omega)]
    · refine wp_iconst dX3_holdOf_26 ?_
      refine wp_iret dX3_holdOf_27 rfl ?_
      refine ⟨?_, rfl, rfl⟩
      rw [holdF, if_neg (by omega)]

theorem l_linkThatHolds {Q : PQ} {X : PX} {k9 n9 : Nat} {t : Nat} (V : LV G h a b e g u inn od ct ld) (H : HP G S h) (w : WF S) (pb : PB b e) (ht : t < 24) (hpre : ∀ j : Nat, (j : Int) < S 14 0 0 → lT S j = (t : Int) → 0 ≤ e (lF S j).toNat) : ∀ (m : Nat) (i : Nat) (x3 : Option Value), ((S 14 0 0).toNat - i = m) → (i ≤ 40) → (Q (some (JV (lth S b e t m i))) h N) → WP G mX3_linkThatHolds Q X k9 n9 h N 13 [some (.ref a), some (JV (t : Int)), some (JV (i : Int)), x3] [] := by
  intro m
  induction m with
  | zero =>
    intro i x3 hm hi kk
    have wL := w.nL
    refine wp_iload_n dX3_linkThatHolds_13 rfl ?_
    refine wp_aload_n dX3_linkThatHolds_14 rfl ?_
    refine wp_get fkX3_33 dX3_linkThatHolds_15 V.1 rfl ?_
    refine wp_get fkX3_168 dX3_linkThatHolds_18 H.1 rfl ?_
    refine wp_icmp_ge 74 dX3_linkThatHolds_21 (by decide) ⟨by omega, by omega⟩ ⟨by omega, by omega⟩ (fun c_21 => ?_) (fun c_21 => ?_)
    · refine wp_iconst dX3_linkThatHolds_74 ?_
      refine wp_iret dX3_linkThatHolds_75 rfl ?_
      exact kk
    · exact absurd c_21 (by omega)
  | succ m ih =>
    intro i x3 hm hi kk
    have wL := w.nL
    have pt := pb t ht
    refine wp_iload_n dX3_linkThatHolds_13 rfl ?_
    refine wp_aload_n dX3_linkThatHolds_14 rfl ?_
    refine wp_get fkX3_33 dX3_linkThatHolds_15 V.1 rfl ?_
    refine wp_get fkX3_168 dX3_linkThatHolds_18 H.1 rfl ?_
    refine wp_icmp_ge 74 dX3_linkThatHolds_21 (by decide) ⟨by omega, by omega⟩ ⟨by omega, by omega⟩ (fun c_21 => ?_) (fun c_21 => ?_)
    · exact absurd c_21 (by omega)
    · have wi := w.at (i := i) (by omega)
      refine wp_aload_n dX3_linkThatHolds_24 rfl ?_
      refine wp_get fkX3_33 dX3_linkThatHolds_25 V.1 rfl ?_
      refine wp_get fkX3_171 dX3_linkThatHolds_28 H.1 rfl ?_
      refine wp_iload_n dX3_linkThatHolds_31 rfl ?_
      refine wp_aaload dX3_linkThatHolds_32 H.2.2.2.2.1 rfl rfl (by omega) (by omega) (by omega) (if_pos (by omega)) ?_
      change WP G mX3_linkThatHolds _ _ _ _ h N 33 [some (.ref a), some (JV (t : Int)), some (JV (i : Int)), x3] [.ref (cB G + 68 + (S 18 i 0).toNat)]
      refine wp_astore_n dX3_linkThatHolds_33 (Nat.le_of_ble_eq_true rfl) rfl ?_
      change WP G mX3_linkThatHolds _ _ _ _ h N 34 [some (.ref a), some (JV (t : Int)), some (JV (i : Int)), some (.ref (cB G + 68 + (S 18 i 0).toNat))] []
      refine wp_aload_n dX3_linkThatHolds_34 rfl ?_
      refine wp_get fkX3_175 dX3_linkThatHolds_35 (H.2.2.2.2.2.2.2.2.2.2.2.2 (S 18 i 0).toNat (by omega)) rfl ?_
      refine wp_iload_n dX3_linkThatHolds_38 rfl ?_
      refine wp_icmp_ne 68 dX3_linkThatHolds_39 (by decide) ⟨by omega, by omega⟩ ⟨by omega, by omega⟩ (fun c_39 => ?_) (fun c_39 => ?_)
      · rw [lth, if_neg (fun v => by have v1 : S 20 (S 18 i 0).toNat 0 = (t : Int) := v.1; have v2 := v.2; omega)] at kk
        refine wp_iinc dX3_linkThatHolds_68 rfl (Nat.le_of_ble_eq_true rfl) rfl ?_
        change WP G mX3_linkThatHolds _ _ _ _ h N 71 [some (.ref a), some (JV (t : Int)), some (JV ((i : Int) + 1)), some (.ref (cB G + 68 + (S 18 i 0).toNat))] []
        refine wp_goto 13 dX3_linkThatHolds_71 (by decide) ?_
        exact ih (i + 1) _ (by omega) (by omega) kk
      · have pf := pb (S 19 (S 18 i 0).toNat 0).toNat (by omega)
        have hp9 := hpre i (by omega) (by show S 20 (S 18 i 0).toNat 0 = (t : Int); omega)
        have hea : 0 ≤ eAsk e (S 19 (S 18 i 0).toNat 0) (S 21 (S 18 i 0).toNat 0) (S 22 (S 18 i 0).toNat 0) := by
          unfold eAsk
          have hp9 : 0 ≤ e (S 19 (S 18 i 0).toNat 0).toNat := hp9
          split
          · omega
          · split <;> omega
        have wt2 := w.task (t := (S 20 (S 18 i 0).toNat 0).toNat) (by omega)
        have hfb : -100000 ≤ fdayBy S b e i ∧ fdayBy S b e i ≤ 100000 := by
          have q1 := bAsk_r (k := S 21 (S 18 i 0).toNat 0) pb wi.2.1 wi.2.2.2.2
          have q2 := eAsk_r (b := b) (k := S 21 (S 18 i 0).toNat 0) pb wi.2.1 wi.2.2.2.2
          have q := fbeg_r (wk := wkS S (S 6 (lT S i).toNat 0).toNat) (l := S 5 (lT S i).toNat 0) (fr := max (S 8 (lT S i).toNat 0) (bAsk b e (lF S i) (lK S i) (lG S i))) (ef := eAsk e (lF S i) (lK S i) (lG S i)) (M := 30000) (by show 0 ≤ max (S 8 (S 20 (S 18 i 0).toNat 0).toNat 0) (bAsk b e (S 19 (S 18 i 0).toNat 0) (S 21 (S 18 i 0).toNat 0) (S 22 (S 18 i 0).toNat 0)) ∧ max (S 8 (S 20 (S 18 i 0).toNat 0).toNat 0) (bAsk b e (S 19 (S 18 i 0).toNat 0) (S 21 (S 18 i 0).toNat 0) (S 22 (S 18 i 0).toNat 0)) ≤ 30000; omega) (by show 0 ≤ eAsk e (S 19 (S 18 i 0).toNat 0) (S 21 (S 18 i 0).toNat 0) (S 22 (S 18 i 0).toNat 0) ∧ eAsk e (S 19 (S 18 i 0).toNat 0) (S 21 (S 18 i 0).toNat 0) (S 22 (S 18 i 0).toNat 0) ≤ 30000; omega) (by omega)
          have q3 : 0 ≤ max (S 8 (lT S i).toNat 0) (bAsk b e (lF S i) (lK S i) (lG S i)) := by show 0 ≤ max (S 8 (S 20 (S 18 i 0).toNat 0).toNat 0) (bAsk b e (S 19 (S 18 i 0).toNat 0) (S 21 (S 18 i 0).toNat 0) (S 22 (S 18 i 0).toNat 0)); omega
          unfold fdayBy
          omega
        refine wp_aload_n dX3_linkThatHolds_42 rfl ?_
        refine wp_get fkX3_33 dX3_linkThatHolds_43 V.1 rfl ?_
        refine wp_aload_n dX3_linkThatHolds_46 rfl ?_
        refine wp_aload_n dX3_linkThatHolds_47 rfl ?_
        refine wp_get fkX3_12 dX3_linkThatHolds_48 V.1 rfl ?_
        refine wp_v2p (c_firstDayBy (N := N) H w V.2.1 pb (by omega) hea) cvX3_180 dX3_linkThatHolds_51 ⟨Nat.le_of_ble_eq_true rfl, Nat.le_of_ble_eq_true rfl⟩ (Nat.le_of_ble_eq_true rfl) H.1 rfl rfl ?_
        refine wp_aload_n dX3_linkThatHolds_54 rfl ?_
        refine wp_get fkX3_12 dX3_linkThatHolds_55 V.1 rfl ?_
        refine wp_get fkX3_126 dX3_linkThatHolds_58 V.2.1.1 rfl ?_
        refine wp_iload_n dX3_linkThatHolds_61 rfl ?_
        refine wp_iaload dX3_linkThatHolds_62 V.2.1.2.1 (by omega) (by omega) (by omega) ?_
        change WP G mX3_linkThatHolds _ _ _ _ h N 63 [some (.ref a), some (JV (t : Int)), some (JV (i : Int)), some (.ref (cB G + 68 + (S 18 i 0).toNat))] [JV (b t), JV (fdayBy S b e i)]
        refine wp_icmp_lt 68 dX3_linkThatHolds_63 (by decide) ⟨by omega, by omega⟩ ⟨by omega, by omega⟩ (fun c_63 => ?_) (fun c_63 => ?_)
        · rw [lth, if_neg (fun v => by have v1 : S 20 (S 18 i 0).toNat 0 = (t : Int) := v.1; have v2 := v.2; omega)] at kk
          refine wp_iinc dX3_linkThatHolds_68 rfl (Nat.le_of_ble_eq_true rfl) rfl ?_
          change WP G mX3_linkThatHolds _ _ _ _ h N 71 [some (.ref a), some (JV (t : Int)), some (JV ((i : Int) + 1)), some (.ref (cB G + 68 + (S 18 i 0).toNat))] []
          refine wp_goto 13 dX3_linkThatHolds_71 (by decide) ?_
          exact ih (i + 1) _ (by omega) (by omega) kk
        · refine wp_iload_n dX3_linkThatHolds_66 rfl ?_
          refine wp_iret dX3_linkThatHolds_67 rfl ?_
          rw [lth, if_pos ⟨by show S 20 (S 18 i 0).toNat 0 = (t : Int); omega, by omega⟩] at kk
          exact kk

theorem c_linkThatHolds {t : Nat} (V : LV G h a b e g u inn od ct ld) (H : HP G S h) (w : WF S) (pb : PB b e) (hi : ∀ x, inn x = 0 ∨ inn x = 1) (ht : t < 24) (hpre : S 9 t 0 = 0 → inn t = 1 → ∀ j : Nat, (j : Int) < S 14 0 0 → lT S j = (t : Int) → 0 ≤ e (lF S j).toNat) : CT G mX3_linkThatHolds [.ref a, JV (t : Int)] h N 0 0 (PV (JV (lthF S b e inn t)) h N) := by
  refine CT_of (by decide +kernel) rfl (by simp [Value.category]) (Nat.le_of_ble_eq_true rfl) ?_
  change WP G mX3_linkThatHolds _ noX _ _ h N 0 [some (.ref a), some (JV (t : Int)), none, none] []
  refine wp_aload_n dX3_linkThatHolds_0 rfl ?_
  refine wp_iload_n dX3_linkThatHolds_1 rfl ?_
  refine wp_v1p (c_holdOf (N := N) V H w pb hi ht) cvX3_164 dX3_linkThatHolds_2 ⟨Nat.le_of_ble_eq_true rfl, Nat.le_of_ble_eq_true rfl⟩ (Nat.le_of_ble_eq_true rfl) V.1 rfl rfl ?_
  have hhr : -1 ≤ holdF S b e inn t ∧ holdF S b e inn t ≤ 2 := by
    unfold holdF
    split
    · split
      · omega
      · split <;> omega
    · omega
  refine wp_iconst dX3_linkThatHolds_5 ?_
  refine wp_icmp_eq 11 dX3_linkThatHolds_6 (by decide) ⟨by omega, by omega⟩ ⟨by omega, by omega⟩ (fun c_6 => ?_) (fun c_6 => ?_)
  · refine wp_iconst dX3_linkThatHolds_11 ?_
    refine wp_istore_n dX3_linkThatHolds_12 (Nat.le_of_ble_eq_true rfl) rfl ?_
    change WP G mX3_linkThatHolds _ _ _ _ h N 13 [some (.ref a), some (JV (t : Int)), some (JV 0), none] []
    have h9 : S 9 t 0 = 0 ∧ inn t = 1 := by
      refine Classical.byContradiction fun hc => ?_
      rw [holdF, if_neg hc] at c_6
      exact absurd c_6 (by decide)
    have wL := w.nL
    refine l_linkThatHolds V H w pb ht (hpre h9.1 h9.2) _ 0 none rfl (by omega) ⟨?_, rfl, rfl⟩
    rw [lthF, if_pos c_6]
    rfl
  · refine wp_iconst dX3_linkThatHolds_9 ?_
    refine wp_iret dX3_linkThatHolds_10 rfl ?_
    refine ⟨?_, rfl, rfl⟩
    rw [lthF, if_neg c_6]

end Hold

/-! ===== the plan kept ===== -/
def KP (G : Ctx) (h : AH) (a : Nat) (b e inn ws kw kf : Nat → Int) (kr : Nat → Nat → Int) : Prop := h a = some (eO 2 [.ref (cB G + 1), .ref (a + 1), .ref (a + 4), .ref (a + 5), .ref (a + 6)]) ∧ IsPlan G h (a + 1) b e ∧ h (a + 4) = some (eZ G 24 inn) ∧ h (a + 5) = some (eI G 24 ws) ∧ h (a + 6) = some (eQ G 5 4 (fun i => if i < 4 then some (a + 7 + 2 * i) else none)) ∧ ∀ c, c < 4 → IsCal G h (a + 7 + 2 * c) (kw c) (kf c) (kr c)
theorem IsCal.fr {G : Ctx} {h h' : AH} {a : Nat} {w fc : Int} {f : Nat → Int} (p : IsCal G h a w fc f) (h0 : h' a = h a) (h1 : h' (a + 1) = h (a + 1)) : IsCal G h' a w fc f := ⟨h0.trans p.1, h1.trans p.2.1, p.2.2⟩
section Kp
variable {G : Ctx} {h h' : AH} {N a : Nat} {b e inn ws kw kf : Nat → Int} {kr : Nat → Nat → Int} {S : ST}
theorem KP.frame (p : KP G h a b e inn ws kw kf kr) (hk : ∀ q, a ≤ q → q < a + 15 → h' q = h q) : KP G h' a b e inn ws kw kf kr :=
  ⟨(hk _ (by omega) (by omega)).trans p.1, p.2.1.frame (fun q h1 h2 => hk q (by omega) (by omega)), (hk _ (by omega) (by omega)).trans p.2.2.1, (hk _ (by omega) (by omega)).trans p.2.2.2.1, (hk _ (by omega) (by omega)).trans p.2.2.2.2.1, fun c hc => (p.2.2.2.2.2 c hc).fr (hk _ (by omega) (by omega)) (hk _ (by omega) (by omega))⟩
theorem KP.inU {inn' : Nat → Int} (p : KP G h a b e inn ws kw kf kr) (q : h' = hup h (a + 4) (eZ G 24 inn')) : KP G h' a b e inn' ws kw kf kr :=
  ⟨(hup_at q (by omega)).trans p.1, p.2.1.frame (fun x h1 h2 => hup_at q (by omega)), by rw [q]; exact hup_self _ _ _, (hup_at q (by omega)).trans p.2.2.2.1, (hup_at q (by omega)).trans p.2.2.2.2.1, fun c hc => (p.2.2.2.2.2 c hc).fr (hup_at q (by omega)) (hup_at q (by omega))⟩
theorem KP.wsU {ws' : Nat → Int} (p : KP G h a b e inn ws kw kf kr) (q : h' = hup h (a + 5) (eI G 24 ws')) : KP G h' a b e inn ws' kw kf kr :=
  ⟨(hup_at q (by omega)).trans p.1, p.2.1.frame (fun x h1 h2 => hup_at q (by omega)), (hup_at q (by omega)).trans p.2.2.1, by rw [q]; exact hup_self _ _ _, (hup_at q (by omega)).trans p.2.2.2.2.1, fun c hc => (p.2.2.2.2.2 c hc).fr (hup_at q (by omega)) (hup_at q (by omega))⟩
theorem KP.pl {b' e' : Nat → Int} (p : KP G h a b e inn ws kw kf kr) (q : IsPlan G h' (a + 1) b' e') (f : FR (a + 1 + 1) (a + 1 + 3) h h') : KP G h' a b' e' inn ws kw kf kr :=
  ⟨(f _ (by omega)).trans p.1, q, (f _ (by omega)).trans p.2.2.1, (f _ (by omega)).trans p.2.2.2.1, (f _ (by omega)).trans p.2.2.2.2.1, fun c hc => (p.2.2.2.2.2 c hc).fr (f _ (by omega)) (f _ (by omega))⟩
theorem KP.cl {c : Nat} {x y : Int} {z : Nat → Int} (p : KP G h a b e inn ws kw kf kr) (hc : c < 4) (q : IsCal G h' (a + 7 + 2 * c) x y z) (f : FR (a + 7 + 2 * c) (a + 7 + 2 * c + 2) h h') : KP G h' a b e inn ws (fup kw c x) (fup kf c y) (fun c' => if c' = c then z else kr c') := by
  refine ⟨(f _ (by omega)).trans p.1, p.2.1.frame (fun x h1 h2 => f x (by omega)), (f _ (by omega)).trans p.2.2.1, (f _ (by omega)).trans p.2.2.2.1, (f _ (by omega)).trans p.2.2.2.2.1, fun c' hc' => ?_⟩
  by_cases hh : c' = c
  · subst hh
    rw [fupe, fupe]
    show IsCal G h' _ x y (if c' = c' then z else kr c')
    rw [if_pos rfl]
    exact q
  · rw [fupn hh, fupn hh]
    show IsCal G h' _ _ _ (if c' = c then z else kr c')
    rw [if_neg hh]
    exact (p.2.2.2.2.2 c' hc').fr (f _ (by omega)) (f _ (by omega))
def partF (S : ST) (b e ws kw : Nat → Int) (kr : Nat → Nat → Int) (t : Nat) (d : Int) : Int := if cnt (wkd (kw (S 6 t 0).toNat) (kr (S 6 t 0).toNat)) (e t - b t).toNat (b t).toNat = 0 then 0 else ws t * cnt (wkd (kw (S 6 t 0).toNat) (kr (S 6 t 0).toNat)) (min (e t) d - b t).toNat (b t).toNat / cnt (wkd (kw (S 6 t 0).toNat) (kr (S 6 t 0).toNat)) (e t - b t).toNat (b t).toNat
def planF (S : ST) (b e inn ws kw : Nat → Int) (kr : Nat → Nat → Int) (d : Int) : Nat → Nat → Int
  | 0, _ => 0
  | m + 1, i => (if inn i = 0 then 0 else partF S b e ws kw kr i d) + planF S b e inn ws kw kr d m (i + 1)
def earnF (S : ST) (inn ws : Nat → Int) : Nat → Nat → Int
  | 0, _ => 0
  | m + 1, i => (if inn i = 1 ∧ S 9 i 0 = 1 then ws i else 0) + earnF S inn ws m (i + 1)
def KR (b e inn ws : Nat → Int) : Prop := (∀ x, inn x = 0 ∨ inn x = 1) ∧ ∀ x, x < 24 → (-1 ≤ b x ∧ b x ≤ 5500) ∧ (-1 ≤ e x ∧ e x ≤ 5500) ∧ (0 ≤ ws x ∧ ws x ≤ 71280) ∧ (inn x = 1 → 0 ≤ b x)
theorem l_earnedNow {Q : PQ} {X : PX} {k9 n9 : Nat} (K : KP G h a b e inn ws kw kf kr) (H : HP G S h) (w : WF S) (kq : KR b e inn ws) : ∀ (m : Nat) (i : Nat) (y : Int), ((S 13 0 0).toNat - i = m) → (i ≤ 24) → (Q (some (JV (y + earnF S inn ws m i))) h N) → WP G mX2_earnedNow Q X k9 n9 h N 4 [some (.ref a), some (JV y), some (JV (i : Int))] [] := by
  intro m
  induction m with
  | zero =>
    intro i y hm hi kk
    have wT := w.nT
    refine wp_iload_n dX2_earnedNow_4 rfl ?_
    refine wp_aload_n dX2_earnedNow_5 rfl ?_
    refine wp_get fkX2_32 dX2_earnedNow_6 K.1 rfl ?_
    refine wp_get fkX2_37 dX2_earnedNow_9 H.1 rfl ?_
    refine wp_icmp_ge 54 dX2_earnedNow_12 (by decide) ⟨by omega, by omega⟩ ⟨by omega, by omega⟩ (fun c_12 => ?_) (fun c_12 => ?_)
    · refine wp_iload_n dX2_earnedNow_54 rfl ?_
      refine wp_iret dX2_earnedNow_55 rfl ?_
      simp only [earnF, Int.add_zero] at kk
      exact kk
    · exact absurd c_12 (by omega)
  | succ m ih =>
    intro i y hm hi kk
    have wT := w.nT
    have h01 := kq.1 i
    refine wp_iload_n dX2_earnedNow_4 rfl ?_
    refine wp_aload_n dX2_earnedNow_5 rfl ?_
    refine wp_get fkX2_32 dX2_earnedNow_6 K.1 rfl ?_
    refine wp_get fkX2_37 dX2_earnedNow_9 H.1 rfl ?_
    refine wp_icmp_ge 54 dX2_earnedNow_12 (by decide) ⟨by omega, by omega⟩ ⟨by omega, by omega⟩ (fun c_12 => ?_) (fun c_12 => ?_)
    · exact absurd c_12 (by omega)
    · have wt := w.task (t := i) (by omega)
      refine wp_aload_n dX2_earnedNow_15 rfl ?_
      refine wp_get fkX2_18 dX2_earnedNow_16 K.1 rfl ?_
      refine wp_iload_n dX2_earnedNow_19 rfl ?_
      refine wp_zaload dX2_earnedNow_20 K.2.2.1 (by omega) (by omega) (by omega) ?_
      change WP G mX2_earnedNow _ _ _ _ h N 21 [some (.ref a), some (JV y), some (JV (i : Int))] [JV (inn i)]
      refine wp_if_eq 48 dX2_earnedNow_21 (by decide) ⟨by omega, by omega⟩ (fun c_21 => ?_) (fun c_21 => ?_)
      · rw [earnF, if_neg (fun v => by have v1 := v.1; have v2 := v.2; omega), Int.zero_add] at kk
        refine wp_iinc dX2_earnedNow_48 rfl (Nat.le_of_ble_eq_true rfl) rfl ?_
        change WP G mX2_earnedNow _ _ _ _ h N 51 [some (.ref a), some (JV y), some (JV ((i : Int) + 1))] []
        refine wp_goto 4 dX2_earnedNow_51 (by decide) ?_
        exact ih (i + 1) y (by omega) (by omega) kk
      · refine wp_aload_n dX2_earnedNow_24 rfl ?_
        refine wp_get fkX2_32 dX2_earnedNow_25 K.1 rfl ?_
        refine wp_get fkX2_70 dX2_earnedNow_28 H.1 rfl ?_
        refine wp_iload_n dX2_earnedNow_31 rfl ?_
        refine wp_aaload dX2_earnedNow_32 H.2.2.2.1 rfl rfl (by omega) (by omega) (by omega) (if_pos (by omega)) ?_
        change WP G mX2_earnedNow _ _ _ _ h N 33 [some (.ref a), some (JV y), some (JV (i : Int))] [.ref (cB G + 20 + 2 * i)]
        refine wp_get fkX2_87 dX2_earnedNow_33 (H.2.2.2.2.2.2.2.2.2.2.1 i (by omega)) rfl ?_
        refine wp_if_eq 48 dX2_earnedNow_36 (by decide) ⟨by omega, by omega⟩ (fun c_36 => ?_) (fun c_36 => ?_)
        · rw [earnF, if_neg (fun v => by have v1 := v.1; have v2 := v.2; omega), Int.zero_add] at kk
          refine wp_iinc dX2_earnedNow_48 rfl (Nat.le_of_ble_eq_true rfl) rfl ?_
          change WP G mX2_earnedNow _ _ _ _ h N 51 [some (.ref a), some (JV y), some (JV ((i : Int) + 1))] []
          refine wp_goto 4 dX2_earnedNow_51 (by decide) ?_
          exact ih (i + 1) y (by omega) (by omega) kk
        · rw [earnF, if_pos ⟨by omega, by omega⟩, ← Int.add_assoc] at kk
          refine wp_iload_n dX2_earnedNow_39 rfl ?_
          refine wp_aload_n dX2_earnedNow_40 rfl ?_
          refine wp_get fkX2_22 dX2_earnedNow_41 K.1 rfl ?_
          refine wp_iload_n dX2_earnedNow_44 rfl ?_
          refine wp_iaload dX2_earnedNow_45 K.2.2.2.1 (by omega) (by omega) (by omega) ?_
          change WP G mX2_earnedNow _ _ _ _ h N 46 [some (.ref a), some (JV y), some (JV (i : Int))] [JV (ws i), JV y]
          refine wp_iadd dX2_earnedNow_46 ?_
          refine wp_istore_n dX2_earnedNow_47 (Nat.le_of_ble_eq_true rfl) rfl ?_
          change WP G mX2_earnedNow _ _ _ _ h N 48 [some (.ref a), some (JV (y + (ws i))), some (JV (i : Int))] []
          refine wp_iinc dX2_earnedNow_48 rfl (Nat.le_of_ble_eq_true rfl) rfl ?_
          change WP G mX2_earnedNow _ _ _ _ h N 51 [some (.ref a), some (JV (y + (ws i))), some (JV ((i : Int) + 1))] []
          refine wp_goto 4 dX2_earnedNow_51 (by decide) ?_
          exact ih (i + 1) (y + ws i) (by omega) (by omega) kk

theorem c_earnedNow (K : KP G h a b e inn ws kw kf kr) (H : HP G S h) (w : WF S) (kq : KR b e inn ws) : CT G mX2_earnedNow [.ref a] h N 0 0 (PV (JV (earnF S inn ws (S 13 0 0).toNat 0)) h N) := by
  refine CT_of (by decide +kernel) rfl (by simp [Value.category]) (Nat.le_of_ble_eq_true rfl) ?_
  change WP G mX2_earnedNow _ noX _ _ h N 0 [some (.ref a), none, none] []
  refine wp_iconst dX2_earnedNow_0 ?_
  refine wp_istore_n dX2_earnedNow_1 (Nat.le_of_ble_eq_true rfl) rfl ?_
  change WP G mX2_earnedNow _ _ _ _ h N 2 [some (.ref a), some (JV 0), none] []
  refine wp_iconst dX2_earnedNow_2 ?_
  refine wp_istore_n dX2_earnedNow_3 (Nat.le_of_ble_eq_true rfl) rfl ?_
  change WP G mX2_earnedNow _ _ _ _ h N 4 [some (.ref a), some (JV 0), some (JV 0)] []
  have wT := w.nT
  refine l_earnedNow K H w kq _ 0 0 rfl (by omega) ?_
  rw [Int.zero_add]
  exact ⟨rfl, rfl, rfl⟩

theorem c_partUpTo {t : Nat} {d : Int} (K : KP G h a b e inn ws kw kf kr) (H : HP G S h) (w : WF S) (kq : KR b e inn ws) (ht : t < 24) (hi1 : inn t = 1) (hd : -40000 ≤ d ∧ d ≤ 40000) : CT G mX2_partUpTo [.ref a, JV (t : Int), JV d] h N 0 0 (PV (JV (partF S b e ws kw kr t d)) h N) := by
  refine CT_of (by decide +kernel) rfl (by simp [Value.category]) (Nat.le_of_ble_eq_true rfl) ?_
  change WP G mX2_partUpTo _ noX _ _ h N 0 [some (.ref a), some (JV (t : Int)), some (JV d), none, none, none] []
  have wt := w.task ht
  have h9 := kq.2 t ht
  have hb0 := h9.2.2.2 hi1
  have ca := cnt_r (wkd (kw (S 6 t 0).toNat) (kr (S 6 t 0).toNat)) (e t - b t).toNat (b t).toNat
  have cb := cnt_r (wkd (kw (S 6 t 0).toNat) (kr (S 6 t 0).toNat)) (min (e t) d - b t).toNat (b t).toNat
  have hmul : 0 ≤ ws t * cnt (wkd (kw (S 6 t 0).toNat) (kr (S 6 t 0).toNat)) (min (e t) d - b t).toNat (b t).toNat ∧ ws t * cnt (wkd (kw (S 6 t 0).toNat) (kr (S 6 t 0).toNat)) (min (e t) d - b t).toNat (b t).toNat ≤ 71280 * 5500 := ⟨Int.mul_nonneg (by omega) (by omega), Int.mul_le_mul (by omega) (by omega) (by omega) (by omega)⟩
  refine wp_aload_n dX2_partUpTo_0 rfl ?_
  refine wp_get fkX2_28 dX2_partUpTo_1 K.1 rfl ?_
  refine wp_aload_n dX2_partUpTo_4 rfl ?_
  refine wp_get fkX2_32 dX2_partUpTo_5 K.1 rfl ?_
  refine wp_get fkX2_70 dX2_partUpTo_8 H.1 rfl ?_
  refine wp_iload_n dX2_partUpTo_11 rfl ?_
  refine wp_aaload dX2_partUpTo_12 H.2.2.2.1 rfl rfl (by omega) (by omega) (by omega) (if_pos (by omega)) ?_
  change WP G mX2_partUpTo _ _ _ _ h N 13 [some (.ref a), some (JV (t : Int)), some (JV d), none, none, none] [.ref (cB G + 20 + 2 * t), .ref (a + 6)]
  refine wp_get fkX2_74 dX2_partUpTo_13 (H.2.2.2.2.2.2.2.2.2.2.1 t (by omega)) rfl ?_
  refine wp_aaload dX2_partUpTo_16 K.2.2.2.2.1 rfl rfl (by omega) (by omega) (by omega) (if_pos (by omega)) ?_
  refine wp_astore_n dX2_partUpTo_17 (Nat.le_of_ble_eq_true rfl) rfl ?_
  change WP G mX2_partUpTo _ _ _ _ h N 18 [some (.ref a), some (JV (t : Int)), some (JV d), some (.ref (a + 7 + 2 * (S 6 t 0).toNat)), none, none] []
  refine wp_aload_n dX2_partUpTo_18 rfl ?_
  refine wp_aload_n dX2_partUpTo_19 rfl ?_
  refine wp_get fkX2_12 dX2_partUpTo_20 K.1 rfl ?_
  refine wp_get fkX2_47 dX2_partUpTo_23 K.2.1.1 rfl ?_
  refine wp_iload_n dX2_partUpTo_26 rfl ?_
  refine wp_iaload dX2_partUpTo_27 K.2.1.2.1 (by omega) (by omega) (by omega) ?_
  change WP G mX2_partUpTo _ _ _ _ h N 28 [some (.ref a), some (JV (t : Int)), some (JV d), some (.ref (a + 7 + 2 * (S 6 t 0).toNat)), none, none] [JV (b t), .ref (a + 7 + 2 * (S 6 t 0).toNat)]
  refine wp_aload_n dX2_partUpTo_28 rfl ?_
  refine wp_get fkX2_12 dX2_partUpTo_29 K.1 rfl ?_
  refine wp_get fkX2_50 dX2_partUpTo_32 K.2.1.1 rfl ?_
  refine wp_iload_n dX2_partUpTo_35 rfl ?_
  refine wp_iaload dX2_partUpTo_36 K.2.1.2.2 (by omega) (by omega) (by omega) ?_
  change WP G mX2_partUpTo _ _ _ _ h N 37 [some (.ref a), some (JV (t : Int)), some (JV d), some (.ref (a + 7 + 2 * (S 6 t 0).toNat)), none, none] [JV (e t), JV (b t), .ref (a + 7 + 2 * (S 6 t 0).toNat)]
  refine wp_v2p (c_countWithin (N := N) (K.2.2.2.2.2 (S 6 t 0).toNat (by omega)) (by omega) (by omega) (by omega) (by omega)) cvX2_79 dX2_partUpTo_37 ⟨Nat.le_of_ble_eq_true rfl, Nat.le_of_ble_eq_true rfl⟩ (Nat.le_of_ble_eq_true rfl) (K.2.2.2.2.2 (S 6 t 0).toNat (by omega)).1 rfl rfl ?_
  refine wp_istore dX2_partUpTo_40 (Nat.le_of_ble_eq_true rfl) rfl ?_
  change WP G mX2_partUpTo _ _ _ _ h N 42 [some (.ref a), some (JV (t : Int)), some (JV d), some (.ref (a + 7 + 2 * (S 6 t 0).toNat)), some (JV (cnt (wkd (kw (S 6 t 0).toNat) (kr (S 6 t 0).toNat)) (e t - b t).toNat (b t).toNat)), none] []
  refine wp_iload dX2_partUpTo_42 rfl ?_
  refine wp_if_ne 49 dX2_partUpTo_44 (by decide) ⟨by omega, by omega⟩ (fun c_44 => ?_) (fun c_44 => ?_)
  · refine wp_aload_n dX2_partUpTo_49 rfl ?_
    refine wp_aload_n dX2_partUpTo_50 rfl ?_
    refine wp_get fkX2_12 dX2_partUpTo_51 K.1 rfl ?_
    refine wp_get fkX2_47 dX2_partUpTo_54 K.2.1.1 rfl ?_
    refine wp_iload_n dX2_partUpTo_57 rfl ?_
    refine wp_iaload dX2_partUpTo_58 K.2.1.2.1 (by omega) (by omega) (by omega) ?_
    change WP G mX2_partUpTo _ _ _ _ h N 59 [some (.ref a), some (JV (t : Int)), some (JV d), some (.ref (a + 7 + 2 * (S 6 t 0).toNat)), some (JV (cnt (wkd (kw (S 6 t 0).toNat) (kr (S 6 t 0).toNat)) (e t - b t).toNat (b t).toNat)), none] [JV (b t), .ref (a + 7 + 2 * (S 6 t 0).toNat)]
    refine wp_aload_n dX2_partUpTo_59 rfl ?_
    refine wp_get fkX2_12 dX2_partUpTo_60 K.1 rfl ?_
    refine wp_get fkX2_50 dX2_partUpTo_63 K.2.1.1 rfl ?_
    refine wp_iload_n dX2_partUpTo_66 rfl ?_
    refine wp_iaload dX2_partUpTo_67 K.2.1.2.2 (by omega) (by omega) (by omega) ?_
    change WP G mX2_partUpTo _ _ _ _ h N 68 [some (.ref a), some (JV (t : Int)), some (JV d), some (.ref (a + 7 + 2 * (S 6 t 0).toNat)), some (JV (cnt (wkd (kw (S 6 t 0).toNat) (kr (S 6 t 0).toNat)) (e t - b t).toNat (b t).toNat)), none] [JV (e t), JV (b t), .ref (a + 7 + 2 * (S 6 t 0).toNat)]
    refine wp_iload_n dX2_partUpTo_68 rfl ?_
    refine wp_min dX2_partUpTo_69 maX2_82 w_min (Nat.le_of_ble_eq_true rfl) (Nat.le_of_ble_eq_true rfl) ⟨by omega, by omega⟩ ⟨by omega, by omega⟩ ?_
    refine wp_v2p (c_countWithin (N := N) (K.2.2.2.2.2 (S 6 t 0).toNat (by omega)) (by omega) (by omega) (by omega) (by omega)) cvX2_79 dX2_partUpTo_72 ⟨Nat.le_of_ble_eq_true rfl, Nat.le_of_ble_eq_true rfl⟩ (Nat.le_of_ble_eq_true rfl) (K.2.2.2.2.2 (S 6 t 0).toNat (by omega)).1 rfl rfl ?_
    refine wp_istore dX2_partUpTo_75 (Nat.le_of_ble_eq_true rfl) rfl ?_
    change WP G mX2_partUpTo _ _ _ _ h N 77 [some (.ref a), some (JV (t : Int)), some (JV d), some (.ref (a + 7 + 2 * (S 6 t 0).toNat)), some (JV (cnt (wkd (kw (S 6 t 0).toNat) (kr (S 6 t 0).toNat)) (e t - b t).toNat (b t).toNat)), some (JV (cnt (wkd (kw (S 6 t 0).toNat) (kr (S 6 t 0).toNat)) (min (e t) d - b t).toNat (b t).toNat))] []
    refine wp_aload_n dX2_partUpTo_77 rfl ?_
    refine wp_get fkX2_22 dX2_partUpTo_78 K.1 rfl ?_
    refine wp_iload_n dX2_partUpTo_81 rfl ?_
    refine wp_iaload dX2_partUpTo_82 K.2.2.2.1 (by omega) (by omega) (by omega) ?_
    change WP G mX2_partUpTo _ _ _ _ h N 83 [some (.ref a), some (JV (t : Int)), some (JV d), some (.ref (a + 7 + 2 * (S 6 t 0).toNat)), some (JV (cnt (wkd (kw (S 6 t 0).toNat) (kr (S 6 t 0).toNat)) (e t - b t).toNat (b t).toNat)), some (JV (cnt (wkd (kw (S 6 t 0).toNat) (kr (S 6 t 0).toNat)) (min (e t) d - b t).toNat (b t).toNat))] [JV (ws t)]
    refine wp_iload dX2_partUpTo_83 rfl ?_
    refine wp_imul dX2_partUpTo_85 ?_
    refine wp_iload dX2_partUpTo_86 rfl ?_
    refine wp_idiv dX2_partUpTo_88 ⟨by omega, by omega⟩ (by omega) ⟨by omega, by omega⟩ (by omega) ?_
    refine wp_iret dX2_partUpTo_89 rfl ?_
    refine ⟨?_, rfl, rfl⟩
    rw [partF, if_neg c_44]
  · refine wp_iconst dX2_partUpTo_47 ?_
    refine wp_iret dX2_partUpTo_48 rfl ?_
    refine ⟨?_, rfl, rfl⟩
    rw [partF, if_pos c_44]

theorem l_plannedUpTo {Q : PQ} {X : PX} {k9 n9 : Nat} {d : Int} (K : KP G h a b e inn ws kw kf kr) (H : HP G S h) (w : WF S) (kq : KR b e inn ws) (hd : -40000 ≤ d ∧ d ≤ 40000) : ∀ (m : Nat) (i : Nat) (y : Int), ((S 13 0 0).toNat - i = m) → (i ≤ 24) → (Q (some (JV (y + planF S b e inn ws kw kr d m i))) h N) → WP G mX2_plannedUpTo Q X k9 n9 h N 4 [some (.ref a), some (JV d), some (JV y), some (JV (i : Int))] [] := by
  intro m
  induction m with
  | zero =>
    intro i y hm hi kk
    have wT := w.nT
    refine wp_iload_n dX2_plannedUpTo_4 rfl ?_
    refine wp_aload_n dX2_plannedUpTo_5 rfl ?_
    refine wp_get fkX2_32 dX2_plannedUpTo_6 K.1 rfl ?_
    refine wp_get fkX2_37 dX2_plannedUpTo_9 H.1 rfl ?_
    refine wp_icmp_ge 39 dX2_plannedUpTo_12 (by decide) ⟨by omega, by omega⟩ ⟨by omega, by omega⟩ (fun c_12 => ?_) (fun c_12 => ?_)
    · refine wp_iload_n dX2_plannedUpTo_39 rfl ?_
      refine wp_iret dX2_plannedUpTo_40 rfl ?_
      simp only [planF, Int.add_zero] at kk
      exact kk
    · exact absurd c_12 (by omega)
  | succ m ih =>
    intro i y hm hi kk
    have wT := w.nT
    have h01 := kq.1 i
    refine wp_iload_n dX2_plannedUpTo_4 rfl ?_
    refine wp_aload_n dX2_plannedUpTo_5 rfl ?_
    refine wp_get fkX2_32 dX2_plannedUpTo_6 K.1 rfl ?_
    refine wp_get fkX2_37 dX2_plannedUpTo_9 H.1 rfl ?_
    refine wp_icmp_ge 39 dX2_plannedUpTo_12 (by decide) ⟨by omega, by omega⟩ ⟨by omega, by omega⟩ (fun c_12 => ?_) (fun c_12 => ?_)
    · exact absurd c_12 (by omega)
    · refine wp_aload_n dX2_plannedUpTo_15 rfl ?_
      refine wp_get fkX2_18 dX2_plannedUpTo_16 K.1 rfl ?_
      refine wp_iload_n dX2_plannedUpTo_19 rfl ?_
      refine wp_zaload dX2_plannedUpTo_20 K.2.2.1 (by omega) (by omega) (by omega) ?_
      change WP G mX2_plannedUpTo _ _ _ _ h N 21 [some (.ref a), some (JV d), some (JV y), some (JV (i : Int))] [JV (inn i)]
      refine wp_if_eq 33 dX2_plannedUpTo_21 (by decide) ⟨by omega, by omega⟩ (fun c_21 => ?_) (fun c_21 => ?_)
      · rw [planF, if_pos c_21, Int.zero_add] at kk
        refine wp_iinc dX2_plannedUpTo_33 rfl (Nat.le_of_ble_eq_true rfl) rfl ?_
        change WP G mX2_plannedUpTo _ _ _ _ h N 36 [some (.ref a), some (JV d), some (JV y), some (JV ((i : Int) + 1))] []
        refine wp_goto 4 dX2_plannedUpTo_36 (by decide) ?_
        exact ih (i + 1) y (by omega) (by omega) kk
      · rw [planF, if_neg c_21, ← Int.add_assoc] at kk
        refine wp_iload_n dX2_plannedUpTo_24 rfl ?_
        refine wp_aload_n dX2_plannedUpTo_25 rfl ?_
        refine wp_iload_n dX2_plannedUpTo_26 rfl ?_
        refine wp_iload_n dX2_plannedUpTo_27 rfl ?_
        refine wp_v2p (c_partUpTo (N := N) K H w kq (t := i) (d := d) (by omega) (by omega) hd) cvX2_66 dX2_plannedUpTo_28 ⟨Nat.le_of_ble_eq_true rfl, Nat.le_of_ble_eq_true rfl⟩ (Nat.le_of_ble_eq_true rfl) K.1 rfl rfl ?_
        refine wp_iadd dX2_plannedUpTo_31 ?_
        refine wp_istore_n dX2_plannedUpTo_32 (Nat.le_of_ble_eq_true rfl) rfl ?_
        change WP G mX2_plannedUpTo _ _ _ _ h N 33 [some (.ref a), some (JV d), some (JV (y + (partF S b e ws kw kr i d))), some (JV (i : Int))] []
        refine wp_iinc dX2_plannedUpTo_33 rfl (Nat.le_of_ble_eq_true rfl) rfl ?_
        change WP G mX2_plannedUpTo _ _ _ _ h N 36 [some (.ref a), some (JV d), some (JV (y + (partF S b e ws kw kr i d))), some (JV ((i : Int) + 1))] []
        refine wp_goto 4 dX2_plannedUpTo_36 (by decide) ?_
        exact ih (i + 1) (y + partF S b e ws kw kr i d) (by omega) (by omega) kk

theorem c_plannedUpTo {d : Int} (K : KP G h a b e inn ws kw kf kr) (H : HP G S h) (w : WF S) (kq : KR b e inn ws) (hd : -40000 ≤ d ∧ d ≤ 40000) : CT G mX2_plannedUpTo [.ref a, JV d] h N 0 0 (PV (JV (planF S b e inn ws kw kr d (S 13 0 0).toNat 0)) h N) := by
  refine CT_of (by decide +kernel) rfl (by simp [Value.category]) (Nat.le_of_ble_eq_true rfl) ?_
  change WP G mX2_plannedUpTo _ noX _ _ h N 0 [some (.ref a), some (JV d), none, none] []
  refine wp_iconst dX2_plannedUpTo_0 ?_
  refine wp_istore_n dX2_plannedUpTo_1 (Nat.le_of_ble_eq_true rfl) rfl ?_
  change WP G mX2_plannedUpTo _ _ _ _ h N 2 [some (.ref a), some (JV d), some (JV 0), none] []
  refine wp_iconst dX2_plannedUpTo_2 ?_
  refine wp_istore_n dX2_plannedUpTo_3 (Nat.le_of_ble_eq_true rfl) rfl ?_
  change WP G mX2_plannedUpTo _ _ _ _ h N 4 [some (.ref a), some (JV d), some (JV 0), some (JV 0)] []
  have wT := w.nT
  refine l_plannedUpTo K H w kq hd _ 0 0 rfl (by omega) ?_
  rw [Int.zero_add]
  exact ⟨rfl, rfl, rfl⟩

def dlyF (e inn e2 inn2 : Nat → Int) (t : Nat) : Int := if inn t = 1 ∧ inn2 t = 1 then e2 t - e t else 0
theorem c_delayOf {t q : Nat} {b2 e2 inn2 od : Nat → Int} {g : Nat → Nat → Int} {u ct ld : Int} (K : KP G h a b e inn ws kw kf kr) (kq : KR b e inn ws) (V : LV G h q b2 e2 g u inn2 od ct ld) (hi2 : ∀ x, inn2 x = 0 ∨ inn2 x = 1) (ht : t < 24) : CT G mX2_delayOf [.ref a, JV (t : Int), .ref q] h N 0 0 (PV (JV (dlyF e inn e2 inn2 t)) h N) := by
  refine CT_of (by decide +kernel) rfl (by simp [Value.category]) (Nat.le_of_ble_eq_true rfl) ?_
  change WP G mX2_delayOf _ noX _ _ h N 0 [some (.ref a), some (JV (t : Int)), some (.ref q)] []
  have h01 := kq.1 t
  have h02 := hi2 t
  refine wp_aload_n dX2_delayOf_0 rfl ?_
  refine wp_get fkX2_18 dX2_delayOf_1 K.1 rfl ?_
  refine wp_iload_n dX2_delayOf_4 rfl ?_
  refine wp_zaload dX2_delayOf_5 K.2.2.1 (by omega) (by omega) (by omega) ?_
  change WP G mX2_delayOf _ _ _ _ h N 6 [some (.ref a), some (JV (t : Int)), some (.ref q)] [JV (inn t)]
  refine wp_if_eq 40 dX2_delayOf_6 (by decide) ⟨by omega, by omega⟩ (fun c_6 => ?_) (fun c_6 => ?_)
  · refine wp_iconst dX2_delayOf_40 ?_
    refine wp_iret dX2_delayOf_41 rfl ?_
    refine ⟨?_, rfl, rfl⟩
    rw [dlyF, if_neg (fun v => by have v1 := v.1; have v2 := v.2; omega)]
  · refine wp_aload_n dX2_delayOf_9 rfl ?_
    refine wp_get fkX2_43 dX2_delayOf_10 V.1 rfl ?_
    refine wp_iload_n dX2_delayOf_13 rfl ?_
    refine wp_zaload dX2_delayOf_14 V.2.2.2.1 (by omega) (by omega) (by omega) ?_
    change WP G mX2_delayOf _ _ _ _ h N 15 [some (.ref a), some (JV (t : Int)), some (.ref q)] [JV (inn2 t)]
    refine wp_if_eq 40 dX2_delayOf_15 (by decide) ⟨by omega, by omega⟩ (fun c_15 => ?_) (fun c_15 => ?_)
    · refine wp_iconst dX2_delayOf_40 ?_
      refine wp_iret dX2_delayOf_41 rfl ?_
      refine ⟨?_, rfl, rfl⟩
      rw [dlyF, if_neg (fun v => by have v1 := v.1; have v2 := v.2; omega)]
    · refine wp_aload_n dX2_delayOf_18 rfl ?_
      refine wp_get fkX2_46 dX2_delayOf_19 V.1 rfl ?_
      refine wp_get fkX2_50 dX2_delayOf_22 V.2.1.1 rfl ?_
      refine wp_iload_n dX2_delayOf_25 rfl ?_
      refine wp_iaload dX2_delayOf_26 V.2.1.2.2 (by omega) (by omega) (by omega) ?_
      change WP G mX2_delayOf _ _ _ _ h N 27 [some (.ref a), some (JV (t : Int)), some (.ref q)] [JV (e2 t)]
      refine wp_aload_n dX2_delayOf_27 rfl ?_
      refine wp_get fkX2_12 dX2_delayOf_28 K.1 rfl ?_
      refine wp_get fkX2_50 dX2_delayOf_31 K.2.1.1 rfl ?_
      refine wp_iload_n dX2_delayOf_34 rfl ?_
      refine wp_iaload dX2_delayOf_35 K.2.1.2.2 (by omega) (by omega) (by omega) ?_
      change WP G mX2_delayOf _ _ _ _ h N 36 [some (.ref a), some (JV (t : Int)), some (.ref q)] [JV (e t), JV (e2 t)]
      refine wp_isub dX2_delayOf_36 ?_
      refine wp_goto 41 dX2_delayOf_37 (by decide) ?_
      refine wp_iret dX2_delayOf_41 rfl ?_
      refine ⟨?_, rfl, rfl⟩
      rw [dlyF, if_pos ⟨by omega, by omega⟩]

theorem l_take2 {Q : PQ} {X : PX} {k9 n9 : Nat} {S : ST} {h0 : AH} {q : Nat} (ha : cB G + 108 ≤ a) (w : WF S) : ∀ (m : Nat) (c : Nat) (kw kf : Nat → Int) (kr : Nat → Nat → Int) (h : AH), (4 - c = m) → (c ≤ 4) → (KP G h a b e inn ws kw kf kr) → (HP G S h) → (∀ c9, c9 < c → kw c9 = S 0 c9 0 ∧ kf c9 = S 1 c9 0 ∧ ∀ d, d < 1000 → kr c9 d = S 2 c9 d) → (FR a (a + 15) h0 h) → (∀ (kw' kf' : Nat → Int) (kr' : Nat → Nat → Int) (h' : AH), KP G h' a b e inn ws kw' kf' kr' → HP G S h' → (∀ c, c < 4 → kw' c = S 0 c 0 ∧ kf' c = S 1 c 0 ∧ ∀ d, d < 1000 → kr' c d = S 2 c d) → FR a (a + 15) h0 h' → Q none h' N) → WP G mX2_take Q X k9 n9 h N 73 [some (.ref a), some (.ref q), some (JV (c : Int))] [] := by
  intro m
  induction m with
  | zero =>
    intro c kw kf kr h hm hc K H hk fr kk
    refine wp_iload_n dX2_take_73 rfl ?_
    refine wp_iconst dX2_take_74 ?_
    refine wp_icmp_ge 102 dX2_take_75 (by decide) ⟨by omega, by omega⟩ ⟨by omega, by omega⟩ (fun c_75 => ?_) (fun c_75 => ?_)
    · refine wp_vret dX2_take_102 rfl ?_
      exact kk kw kf kr h K H (fun c9 h9 => hk c9 (by omega)) fr
    · exact absurd c_75 (by omega)
  | succ m ih =>
    intro c kw kf kr h hm hc K H hk fr kk
    refine wp_iload_n dX2_take_73 rfl ?_
    refine wp_iconst dX2_take_74 ?_
    refine wp_icmp_ge 102 dX2_take_75 (by decide) ⟨by omega, by omega⟩ ⟨by omega, by omega⟩ (fun c_75 => ?_) (fun c_75 => ?_)
    · exact absurd c_75 (by omega)
    · refine wp_aload_n dX2_take_78 rfl ?_
      refine wp_get fkX2_28 dX2_take_79 K.1 rfl ?_
      refine wp_iload_n dX2_take_82 rfl ?_
      refine wp_aaload dX2_take_83 K.2.2.2.2.1 rfl rfl (by omega) (by omega) (by omega) (if_pos (by omega)) ?_
      change WP G mX2_take _ _ _ _ h N 84 [some (.ref a), some (.ref q), some (JV (c : Int))] [.ref (a + 7 + 2 * c)]
      refine wp_aload_n dX2_take_84 rfl ?_
      refine wp_get fkX2_32 dX2_take_85 K.1 rfl ?_
      refine wp_get fkX2_61 dX2_take_88 H.1 rfl ?_
      refine wp_iload_n dX2_take_91 rfl ?_
      refine wp_aaload dX2_take_92 H.2.1 rfl rfl (by omega) (by omega) (by omega) (if_pos (by omega)) ?_
      change WP G mX2_take _ _ _ _ h N 93 [some (.ref a), some (.ref q), some (JV (c : Int))] [.ref (cB G + 8 + 2 * c), .ref (a + 7 + 2 * c)]
      refine wp_v1 k9 n9 (c_copyFrom (N := N) (H.cal w (c := c) (by omega)) (K.2.2.2.2.2 c (by omega)).1 (K.2.2.2.2.2 c (by omega)).2.1 (K.2.2.2.2.2 c (by omega)).2.2.2.1 (by omega)) cvX2_62 dX2_take_93 ⟨Nat.le_of_ble_eq_true rfl, Nat.le_of_ble_eq_true rfl⟩ (Nat.le_of_ble_eq_true rfl) (K.2.2.2.2.2 c (by omega)).1 rfl rfl (by omega) (by omega) (fun r h9 N9 hq => ?_)
      obtain ⟨hN9, rfl, z9, p9, q9, f9⟩ := hq
      rw [hN9]
      have K9 := K.cl (by omega) p9 f9
      have H9 := H.fr f9 (by omega)
      change WP G mX2_take _ _ _ _ h9 N 96 [some (.ref a), some (.ref q), some (JV (c : Int))] []
      refine wp_iinc dX2_take_96 rfl (Nat.le_of_ble_eq_true rfl) rfl ?_
      change WP G mX2_take _ _ _ _ h9 N 99 [some (.ref a), some (.ref q), some (JV ((c : Int) + 1))] []
      refine wp_goto 73 dX2_take_99 (by decide) ?_
      refine ih (c + 1) _ _ _ _ (by omega) (by omega) K9 H9 (fun c9 h9 => ?_) (fr.tr (f9.mono (by omega) (by omega))) kk
      by_cases hcc : c9 = c
      · subst hcc
        refine ⟨fupe, fupe, fun d hd => ?_⟩
        show (if c9 = c9 then z9 else kr c9) d = S 2 c9 d
        rw [if_pos rfl]
        exact q9 d hd
      · have r := hk c9 (by omega)
        refine ⟨(fupn hcc).trans r.1, (fupn hcc).trans r.2.1, fun d hd => ?_⟩
        show (if c9 = c then z9 else kr c9) d = S 2 c9 d
        rw [if_neg hcc]
        exact r.2.2 d hd

theorem l_take {Q : PQ} {X : PX} {k9 n9 : Nat} {S : ST} {h0 : AH} {q : Nat} {b0 e0 i0 w0 b2 e2 inn2 od : Nat → Int} {g : Nat → Nat → Int} {u ct ld : Int} (ha : cB G + 108 ≤ a) (hq : q + 12 ≤ a ∨ a + 15 ≤ q) (w : WF S) (hi2 : ∀ x, inn2 x = 0 ∨ inn2 x = 1) : ∀ (m : Nat) (i : Nat) (b e inn ws : Nat → Int) (h : AH), ((S 13 0 0).toNat - i = m) → ((i : Int) ≤ S 13 0 0) → (KP G h a b e inn ws kw kf kr) → (HP G S h) → (LV G h q b2 e2 g u inn2 od ct ld) → (∀ x : Nat, x < i → b x = b2 x ∧ e x = e2 x ∧ inn x = inn2 x ∧ ws x = S 5 x 0 * wsum (fun c => S 12 x c * S 4 c 0) 4) → (∀ x : Nat, i ≤ x → b x = b0 x ∧ e x = e0 x ∧ inn x = i0 x ∧ ws x = w0 x) → (FR a (a + 15) h0 h) → (∀ (b' e' i' w' kw' kf' : Nat → Int) (kr' : Nat → Nat → Int) (h' : AH), KP G h' a b' e' i' w' kw' kf' kr' → HP G S h' → (∀ x : Nat, (x : Int) < S 13 0 0 → b' x = b2 x ∧ e' x = e2 x ∧ i' x = inn2 x ∧ w' x = S 5 x 0 * wsum (fun c => S 12 x c * S 4 c 0) 4) ∧ (∀ x : Nat, ¬ (x : Int) < S 13 0 0 → b' x = b0 x ∧ e' x = e0 x ∧ i' x = i0 x ∧ w' x = w0 x) → (∀ c, c < 4 → kw' c = S 0 c 0 ∧ kf' c = S 1 c 0 ∧ ∀ d, d < 1000 → kr' c d = S 2 c d) → FR a (a + 15) h0 h' → Q none h' N) → WP G mX2_take Q X k9 n9 h N 2 [some (.ref a), some (.ref q), some (JV (i : Int))] [] := by
  intro m
  induction m with
  | zero =>
    intro i b e inn ws h hm hi K H V hk ho fr kk
    have wT := w.nT
    refine wp_iload_n dX2_take_2 rfl ?_
    refine wp_aload_n dX2_take_3 rfl ?_
    refine wp_get fkX2_32 dX2_take_4 K.1 rfl ?_
    refine wp_get fkX2_37 dX2_take_7 H.1 rfl ?_
    refine wp_icmp_ge 71 dX2_take_10 (by decide) ⟨by omega, by omega⟩ ⟨by omega, by omega⟩ (fun c_10 => ?_) (fun c_10 => ?_)
    · refine wp_iconst dX2_take_71 ?_
      refine wp_istore_n dX2_take_72 (Nat.le_of_ble_eq_true rfl) rfl ?_
      change WP G mX2_take _ _ _ _ h N 73 [some (.ref a), some (.ref q), some (JV 0)] []
      exact l_take2 (q := q) ha w _ 0 kw kf kr h rfl (by omega) K H (fun c9 h9 => absurd h9 (by omega)) fr (fun kw9 kf9 kr9 h9 z1 z2 z3 z4 => kk b e inn ws kw9 kf9 kr9 h9 z1 z2 ⟨fun x hx => hk x (by omega), fun x hx => ho x (by omega)⟩ z3 z4)
    · exact absurd c_10 (by omega)
  | succ m ih =>
    intro i b e inn ws h hm hi K H V hk ho fr kk
    have wT := w.nT
    have h02 := hi2 i
    refine wp_iload_n dX2_take_2 rfl ?_
    refine wp_aload_n dX2_take_3 rfl ?_
    refine wp_get fkX2_32 dX2_take_4 K.1 rfl ?_
    refine wp_get fkX2_37 dX2_take_7 H.1 rfl ?_
    refine wp_icmp_ge 71 dX2_take_10 (by decide) ⟨by omega, by omega⟩ ⟨by omega, by omega⟩ (fun c_10 => ?_) (fun c_10 => ?_)
    · exact absurd c_10 (by omega)
    · refine wp_aload_n dX2_take_13 rfl ?_
      refine wp_get fkX2_18 dX2_take_14 K.1 rfl ?_
      refine wp_iload_n dX2_take_17 rfl ?_
      refine wp_aload_n dX2_take_18 rfl ?_
      refine wp_get fkX2_43 dX2_take_19 V.1 rfl ?_
      refine wp_iload_n dX2_take_22 rfl ?_
      refine wp_zaload dX2_take_23 V.2.2.2.1 (by omega) (by omega) (by omega) ?_
      change WP G mX2_take _ _ _ _ h N 24 [some (.ref a), some (.ref q), some (JV (i : Int))] [JV (inn2 i), JV (i : Int), .ref (a + 4)]
      refine wp_zastore dX2_take_24 K.2.2.1 (by omega) (by omega) (by omega) (by omega) ?_
      obtain ⟨h_1, eh_1⟩ : ∃ hh9 : AH, hh9 = hup h (a + 4) (eZ G 24 (fup inn i (inn2 i))) := ⟨_, rfl⟩
      refine WP.heq eh_1 ?_
      obtain ⟨inn_1, einn_1⟩ : ∃ ss9 : Nat → Int, ss9 = fup inn i (inn2 i) := ⟨_, rfl⟩
      have K_1 : KP G h_1 a b e inn_1 ws kw kf kr := by rw [einn_1]; exact K.inU eh_1
      have HX_1 : HP G S h_1 := H.frame (fun q9 hq9 hq8 => hup_at eh_1 (by omega))
      have VX_1 : LV G h_1 q b2 e2 g u inn2 od ct ld := V.frame (fun q9 hq9 hq8 => hup_at eh_1 (by omega))
      refine wp_aload_n dX2_take_25 rfl ?_
      refine wp_get fkX2_12 dX2_take_26 K_1.1 rfl ?_
      refine wp_iload_n dX2_take_29 rfl ?_
      refine wp_aload_n dX2_take_30 rfl ?_
      refine wp_get fkX2_46 dX2_take_31 VX_1.1 rfl ?_
      refine wp_get fkX2_47 dX2_take_34 VX_1.2.1.1 rfl ?_
      refine wp_iload_n dX2_take_37 rfl ?_
      refine wp_iaload dX2_take_38 VX_1.2.1.2.1 (by omega) (by omega) (by omega) ?_
      change WP G mX2_take _ _ _ _ h_1 N 39 [some (.ref a), some (.ref q), some (JV (i : Int))] [JV (b2 i), JV (i : Int), .ref (a + 1)]
      refine wp_aload_n dX2_take_39 rfl ?_
      refine wp_get fkX2_46 dX2_take_40 VX_1.1 rfl ?_
      refine wp_get fkX2_50 dX2_take_43 VX_1.2.1.1 rfl ?_
      refine wp_iload_n dX2_take_46 rfl ?_
      refine wp_iaload dX2_take_47 VX_1.2.1.2.2 (by omega) (by omega) (by omega) ?_
      change WP G mX2_take _ _ _ _ h_1 N 48 [some (.ref a), some (.ref q), some (JV (i : Int))] [JV (e2 i), JV (b2 i), JV (i : Int), .ref (a + 1)]
      refine wp_v3 k9 n9 (c_set (N := N) (t := (i : Int)) (x := b2 i) (y := e2 i) K_1.2.1 (by omega)) cvX2_53 dX2_take_48 ⟨Nat.le_of_ble_eq_true rfl, Nat.le_of_ble_eq_true rfl⟩ (Nat.le_of_ble_eq_true rfl) K_1.2.1.1 rfl rfl (by omega) (by omega) (fun r h9 N9 hq => ?_)
      obtain ⟨rfl, hN9, p9, f9⟩ := hq
      rw [hN9]
      rw [Int.toNat_natCast] at p9
      have K9 := K_1.pl p9 f9
      have H9 := HX_1.fr f9 (by omega)
      have V9 := VX_1.frame (fun z h1 h2 => f9 z (by omega))
      change WP G mX2_take _ _ _ _ h9 N 51 [some (.ref a), some (.ref q), some (JV (i : Int))] []
      refine wp_aload_n dX2_take_51 rfl ?_
      refine wp_get fkX2_22 dX2_take_52 K9.1 rfl ?_
      refine wp_iload_n dX2_take_55 rfl ?_
      refine wp_aload_n dX2_take_56 rfl ?_
      refine wp_get fkX2_32 dX2_take_57 K9.1 rfl ?_
      refine wp_iload_n dX2_take_60 rfl ?_
      refine wp_v1p (c_worthOf (N := N) H9 w (t := i) (by omega)) cvX2_57 dX2_take_61 ⟨Nat.le_of_ble_eq_true rfl, Nat.le_of_ble_eq_true rfl⟩ (Nat.le_of_ble_eq_true rfl) H9.1 rfl rfl ?_
      refine wp_iastore dX2_take_64 K9.2.2.2.1 (by omega) (by omega) (by omega) ?_
      obtain ⟨h_2, eh_2⟩ : ∃ hh9 : AH, hh9 = hup h9 (a + 5) (eI G 24 (fup ws i (S 5 i 0 * wsum (fun c => S 12 i c * S 4 c 0) 4))) := ⟨_, rfl⟩
      refine WP.heq eh_2 ?_
      obtain ⟨ws_2, ews_2⟩ : ∃ ss9 : Nat → Int, ss9 = fup ws i (S 5 i 0 * wsum (fun c => S 12 i c * S 4 c 0) 4) := ⟨_, rfl⟩
      have K_2 : KP G h_2 a (fup b i (b2 i)) (fup e i (e2 i)) inn_1 ws_2 kw kf kr := by rw [ews_2]; exact K9.wsU eh_2
      have HX_2 : HP G S h_2 := H9.frame (fun q9 hq9 hq8 => hup_at eh_2 (by omega))
      have VX_2 : LV G h_2 q b2 e2 g u inn2 od ct ld := V9.frame (fun q9 hq9 hq8 => hup_at eh_2 (by omega))
      refine wp_iinc dX2_take_65 rfl (Nat.le_of_ble_eq_true rfl) rfl ?_
      change WP G mX2_take _ _ _ _ h_2 N 68 [some (.ref a), some (.ref q), some (JV ((i : Int) + 1))] []
      refine wp_goto 2 dX2_take_68 (by decide) ?_
      refine ih (i + 1) _ _ _ _ _ (by omega) (by omega) K_2 HX_2 VX_2 (fun x hx => ?_) (fun x hx => ?_) (((fr.up eh_1 ⟨by omega, by omega⟩).tr (f9.mono (by omega) (by omega))).up eh_2 ⟨by omega, by omega⟩) kk
      · rw [einn_1, ews_2]
        by_cases hxi : x = i
        · subst hxi
          rw [fupe, fupe, fupe, fupe]
          exact ⟨rfl, rfl, rfl, rfl⟩
        · rw [fupn hxi, fupn hxi, fupn hxi, fupn hxi]
          exact hk x (by omega)
      · rw [einn_1, ews_2, fupn (by omega), fupn (by omega), fupn (by omega), fupn (by omega)]
        exact ho x (by omega)

theorem c_take {q : Nat} {b2 e2 inn2 od : Nat → Int} {g : Nat → Nat → Int} {u ct ld : Int} (ha : cB G + 108 ≤ a) (hq : q + 12 ≤ a ∨ a + 15 ≤ q) (w : WF S) (hi2 : ∀ x, inn2 x = 0 ∨ inn2 x = 1) (K : KP G h a b e inn ws kw kf kr) (H : HP G S h) (V : LV G h q b2 e2 g u inn2 od ct ld) : CT G mX2_take [.ref a, .ref q] h N 0 0 (fun r h' N' => r = none ∧ N' = N ∧ ∃ b' e' i' w' kw' kf' kr', KP G h' a b' e' i' w' kw' kf' kr' ∧ HP G S h' ∧ (∀ x : Nat, (x : Int) < S 13 0 0 → b' x = b2 x ∧ e' x = e2 x ∧ i' x = inn2 x ∧ w' x = S 5 x 0 * wsum (fun c => S 12 x c * S 4 c 0) 4) ∧ (∀ x : Nat, ¬ (x : Int) < S 13 0 0 → b' x = b x ∧ e' x = e x ∧ i' x = inn x ∧ w' x = ws x) ∧ (∀ c, c < 4 → kw' c = S 0 c 0 ∧ kf' c = S 1 c 0 ∧ ∀ d, d < 1000 → kr' c d = S 2 c d) ∧ FR a (a + 15) h h') := by
  refine CT_of (by decide +kernel) rfl (by simp [Value.category]) (Nat.le_of_ble_eq_true rfl) ?_
  change WP G mX2_take _ noX _ _ h N 0 [some (.ref a), some (.ref q), none] []
  refine wp_iconst dX2_take_0 ?_
  refine wp_istore_n dX2_take_1 (Nat.le_of_ble_eq_true rfl) rfl ?_
  change WP G mX2_take _ _ _ _ h N 2 [some (.ref a), some (.ref q), some (JV 0)] []
  have wT := w.nT
  refine l_take ha hq w hi2 _ 0 b e inn ws h rfl (by omega) K H V (fun x hx => absurd hx (by omega)) (fun x _ => ⟨rfl, rfl, rfl, rfl⟩) FR.rf (fun b9 e9 i9 w9 kw9 kf9 kr9 h9 z1 z2 z3 z4 z5 => ⟨rfl, rfl, b9, e9, i9, w9, kw9, kf9, kr9, z1, z2, z3.1, z3.2, z4, z5⟩)

end Kp

/-! ===== the network: early, late, rooms ===== -/
def NW (G : Ctx) (h : AH) (a : Nat) (eb ee lb le rm : Nat → Int) (ld : Int) : Prop := h a = some (eO 6 [.ref (cB G + 1), .ref (a + 1), .ref (a + 4), .ref (a + 7), JV ld]) ∧ IsPlan G h (a + 1) eb ee ∧ IsPlan G h (a + 4) lb le ∧ h (a + 7) = some (eI G 24 rm)
theorem NW.frame {G : Ctx} {h h' : AH} {a : Nat} {eb ee lb le rm : Nat → Int} {ld : Int} (p : NW G h a eb ee lb le rm ld) (hk : ∀ q, a ≤ q → q < a + 8 → h' q = h q) : NW G h' a eb ee lb le rm ld :=
  ⟨(hk _ (by omega) (by omega)).trans p.1, p.2.1.frame (fun q h1 h2 => hk q (by omega) (by omega)), p.2.2.1.frame (fun q h1 h2 => hk q (by omega) (by omega)), (hk _ (by omega) (by omega)).trans p.2.2.2⟩
theorem NW.up {G : Ctx} {h h' : AH} {a : Nat} {eb ee lb le rm : Nat → Int} {ld v : Int} (p : NW G h a eb ee lb le rm ld) (e : h' = hup h a (eO 6 [.ref (cB G + 1), .ref (a + 1), .ref (a + 4), .ref (a + 7), JV v])) : NW G h' a eb ee lb le rm v :=
  ⟨by rw [e]; exact hup_self _ _ _, p.2.1.frame (fun q h1 h2 => hup_at e (by omega)), p.2.2.1.frame (fun q h1 h2 => hup_at e (by omega)), (hup_at e (by omega)).trans p.2.2.2⟩
theorem NW.room {G : Ctx} {h h' : AH} {a : Nat} {eb ee lb le rm rm' : Nat → Int} {ld : Int} (p : NW G h a eb ee lb le rm ld) (e : h' = hup h (a + 7) (eI G 24 rm')) : NW G h' a eb ee lb le rm' ld :=
  ⟨(hup_at e (by omega)).trans p.1, p.2.1.frame (fun q h1 h2 => hup_at e (by omega)), p.2.2.1.frame (fun q h1 h2 => hup_at e (by omega)), by rw [e]; exact hup_self _ _ _⟩
theorem NW.setE {G : Ctx} {h h' : AH} {a : Nat} {eb ee lb le rm eb' ee' : Nat → Int} {ld : Int} (p : NW G h a eb ee lb le rm ld) (q : IsPlan G h' (a + 1) eb' ee') (f : FR (a + 1 + 1) (a + 1 + 3) h h') : NW G h' a eb' ee' lb le rm ld :=
  ⟨(f _ (by omega)).trans p.1, q, p.2.2.1.frame (fun q h1 h2 => f q (by omega)), (f _ (by omega)).trans p.2.2.2⟩
theorem NW.setL {G : Ctx} {h h' : AH} {a : Nat} {eb ee lb le rm eb' ee' : Nat → Int} {ld : Int} (p : NW G h a eb ee lb le rm ld) (q : IsPlan G h' (a + 4) eb' ee') (f : FR (a + 4 + 1) (a + 4 + 3) h h') : NW G h' a eb ee eb' ee' rm ld :=
  ⟨(f _ (by omega)).trans p.1, p.2.1.frame (fun q h1 h2 => f q (by omega)), q, (f _ (by omega)).trans p.2.2.2⟩
theorem HP.fr {G : Ctx} {S : ST} {h h' : AH} {lo hi : Nat} (H : HP G S h) (f : FR lo hi h h') (hl : hi ≤ cB G + 1 ∨ cB G + 108 ≤ lo) : HP G S h' := H.frame fun q h1 h2 => f q (by omega)
/-- the end of t from a begin -/
def endS (S : ST) (t : Nat) (d : Int) : Int := ((endF (wkS S (S 6 t 0).toNat) (5000 - d.toNat) d.toNat (S 5 t 0).toNat : Nat) : Int)
theorem endS_r {S : ST} {t : Nat} {d : Int} (h : 0 ≤ d) : d ≤ endS S t d ∧ endS S t d ≤ max 5000 d := by
  have := endF_le (wkS S (S 6 t 0).toNat) (5000 - d.toNat) d.toNat (S 5 t 0).toNat
  unfold endS
  omega
theorem fbeg_r {wk : Nat → Bool} {l fr ef M : Int} (h1 : 0 ≤ fr ∧ fr ≤ M) (h2 : 0 ≤ ef ∧ ef ≤ M) (hM : 5000 ≤ M) : fr ≤ fbeg wk l fr ef ∧ fbeg wk l fr ef ≤ M := by
  unfold fbeg
  split
  · omega
  · have a := nxt_le wk (5000 - (max fr 0).toNat) (max fr 0).toNat
    have b := nxt_le wk (5000 - (max (ef - 1) 0).toNat) (max (ef - 1) 0).toNat
    have c := cbk_r wk (nxt wk (5000 - (max (ef - 1) 0).toNat) (max (ef - 1) 0).toNat + 1) l
    omega
theorem askL_r {S : ST} {b e : Nat → Int} {t : Nat} {M : Int} : ∀ (m i : Nat) (x y : Int), (∀ j, i ≤ j → j < i + m → lT S j = (t : Int) → bAsk b e (lF S j) (lK S j) (lG S j) ≤ M ∧ eAsk e (lF S j) (lK S j) (lG S j) ≤ M) → x ≤ M → 0 ≤ y → y ≤ M → (x ≤ (askL S b e t m i x y).1 ∧ (askL S b e t m i x y).1 ≤ M) ∧ 0 ≤ (askL S b e t m i x y).2 ∧ (askL S b e t m i x y).2 ≤ M
  | 0, i, x, y, _, h1, h2, h3 => ⟨⟨Int.le_refl _, h1⟩, h2, h3⟩
  | m + 1, i, x, y, hh, h1, h2, h3 => by
    unfold askL
    split
    · rename_i hc
      have q := hh i (by omega) (by omega) hc
      have r := askL_r m (i + 1) (max x (bAsk b e (lF S i) (lK S i) (lG S i))) (max y (eAsk e (lF S i) (lK S i) (lG S i))) (fun j h1 h2 h3 => hh j (by omega) (by omega) h3) (by omega) (by omega) (by omega)
      refine ⟨⟨by have := r.1.1; omega, r.1.2⟩, r.2⟩
    · exact askL_r m (i + 1) x y (fun j h1 h2 h3 => hh j (by omega) (by omega) h3) h1 h2 h3
theorem askL_congr {S : ST} {b e b' e' : Nat → Int} {t : Nat} : ∀ (m i : Nat) (x y : Int), (∀ j, i ≤ j → j < i + m → lT S j = (t : Int) → b (lF S j).toNat = b' (lF S j).toNat ∧ e (lF S j).toNat = e' (lF S j).toNat) → askL S b e t m i x y = askL S b' e' t m i x y
  | 0, i, x, y, _ => rfl
  | m + 1, i, x, y, hh => by
    unfold askL
    split
    · rename_i hc
      have q := hh i (by omega) (by omega) hc
      have e1 : bAsk b e (lF S i) (lK S i) (lG S i) = bAsk b' e' (lF S i) (lK S i) (lG S i) := by unfold bAsk; rw [q.1, q.2]
      have e2 : eAsk e (lF S i) (lK S i) (lG S i) = eAsk e' (lF S i) (lK S i) (lG S i) := by unfold eAsk; rw [q.2]
      rw [e1, e2]
      exact askL_congr m (i + 1) _ _ (fun j h1 h2 h3 => hh j (by omega) (by omega) h3)
    · exact askL_congr m (i + 1) _ _ (fun j h1 h2 h3 => hh j (by omega) (by omega) h3)
theorem fday_congr {S : ST} {b e b' e' : Nat → Int} {t : Nat} (h : ∀ j : Nat, (j : Int) < S 14 0 0 → lT S j = (t : Int) → b (lF S j).toNat = b' (lF S j).toNat ∧ e (lF S j).toNat = e' (lF S j).toNat) : fday S b e t = fday S b' e' t := by
  unfold fday
  rw [askL_congr (S 14 0 0).toNat 0 (S 8 t 0) 0 (fun j _ h2 h3 => h j (by omega) h3)]
theorem fday_r {S : ST} {b e : Nat → Int} {t : Nat} {M : Int} (w : WF S) (ht : t < 24) (hM : 5000 ≤ M) (h : ∀ j : Nat, (j : Int) < S 14 0 0 → lT S j = (t : Int) → b (lF S j).toNat ≤ M ∧ e (lF S j).toNat ≤ M) : S 8 t 0 ≤ fday S b e t ∧ fday S b e t ≤ M + 20 := by
  have wt := w.task ht
  have wL := w.nL
  have r := askL_r (S := S) (b := b) (e := e) (t := t) (M := M + 20) (S 14 0 0).toNat 0 (S 8 t 0) 0 (fun j _ h2 h3 => by
    have q := h j (by omega) h3
    have wi := w.at (i := j) (by omega)
    unfold bAsk eAsk lF lK lG at *
    constructor
    · split
      · omega
      · split <;> omega
    · split
      · omega
      · split <;> omega) (by omega) (by omega) (by omega)
  unfold fday
  have f := fbeg_r (wk := wkS S (S 6 t 0).toNat) (l := S 5 t 0) (fr := (askL S b e t (S 14 0 0).toNat 0 (S 8 t 0) 0).1) (ef := (askL S b e t (S 14 0 0).toNat 0 (S 8 t 0) 0).2) (M := M + 20) (by omega) r.2 (by omega)
  omega
/-- the days a late begin and a late end must keep, by the links from i on -/
def askU (S : ST) (lb le : Nat → Int) (t : Nat) : Nat → Nat → Int → Int → Int × Int
  | 0, _, x, y => (x, y)
  | m + 1, i, x, y => if lF S i = (t : Int) ∧ S 9 (lT S i).toNat 0 = 0 then (if lK S i = 1 then askU S lb le t m (i + 1) (min x (lb (lT S i).toNat - lG S i)) y else askU S lb le t m (i + 1) x (min y ((if lK S i = 0 then lb (lT S i).toNat else le (lT S i).toNat) - lG S i))) else askU S lb le t m (i + 1) x y
def lday (S : ST) (eb lb le : Nat → Int) (ld : Int) (t : Nat) : Int := max (lbeg (wkS S (S 6 t 0).toNat) (S 5 t 0) (askU S lb le t (S 14 0 0).toNat 0 ld ld).1 (askU S lb le t (S 14 0 0).toNat 0 ld ld).2) (eb t)
def roomF (S : ST) (eb : Nat → Int) (t : Nat) (d : Int) : Int := if S 5 t 0 = 0 then d - eb t else cnt (wkS S (S 6 t 0).toNat) (d - eb t).toNat (eb t).toNat
def tgt (S : ST) (rm : Nat → Int) : Nat → Nat → Int
  | 0, _ => 0
  | m + 1, i => (if rm i = 0 ∧ S 9 i 0 = 0 then 1 else 0) + tgt S rm m (i + 1)
section Net
variable {G : Ctx} {h : AH} {N a : Nat} {eb ee lb le rm : Nat → Int} {ld : Int} {S : ST}
theorem c_roomUpTo {t : Nat} {d : Int} (W : NW G h a eb ee lb le rm ld) (H : HP G S h) (w : WF S) (pe : PB eb ee) (ht : t < 24) (h0 : 0 ≤ eb t) (hd : -40000 ≤ d ∧ d ≤ 40000) : CT G mX6_roomUpTo [.ref a, JV (t : Int), JV d] h N 0 0 (PV (JV (roomF S eb t d)) h N) := by
  refine CT_of (by decide +kernel) rfl (by simp [Value.category]) (Nat.le_of_ble_eq_true rfl) ?_
  change WP G mX6_roomUpTo _ noX _ _ h N 0 [some (.ref a), some (JV (t : Int)), some (JV d), none] []
  have wt := w.task ht
  have pt := pe t ht
  refine wp_aload_n dX6_roomUpTo_0 rfl ?_
  refine wp_get fkX6_12 dX6_roomUpTo_1 W.1 rfl ?_
  refine wp_get fkX6_111 dX6_roomUpTo_4 W.2.1.1 rfl ?_
  refine wp_iload_n dX6_roomUpTo_7 rfl ?_
  refine wp_iaload dX6_roomUpTo_8 W.2.1.2.1 (by omega) (by omega) (by omega) ?_
  change WP G mX6_roomUpTo _ _ _ _ h N 9 [some (.ref a), some (JV (t : Int)), some (JV d), none] [JV (eb t)]
  refine wp_istore_n dX6_roomUpTo_9 (Nat.le_of_ble_eq_true rfl) rfl ?_
  change WP G mX6_roomUpTo _ _ _ _ h N 10 [some (.ref a), some (JV (t : Int)), some (JV d), some (JV (eb t))] []
  refine wp_aload_n dX6_roomUpTo_10 rfl ?_
  refine wp_get fkX6_25 dX6_roomUpTo_11 W.1 rfl ?_
  refine wp_get fkX6_41 dX6_roomUpTo_14 H.1 rfl ?_
  refine wp_iload_n dX6_roomUpTo_17 rfl ?_
  refine wp_aaload dX6_roomUpTo_18 H.2.2.2.1 rfl rfl (by omega) (by omega) (by omega) (if_pos (by omega)) ?_
  change WP G mX6_roomUpTo _ _ _ _ h N 19 [some (.ref a), some (JV (t : Int)), some (JV d), some (JV (eb t))] [.ref (cB G + 20 + 2 * t)]
  refine wp_get fkX6_69 dX6_roomUpTo_19 (H.2.2.2.2.2.2.2.2.2.2.1 t (by omega)) rfl ?_
  refine wp_if_ne 29 dX6_roomUpTo_22 (by decide) ⟨by omega, by omega⟩ (fun c_22 => ?_) (fun c_22 => ?_)
  · refine wp_aload_n dX6_roomUpTo_29 rfl ?_
    refine wp_get fkX6_25 dX6_roomUpTo_30 W.1 rfl ?_
    refine wp_iload_n dX6_roomUpTo_33 rfl ?_
    refine wp_v1p (c_calendarOf (N := N) H w ht) cvX6_65 dX6_roomUpTo_34 ⟨Nat.le_of_ble_eq_true rfl, Nat.le_of_ble_eq_true rfl⟩ (Nat.le_of_ble_eq_true rfl) H.1 rfl rfl ?_
    refine wp_iload_n dX6_roomUpTo_37 rfl ?_
    refine wp_iload_n dX6_roomUpTo_38 rfl ?_
    refine wp_v2p (c_countWithin (N := N) (H.cal w (c := (S 6 t 0).toNat) (by omega)) (by omega) (by omega) (by omega) (by omega)) cvX6_124 dX6_roomUpTo_39 ⟨Nat.le_of_ble_eq_true rfl, Nat.le_of_ble_eq_true rfl⟩ (Nat.le_of_ble_eq_true rfl) (H.2.2.2.2.2.2.2.1 (S 6 t 0).toNat (by omega)) rfl rfl ?_
    refine wp_iret dX6_roomUpTo_42 rfl ?_
    refine ⟨?_, rfl, rfl⟩
    rw [roomF, if_neg (by omega)]
    rfl
  · refine wp_iload_n dX6_roomUpTo_25 rfl ?_
    refine wp_iload_n dX6_roomUpTo_26 rfl ?_
    refine wp_isub dX6_roomUpTo_27 ?_
    refine wp_iret dX6_roomUpTo_28 rfl ?_
    refine ⟨?_, rfl, rfl⟩
    rw [roomF, if_pos (by omega)]

theorem l_countTight {Q : PQ} {X : PX} {k9 n9 : Nat} (W : NW G h a eb ee lb le rm ld) (H : HP G S h) (w : WF S) (hr : ∀ i, -1000000 ≤ rm i ∧ rm i ≤ 1000000) : ∀ (m : Nat) (i : Nat) (y : Int), ((S 13 0 0).toNat - i = m) → (i ≤ 24) → (Q (some (JV (y + tgt S rm m i))) h N) → WP G mX6_countTight Q X k9 n9 h N 4 [some (.ref a), some (JV y), some (JV (i : Int))] [] := by
  intro m
  induction m with
  | zero =>
    intro i y hm hi kk
    have wT := w.nT
    refine wp_iload_n dX6_countTight_4 rfl ?_
    refine wp_aload_n dX6_countTight_5 rfl ?_
    refine wp_get fkX6_25 dX6_countTight_6 W.1 rfl ?_
    refine wp_get fkX6_33 dX6_countTight_9 H.1 rfl ?_
    refine wp_icmp_ge 48 dX6_countTight_12 (by decide) ⟨by omega, by omega⟩ ⟨by omega, by omega⟩ (fun c_12 => ?_) (fun c_12 => ?_)
    · refine wp_iload_n dX6_countTight_48 rfl ?_
      refine wp_iret dX6_countTight_49 rfl ?_
      simp only [tgt, Int.add_zero] at kk
      exact kk
    · exact absurd c_12 (by omega)
  | succ m ih =>
    intro i y hm hi kk
    have wT := w.nT
    have hri := hr i
    have wti := w.task (t := i)
    refine wp_iload_n dX6_countTight_4 rfl ?_
    refine wp_aload_n dX6_countTight_5 rfl ?_
    refine wp_get fkX6_25 dX6_countTight_6 W.1 rfl ?_
    refine wp_get fkX6_33 dX6_countTight_9 H.1 rfl ?_
    refine wp_icmp_ge 48 dX6_countTight_12 (by decide) ⟨by omega, by omega⟩ ⟨by omega, by omega⟩ (fun c_12 => ?_) (fun c_12 => ?_)
    · exact absurd c_12 (by omega)
    · refine wp_aload_n dX6_countTight_15 rfl ?_
      refine wp_get fkX6_21 dX6_countTight_16 W.1 rfl ?_
      refine wp_iload_n dX6_countTight_19 rfl ?_
      refine wp_iaload dX6_countTight_20 W.2.2.2 (by omega) (by omega) (by omega) ?_
      change WP G mX6_countTight _ _ _ _ h N 21 [some (.ref a), some (JV y), some (JV (i : Int))] [JV (rm i)]
      refine wp_if_ne 42 dX6_countTight_21 (by decide) ⟨by omega, by omega⟩ (fun c_21 => ?_) (fun c_21 => ?_)
      · rw [tgt, if_neg (fun z => c_21 (by omega)), Int.zero_add] at kk
        refine wp_iinc dX6_countTight_42 rfl (Nat.le_of_ble_eq_true rfl) rfl ?_
        change WP G mX6_countTight _ _ _ _ h N 45 [some (.ref a), some (JV y), some (JV ((i : Int) + 1))] []
        refine wp_goto 4 dX6_countTight_45 (by decide) ?_
        exact ih (i + 1) y (by omega) (by omega) kk
      · refine wp_aload_n dX6_countTight_24 rfl ?_
        refine wp_get fkX6_25 dX6_countTight_25 W.1 rfl ?_
        refine wp_get fkX6_41 dX6_countTight_28 H.1 rfl ?_
        refine wp_iload_n dX6_countTight_31 rfl ?_
        refine wp_aaload dX6_countTight_32 H.2.2.2.1 rfl rfl (by omega) (by omega) (by omega) (if_pos (by omega)) ?_
        change WP G mX6_countTight _ _ _ _ h N 33 [some (.ref a), some (JV y), some (JV (i : Int))] [.ref (cB G + 20 + 2 * i)]
        refine wp_get fkX6_45 dX6_countTight_33 (H.2.2.2.2.2.2.2.2.2.2.1 i (by omega)) rfl ?_
        refine wp_if_ne 42 dX6_countTight_36 (by decide) ⟨by omega, by omega⟩ (fun c_36 => ?_) (fun c_36 => ?_)
        · rw [tgt, if_neg (fun z => c_36 (by omega)), Int.zero_add] at kk
          refine wp_iinc dX6_countTight_42 rfl (Nat.le_of_ble_eq_true rfl) rfl ?_
          change WP G mX6_countTight _ _ _ _ h N 45 [some (.ref a), some (JV y), some (JV ((i : Int) + 1))] []
          refine wp_goto 4 dX6_countTight_45 (by decide) ?_
          exact ih (i + 1) y (by omega) (by omega) kk
        · rw [tgt, if_pos ⟨by omega, by omega⟩, ← Int.add_assoc] at kk
          refine wp_iinc dX6_countTight_39 rfl (Nat.le_of_ble_eq_true rfl) rfl ?_
          change WP G mX6_countTight _ _ _ _ h N 42 [some (.ref a), some (JV (y + 1)), some (JV (i : Int))] []
          refine wp_iinc dX6_countTight_42 rfl (Nat.le_of_ble_eq_true rfl) rfl ?_
          change WP G mX6_countTight _ _ _ _ h N 45 [some (.ref a), some (JV (y + 1)), some (JV ((i : Int) + 1))] []
          refine wp_goto 4 dX6_countTight_45 (by decide) ?_
          exact ih (i + 1) (y + 1) (by omega) (by omega) kk

theorem c_countTight (W : NW G h a eb ee lb le rm ld) (H : HP G S h) (w : WF S) (hr : ∀ i, -1000000 ≤ rm i ∧ rm i ≤ 1000000) : CT G mX6_countTight [.ref a] h N 0 0 (PV (JV (tgt S rm (S 13 0 0).toNat 0)) h N) := by
  refine CT_of (by decide +kernel) rfl (by simp [Value.category]) (Nat.le_of_ble_eq_true rfl) ?_
  change WP G mX6_countTight _ noX _ _ h N 0 [some (.ref a), none, none] []
  refine wp_iconst dX6_countTight_0 ?_
  refine wp_istore_n dX6_countTight_1 (Nat.le_of_ble_eq_true rfl) rfl ?_
  change WP G mX6_countTight _ _ _ _ h N 2 [some (.ref a), some (JV 0), none] []
  refine wp_iconst dX6_countTight_2 ?_
  refine wp_istore_n dX6_countTight_3 (Nat.le_of_ble_eq_true rfl) rfl ?_
  change WP G mX6_countTight _ _ _ _ h N 4 [some (.ref a), some (JV 0), some (JV 0)] []
  have wT := w.nT
  refine l_countTight W H w hr _ 0 0 rfl (by omega) ?_
  rw [Int.zero_add]
  exact ⟨rfl, rfl, rfl⟩

theorem l_latestDay {Q : PQ} {X : PX} {k9 n9 : Nat} {t : Nat} (W : NW G h a eb ee lb le rm ld) (H : HP G S h) (w : WF S) (pe : PB eb ee) (pl : PB lb le) (hld : 0 ≤ ld ∧ ld ≤ 20000) (ht : t < 24) : ∀ (m : Nat) (i : Nat) (x y : Int) (x5 x6 : Option Value), ((S 14 0 0).toNat - i = m) → (i ≤ 40) → (-20100 ≤ x ∧ x ≤ 20000) → (-20100 ≤ y ∧ y ≤ 20000) → (Q (some (JV (max (lbeg (wkS S (S 6 t 0).toNat) (S 5 t 0) (askU S lb le t m i x y).1 (askU S lb le t m i x y).2) (eb t)))) h N) → WP G mX6_latestDay Q X k9 n9 h N 13 [some (.ref a), some (JV (t : Int)), some (JV x), some (JV y), some (JV (i : Int)), x5, x6] [] := by
  intro m
  induction m with
  | zero =>
    intro i x y x5 x6 hm hi hx hy kk
    have wL := w.nL
    have wt := w.task ht
    have pt := pe t ht
    refine wp_iload dX6_latestDay_13 rfl ?_
    refine wp_aload_n dX6_latestDay_15 rfl ?_
    refine wp_get fkX6_25 dX6_latestDay_16 W.1 rfl ?_
    refine wp_get fkX6_93 dX6_latestDay_19 H.1 rfl ?_
    refine wp_icmp_ge 162 dX6_latestDay_22 (by decide) ⟨by omega, by omega⟩ ⟨by omega, by omega⟩ (fun c_22 => ?_) (fun c_22 => ?_)
    · refine wp_aload_n dX6_latestDay_162 rfl ?_
      refine wp_get fkX6_25 dX6_latestDay_163 W.1 rfl ?_
      refine wp_iload_n dX6_latestDay_166 rfl ?_
      refine wp_v1p (c_calendarOf (N := N) H w ht) cvX6_65 dX6_latestDay_167 ⟨Nat.le_of_ble_eq_true rfl, Nat.le_of_ble_eq_true rfl⟩ (Nat.le_of_ble_eq_true rfl) H.1 rfl rfl ?_
      refine wp_aload_n dX6_latestDay_170 rfl ?_
      refine wp_get fkX6_25 dX6_latestDay_171 W.1 rfl ?_
      refine wp_get fkX6_41 dX6_latestDay_174 H.1 rfl ?_
      refine wp_iload_n dX6_latestDay_177 rfl ?_
      refine wp_aaload dX6_latestDay_178 H.2.2.2.1 rfl rfl (by omega) (by omega) (by omega) (if_pos (by omega)) ?_
      change WP G mX6_latestDay _ _ _ _ h N 179 [some (.ref a), some (JV (t : Int)), some (JV x), some (JV y), some (JV (i : Int)), x5, x6] [.ref (cB G + 20 + 2 * t), .ref (cB G + 8 + 2 * (S 6 t 0).toNat)]
      refine wp_get fkX6_69 dX6_latestDay_179 (H.2.2.2.2.2.2.2.2.2.2.1 t (by omega)) rfl ?_
      refine wp_iload_n dX6_latestDay_182 rfl ?_
      refine wp_iload_n dX6_latestDay_183 rfl ?_
      refine wp_v3p (c_latestBegin (N := N) (H.cal w (c := (S 6 t 0).toNat) (by omega)) (by omega) (by omega) (by omega) (by omega) (by omega) (by omega)) cvX6_120 dX6_latestDay_184 ⟨Nat.le_of_ble_eq_true rfl, Nat.le_of_ble_eq_true rfl⟩ (Nat.le_of_ble_eq_true rfl) (H.2.2.2.2.2.2.2.1 (S 6 t 0).toNat (by omega)) rfl rfl ?_
      refine wp_istore dX6_latestDay_187 (Nat.le_of_ble_eq_true rfl) rfl ?_
      change WP G mX6_latestDay _ _ _ _ h N 189 [some (.ref a), some (JV (t : Int)), some (JV x), some (JV y), some (JV (lbeg (wkS S (S 6 t 0).toNat) (S 5 t 0) x y)), x5, x6] []
      have hlb : -1000000 ≤ lbeg (wkS S (S 6 t 0).toNat) (S 5 t 0) x y ∧ lbeg (wkS S (S 6 t 0).toNat) (S 5 t 0) x y ≤ 1000000 := by
        have q1 := cbk_r (wkS S (S 6 t 0).toNat) (x + 1).toNat 1
        have q2 := cbk_r (wkS S (S 6 t 0).toNat) y.toNat (S 5 t 0)
        unfold lbeg
        split <;> omega
      refine wp_iload dX6_latestDay_189 rfl ?_
      refine wp_aload_n dX6_latestDay_191 rfl ?_
      refine wp_get fkX6_12 dX6_latestDay_192 W.1 rfl ?_
      refine wp_get fkX6_111 dX6_latestDay_195 W.2.1.1 rfl ?_
      refine wp_iload_n dX6_latestDay_198 rfl ?_
      refine wp_iaload dX6_latestDay_199 W.2.1.2.1 (by omega) (by omega) (by omega) ?_
      change WP G mX6_latestDay _ _ _ _ h N 200 [some (.ref a), some (JV (t : Int)), some (JV x), some (JV y), some (JV (lbeg (wkS S (S 6 t 0).toNat) (S 5 t 0) x y)), x5, x6] [JV (eb t), JV (lbeg (wkS S (S 6 t 0).toNat) (S 5 t 0) x y)]
      refine wp_max dX6_latestDay_200 maX6_81 w_max (Nat.le_of_ble_eq_true rfl) (Nat.le_of_ble_eq_true rfl) ⟨by omega, by omega⟩ ⟨by omega, by omega⟩ ?_
      refine wp_iret dX6_latestDay_203 rfl ?_
      exact kk
    · exact absurd c_22 (by omega)
  | succ m ih =>
    intro i x y x5 x6 hm hi hx hy kk
    have wL := w.nL
    have wt := w.task ht
    refine wp_iload dX6_latestDay_13 rfl ?_
    refine wp_aload_n dX6_latestDay_15 rfl ?_
    refine wp_get fkX6_25 dX6_latestDay_16 W.1 rfl ?_
    refine wp_get fkX6_93 dX6_latestDay_19 H.1 rfl ?_
    refine wp_icmp_ge 162 dX6_latestDay_22 (by decide) ⟨by omega, by omega⟩ ⟨by omega, by omega⟩ (fun c_22 => ?_) (fun c_22 => ?_)
    · exact absurd c_22 (by omega)
    · have wi := w.at (i := i) (by omega)
      have wt2 := w.task (t := (S 20 (S 18 i 0).toNat 0).toNat) (by omega)
      have pl2 := pl (S 20 (S 18 i 0).toNat 0).toNat (by omega)
      refine wp_aload_n dX6_latestDay_25 rfl ?_
      refine wp_get fkX6_25 dX6_latestDay_26 W.1 rfl ?_
      refine wp_get fkX6_96 dX6_latestDay_29 H.1 rfl ?_
      refine wp_iload dX6_latestDay_32 rfl ?_
      refine wp_aaload dX6_latestDay_34 H.2.2.2.2.1 rfl rfl (by omega) (by omega) (by omega) (if_pos (by omega)) ?_
      change WP G mX6_latestDay _ _ _ _ h N 35 [some (.ref a), some (JV (t : Int)), some (JV x), some (JV y), some (JV (i : Int)), x5, x6] [.ref (cB G + 68 + (S 18 i 0).toNat)]
      refine wp_astore dX6_latestDay_35 (Nat.le_of_ble_eq_true rfl) rfl ?_
      change WP G mX6_latestDay _ _ _ _ h N 37 [some (.ref a), some (JV (t : Int)), some (JV x), some (JV y), some (JV (i : Int)), some (.ref (cB G + 68 + (S 18 i 0).toNat)), x6] []
      refine wp_aload dX6_latestDay_37 rfl ?_
      refine wp_get fkX6_100 dX6_latestDay_39 (H.2.2.2.2.2.2.2.2.2.2.2.2 (S 18 i 0).toNat (by omega)) rfl ?_
      refine wp_iload_n dX6_latestDay_42 rfl ?_
      refine wp_icmp_ne 156 dX6_latestDay_43 (by decide) ⟨by omega, by omega⟩ ⟨by omega, by omega⟩ (fun c_43 => ?_) (fun c_43 => ?_)
      · rw [askU, if_neg (fun z => c_43 z.1)] at kk
        refine wp_iinc dX6_latestDay_156 rfl (Nat.le_of_ble_eq_true rfl) rfl ?_
        change WP G mX6_latestDay _ _ _ _ h N 159 [some (.ref a), some (JV (t : Int)), some (JV x), some (JV y), some (JV ((i : Int) + 1)), some (.ref (cB G + 68 + (S 18 i 0).toNat)), x6] []
        refine wp_goto 13 dX6_latestDay_159 (by decide) ?_
        exact ih (i + 1) x y _ _ (by omega) (by omega) (by omega) (by omega) kk
      · refine wp_aload_n dX6_latestDay_46 rfl ?_
        refine wp_get fkX6_25 dX6_latestDay_47 W.1 rfl ?_
        refine wp_get fkX6_41 dX6_latestDay_50 H.1 rfl ?_
        refine wp_aload dX6_latestDay_53 rfl ?_
        refine wp_get fkX6_105 dX6_latestDay_55 (H.2.2.2.2.2.2.2.2.2.2.2.2 (S 18 i 0).toNat (by omega)) rfl ?_
        refine wp_aaload dX6_latestDay_58 H.2.2.2.1 rfl rfl (by omega) (by omega) (by omega) (if_pos (by omega)) ?_
        refine wp_get fkX6_45 dX6_latestDay_59 (H.2.2.2.2.2.2.2.2.2.2.1 (S 20 (S 18 i 0).toNat 0).toNat (by omega)) rfl ?_
        refine wp_if_eq 68 dX6_latestDay_62 (by decide) ⟨by omega, by omega⟩ (fun c_62 => ?_) (fun c_62 => ?_)
        · rw [askU, if_pos ⟨(by omega), c_62⟩] at kk
          refine wp_aload dX6_latestDay_68 rfl ?_
          refine wp_get fkX6_108 dX6_latestDay_70 (H.2.2.2.2.2.2.2.2.2.2.2.2 (S 18 i 0).toNat (by omega)) rfl ?_
          refine wp_iconst dX6_latestDay_73 ?_
          refine wp_icmp_ne 104 dX6_latestDay_74 (by decide) ⟨by omega, by omega⟩ ⟨by omega, by omega⟩ (fun c_74 => ?_) (fun c_74 => ?_)
          · rw [if_neg c_74] at kk
            refine wp_aload dX6_latestDay_104 rfl ?_
            refine wp_get fkX6_108 dX6_latestDay_106 (H.2.2.2.2.2.2.2.2.2.2.2.2 (S 18 i 0).toNat (by omega)) rfl ?_
            refine wp_if_ne 128 dX6_latestDay_109 (by decide) ⟨by omega, by omega⟩ (fun c_109 => ?_) (fun c_109 => ?_)
            · rw [if_neg c_109] at kk
              refine wp_aload_n dX6_latestDay_128 rfl ?_
              refine wp_get fkX6_18 dX6_latestDay_129 W.1 rfl ?_
              refine wp_get fkX6_78 dX6_latestDay_132 W.2.2.1.1 rfl ?_
              refine wp_aload dX6_latestDay_135 rfl ?_
              refine wp_get fkX6_105 dX6_latestDay_137 (H.2.2.2.2.2.2.2.2.2.2.2.2 (S 18 i 0).toNat (by omega)) rfl ?_
              refine wp_iaload dX6_latestDay_140 W.2.2.1.2.2 (by omega) (by omega) (by omega) ?_
              refine wp_istore dX6_latestDay_141 (Nat.le_of_ble_eq_true rfl) rfl ?_
              change WP G mX6_latestDay _ _ _ _ h N 143 [some (.ref a), some (JV (t : Int)), some (JV x), some (JV y), some (JV (i : Int)), some (.ref (cB G + 68 + (S 18 i 0).toNat)), some (JV (le (S 20 (S 18 i 0).toNat 0).toNat))] []
              refine wp_iload_n dX6_latestDay_143 rfl ?_
              refine wp_iload dX6_latestDay_144 rfl ?_
              refine wp_aload dX6_latestDay_146 rfl ?_
              refine wp_get fkX6_114 dX6_latestDay_148 (H.2.2.2.2.2.2.2.2.2.2.2.2 (S 18 i 0).toNat (by omega)) rfl ?_
              refine wp_isub dX6_latestDay_151 ?_
              refine wp_min dX6_latestDay_152 maX6_117 w_min (Nat.le_of_ble_eq_true rfl) (Nat.le_of_ble_eq_true rfl) ⟨by omega, by omega⟩ ⟨by omega, by omega⟩ ?_
              refine wp_istore_n dX6_latestDay_155 (Nat.le_of_ble_eq_true rfl) rfl ?_
              change WP G mX6_latestDay _ _ _ _ h N 156 [some (.ref a), some (JV (t : Int)), some (JV x), some (JV (min y ((le (S 20 (S 18 i 0).toNat 0).toNat) - (S 22 (S 18 i 0).toNat 0)))), some (JV (i : Int)), some (.ref (cB G + 68 + (S 18 i 0).toNat)), some (JV (le (S 20 (S 18 i 0).toNat 0).toNat))] []
              refine wp_iinc dX6_latestDay_156 rfl (Nat.le_of_ble_eq_true rfl) rfl ?_
              change WP G mX6_latestDay _ _ _ _ h N 159 [some (.ref a), some (JV (t : Int)), some (JV x), some (JV (min y ((le (S 20 (S 18 i 0).toNat 0).toNat) - (S 22 (S 18 i 0).toNat 0)))), some (JV ((i : Int) + 1)), some (.ref (cB G + 68 + (S 18 i 0).toNat)), some (JV (le (S 20 (S 18 i 0).toNat 0).toNat))] []
              refine wp_goto 13 dX6_latestDay_159 (by decide) ?_
              exact ih (i + 1) x (min y (le (S 20 (S 18 i 0).toNat 0).toNat - (S 22 (S 18 i 0).toNat 0))) _ _ (by omega) (by omega) (by omega) (by omega) kk
            · rw [if_pos c_109] at kk
              refine wp_aload_n dX6_latestDay_112 rfl ?_
              refine wp_get fkX6_18 dX6_latestDay_113 W.1 rfl ?_
              refine wp_get fkX6_111 dX6_latestDay_116 W.2.2.1.1 rfl ?_
              refine wp_aload dX6_latestDay_119 rfl ?_
              refine wp_get fkX6_105 dX6_latestDay_121 (H.2.2.2.2.2.2.2.2.2.2.2.2 (S 18 i 0).toNat (by omega)) rfl ?_
              refine wp_iaload dX6_latestDay_124 W.2.2.1.2.1 (by omega) (by omega) (by omega) ?_
              refine wp_goto 141 dX6_latestDay_125 (by decide) ?_
              refine wp_istore dX6_latestDay_141 (Nat.le_of_ble_eq_true rfl) rfl ?_
              change WP G mX6_latestDay _ _ _ _ h N 143 [some (.ref a), some (JV (t : Int)), some (JV x), some (JV y), some (JV (i : Int)), some (.ref (cB G + 68 + (S 18 i 0).toNat)), some (JV (lb (S 20 (S 18 i 0).toNat 0).toNat))] []
              refine wp_iload_n dX6_latestDay_143 rfl ?_
              refine wp_iload dX6_latestDay_144 rfl ?_
              refine wp_aload dX6_latestDay_146 rfl ?_
              refine wp_get fkX6_114 dX6_latestDay_148 (H.2.2.2.2.2.2.2.2.2.2.2.2 (S 18 i 0).toNat (by omega)) rfl ?_
              refine wp_isub dX6_latestDay_151 ?_
              refine wp_min dX6_latestDay_152 maX6_117 w_min (Nat.le_of_ble_eq_true rfl) (Nat.le_of_ble_eq_true rfl) ⟨by omega, by omega⟩ ⟨by omega, by omega⟩ ?_
              refine wp_istore_n dX6_latestDay_155 (Nat.le_of_ble_eq_true rfl) rfl ?_
              change WP G mX6_latestDay _ _ _ _ h N 156 [some (.ref a), some (JV (t : Int)), some (JV x), some (JV (min y ((lb (S 20 (S 18 i 0).toNat 0).toNat) - (S 22 (S 18 i 0).toNat 0)))), some (JV (i : Int)), some (.ref (cB G + 68 + (S 18 i 0).toNat)), some (JV (lb (S 20 (S 18 i 0).toNat 0).toNat))] []
              refine wp_iinc dX6_latestDay_156 rfl (Nat.le_of_ble_eq_true rfl) rfl ?_
              change WP G mX6_latestDay _ _ _ _ h N 159 [some (.ref a), some (JV (t : Int)), some (JV x), some (JV (min y ((lb (S 20 (S 18 i 0).toNat 0).toNat) - (S 22 (S 18 i 0).toNat 0)))), some (JV ((i : Int) + 1)), some (.ref (cB G + 68 + (S 18 i 0).toNat)), some (JV (lb (S 20 (S 18 i 0).toNat 0).toNat))] []
              refine wp_goto 13 dX6_latestDay_159 (by decide) ?_
              exact ih (i + 1) x (min y (lb (S 20 (S 18 i 0).toNat 0).toNat - (S 22 (S 18 i 0).toNat 0))) _ _ (by omega) (by omega) (by omega) (by omega) kk
          · rw [if_pos c_74] at kk
            refine wp_iload_n dX6_latestDay_77 rfl ?_
            refine wp_aload_n dX6_latestDay_78 rfl ?_
            refine wp_get fkX6_18 dX6_latestDay_79 W.1 rfl ?_
            refine wp_get fkX6_111 dX6_latestDay_82 W.2.2.1.1 rfl ?_
            refine wp_aload dX6_latestDay_85 rfl ?_
            refine wp_get fkX6_105 dX6_latestDay_87 (H.2.2.2.2.2.2.2.2.2.2.2.2 (S 18 i 0).toNat (by omega)) rfl ?_
            refine wp_iaload dX6_latestDay_90 W.2.2.1.2.1 (by omega) (by omega) (by omega) ?_
            refine wp_aload dX6_latestDay_91 rfl ?_
            refine wp_get fkX6_114 dX6_latestDay_93 (H.2.2.2.2.2.2.2.2.2.2.2.2 (S 18 i 0).toNat (by omega)) rfl ?_
            refine wp_isub dX6_latestDay_96 ?_
            refine wp_min dX6_latestDay_97 maX6_117 w_min (Nat.le_of_ble_eq_true rfl) (Nat.le_of_ble_eq_true rfl) ⟨by omega, by omega⟩ ⟨by omega, by omega⟩ ?_
            refine wp_istore_n dX6_latestDay_100 (Nat.le_of_ble_eq_true rfl) rfl ?_
            change WP G mX6_latestDay _ _ _ _ h N 101 [some (.ref a), some (JV (t : Int)), some (JV (min x ((lb (S 20 (S 18 i 0).toNat 0).toNat) - (S 22 (S 18 i 0).toNat 0)))), some (JV y), some (JV (i : Int)), some (.ref (cB G + 68 + (S 18 i 0).toNat)), x6] []
            refine wp_goto 156 dX6_latestDay_101 (by decide) ?_
            refine wp_iinc dX6_latestDay_156 rfl (Nat.le_of_ble_eq_true rfl) rfl ?_
            change WP G mX6_latestDay _ _ _ _ h N 159 [some (.ref a), some (JV (t : Int)), some (JV (min x ((lb (S 20 (S 18 i 0).toNat 0).toNat) - (S 22 (S 18 i 0).toNat 0)))), some (JV y), some (JV ((i : Int) + 1)), some (.ref (cB G + 68 + (S 18 i 0).toNat)), x6] []
            refine wp_goto 13 dX6_latestDay_159 (by decide) ?_
            exact ih (i + 1) (min x (lb (S 20 (S 18 i 0).toNat 0).toNat - (S 22 (S 18 i 0).toNat 0))) y _ _ (by omega) (by omega) (by omega) (by omega) kk
        · rw [askU, if_neg (fun z => c_62 z.2)] at kk
          refine wp_goto 156 dX6_latestDay_65 (by decide) ?_
          refine wp_iinc dX6_latestDay_156 rfl (Nat.le_of_ble_eq_true rfl) rfl ?_
          change WP G mX6_latestDay _ _ _ _ h N 159 [some (.ref a), some (JV (t : Int)), some (JV x), some (JV y), some (JV ((i : Int) + 1)), some (.ref (cB G + 68 + (S 18 i 0).toNat)), x6] []
          refine wp_goto 13 dX6_latestDay_159 (by decide) ?_
          exact ih (i + 1) x y _ _ (by omega) (by omega) (by omega) (by omega) kk

theorem c_latestDay {t : Nat} (W : NW G h a eb ee lb le rm ld) (H : HP G S h) (w : WF S) (pe : PB eb ee) (pl : PB lb le) (hld : 0 ≤ ld ∧ ld ≤ 20000) (ht : t < 24) : CT G mX6_latestDay [.ref a, JV (t : Int)] h N 0 0 (PV (JV (lday S eb lb le ld t)) h N) := by
  refine CT_of (by decide +kernel) rfl (by simp [Value.category]) (Nat.le_of_ble_eq_true rfl) ?_
  change WP G mX6_latestDay _ noX _ _ h N 0 [some (.ref a), some (JV (t : Int)), none, none, none, none, none] []
  refine wp_aload_n dX6_latestDay_0 rfl ?_
  refine wp_get fkX6_29 dX6_latestDay_1 W.1 rfl ?_
  refine wp_istore_n dX6_latestDay_4 (Nat.le_of_ble_eq_true rfl) rfl ?_
  change WP G mX6_latestDay _ _ _ _ h N 5 [some (.ref a), some (JV (t : Int)), some (JV ld), none, none, none, none] []
  refine wp_aload_n dX6_latestDay_5 rfl ?_
  refine wp_get fkX6_29 dX6_latestDay_6 W.1 rfl ?_
  refine wp_istore_n dX6_latestDay_9 (Nat.le_of_ble_eq_true rfl) rfl ?_
  change WP G mX6_latestDay _ _ _ _ h N 10 [some (.ref a), some (JV (t : Int)), some (JV ld), some (JV ld), none, none, none] []
  refine wp_iconst dX6_latestDay_10 ?_
  refine wp_istore dX6_latestDay_11 (Nat.le_of_ble_eq_true rfl) rfl ?_
  change WP G mX6_latestDay _ _ _ _ h N 13 [some (.ref a), some (JV (t : Int)), some (JV ld), some (JV ld), some (JV 0), none, none] []
  exact l_latestDay W H w pe pl hld ht _ 0 ld ld none none rfl (by omega) (by omega) (by omega) ⟨rfl, rfl, rfl⟩

/-- how t lies in the early plan -/
def EPt (S : ST) (b e : Nat → Int) (t : Nat) : Prop := (S 9 t 0 ≠ 0 → b t = S 10 t 0 ∧ e t = S 11 t 0) ∧ (S 9 t 0 = 0 → b t = fday S b e t ∧ e t = endS S t (b t))
theorem fupn {f : Nat → Int} {i x : Nat} {v : Int} (h : x ≠ i) : fup f i v x = f x := by unfold fup; rw [if_neg h]
theorem fupe {f : Nat → Int} {i : Nat} {v : Int} : fup f i v i = v := by unfold fup; rw [if_pos rfl]
theorem EPt.up {S : ST} {b e : Nat → Int} {t x : Nat} {v v' : Int} (p : EPt S b e x) (hx : x ≠ t) (hp : ∀ j : Nat, (j : Int) < S 14 0 0 → lT S j = (x : Int) → (lF S j).toNat ≠ t) : EPt S (fup b t v) (fup e t v') x := by
  have q : fday S (fup b t v) (fup e t v') x = fday S b e x := fday_congr fun j h1 h2 => ⟨fupn (hp j h1 h2), fupn (hp j h1 h2)⟩
  unfold EPt
  rw [fupn hx, fupn hx, q]
  exact p
/-- the last day of the first k -/
def LDk (S : ST) (e : Nat → Int) (k : Nat) (ld : Int) : Prop := (∀ i : Nat, i < k → e (S 16 i 0).toNat ≤ ld) ∧ (ld = 0 ∨ ∃ i : Nat, i < k ∧ ld = e (S 16 i 0).toNat) ∧ 0 ≤ ld ∧ ld ≤ 5000 + 20 * (k : Int)
def EP (S : ST) (b e : Nat → Int) : Prop := ∀ t : Nat, (t : Int) < S 13 0 0 → EPt S b e t
def RG (S : ST) (b e : Nat → Int) : Prop := ∀ t : Nat, (t : Int) < S 13 0 0 → (0 ≤ b t ∧ b t ≤ 5500) ∧ 0 ≤ e t ∧ e t ≤ 5500
def LDY (S : ST) (e : Nat → Int) (ld : Int) : Prop := (∀ t : Nat, (t : Int) < S 13 0 0 → e t ≤ ld) ∧ (ld = 0 ∨ ∃ t : Nat, (t : Int) < S 13 0 0 ∧ ld = e t) ∧ 0 ≤ ld ∧ ld ≤ 5500
theorem l_reckonEarly {Q : PQ} {X : PX} {k9 n9 : Nat} {S : ST} {h0 : AH} (ha : cB G + 108 ≤ a) (w : WF S) (tp : TOP S) : ∀ (m : Nat) (k : Nat) (eb ee : Nat → Int) (ld : Int) (h : AH) (x2 x3 x4 : Option Value), ((S 13 0 0).toNat - k = m) → ((k : Int) ≤ S 13 0 0) → (NW G h a eb ee lb le rm ld) → (HP G S h) → (PB eb ee) → (∀ i : Nat, i < k → (0 ≤ eb (S 16 i 0).toNat ∧ eb (S 16 i 0).toNat ≤ 5000 + 20 * (k : Int)) ∧ 0 ≤ ee (S 16 i 0).toNat ∧ ee (S 16 i 0).toNat ≤ 5000 + 20 * (k : Int)) → (∀ i : Nat, i < k → EPt S eb ee (S 16 i 0).toNat) → (LDk S ee k ld) → (FR a (a + 4) h0 h) → (∀ (eb' ee' : Nat → Int) (ld' : Int) (h' : AH), NW G h' a eb' ee' lb le rm ld' → HP G S h' → PB eb' ee' → RG S eb' ee' → EP S eb' ee' → LDY S ee' ld' → FR a (a + 4) h0 h' → Q none h' N) → WP G mX6_reckonEarly Q X k9 n9 h N 7 [some (.ref a), some (JV (k : Int)), x2, x3, x4] [] := by
  intro m
  induction m with
  | zero =>
    intro k eb ee ld h x2 x3 x4 hm hk W H pb hB hE hL fr kk
    have wT := w.nT
    have hl3 := hL.2.2
    refine wp_iload_n dX6_reckonEarly_7 rfl ?_
    refine wp_aload_n dX6_reckonEarly_8 rfl ?_
    refine wp_get fkX6_25 dX6_reckonEarly_9 W.1 rfl ?_
    refine wp_get fkX6_33 dX6_reckonEarly_12 H.1 rfl ?_
    refine wp_icmp_ge 131 dX6_reckonEarly_15 (by decide) ⟨by omega, by omega⟩ ⟨by omega, by omega⟩ (fun c_15 => ?_) (fun c_15 => ?_)
    · refine wp_vret dX6_reckonEarly_131 rfl ?_
      have hs : ∀ t : Nat, (t : Int) < S 13 0 0 → ∃ i : Nat, i < k ∧ (S 16 i 0).toNat = t := fun t h => by
        obtain ⟨i, i1, i2⟩ := tp.2.2.2.1 t (by omega) h
        exact ⟨i, by omega, by omega⟩
      refine kk eb ee ld h W H pb (fun t h1 => ?_) (fun t h1 => ?_) ⟨fun t h1 => ?_, ?_, hl3.1, by omega⟩ fr
      · obtain ⟨i, i1, i2⟩ := hs t h1
        have := hB i i1
        rw [i2] at this
        omega
      · obtain ⟨i, i1, i2⟩ := hs t h1
        have := hE i i1
        rw [i2] at this
        exact this
      · obtain ⟨i, i1, i2⟩ := hs t h1
        have := hL.1 i i1
        rw [i2] at this
        exact this
      · rcases hL.2.1 with q | ⟨i, i1, q⟩
        · exact Or.inl q
        · have r1 := tp.2.1 i (by omega)
          exact Or.inr ⟨_, by omega, q⟩
    · exact absurd c_15 (by omega)
  | succ m ih =>
    intro k eb ee ld h x2 x3 x4 hm hk W H pb hB hE hL fr kk
    have wT := w.nT
    have hl3 := hL.2.2
    have ws := w.sorted (i := k)
    refine wp_iload_n dX6_reckonEarly_7 rfl ?_
    refine wp_aload_n dX6_reckonEarly_8 rfl ?_
    refine wp_get fkX6_25 dX6_reckonEarly_9 W.1 rfl ?_
    refine wp_get fkX6_33 dX6_reckonEarly_12 H.1 rfl ?_
    refine wp_icmp_ge 131 dX6_reckonEarly_15 (by decide) ⟨by omega, by omega⟩ ⟨by omega, by omega⟩ (fun c_15 => ?_) (fun c_15 => ?_)
    · exact absurd c_15 (by omega)
    · refine wp_aload_n dX6_reckonEarly_18 rfl ?_
      refine wp_get fkX6_25 dX6_reckonEarly_19 W.1 rfl ?_
      refine wp_get fkX6_38 dX6_reckonEarly_22 H.1 rfl ?_
      refine wp_iload_n dX6_reckonEarly_25 rfl ?_
      refine wp_iaload dX6_reckonEarly_26 H.2.2.2.2.2.1 (by omega) (by omega) (by omega) ?_
      change WP G mX6_reckonEarly _ _ _ _ h N 27 [some (.ref a), some (JV (k : Int)), x2, x3, x4] [JV (S 16 k 0)]
      obtain ⟨t, et⟩ : ∃ t : Nat, S 16 k 0 = (t : Int) := ⟨(S 16 k 0).toNat, by omega⟩
      rw [et]
      have ht : t < 24 := by omega
      have wt := w.task ht
      have pt := pb t ht
      have hne : ∀ i, i < k → (S 16 i 0).toNat ≠ t := fun i hi z => by
        have r1 := tp.2.1 i (by omega)
        have r2 := tp.2.2.1 i k (by omega) (by omega) (by omega)
        omega
      have hpr : ∀ j : Nat, (j : Int) < S 14 0 0 → lT S j = (t : Int) → ∃ i, i < k ∧ S 16 i 0 = lF S j := fun j hj hs => tp.2.2.2.2 k j (by omega) hj (by rw [hs, et])
      have hm2 : (S 13 0 0).toNat - (k + 1) = m := by omega
      have hk2 : ((k + 1 : Nat) : Int) ≤ S 13 0 0 := by omega
      have hfd := fday_r (b := eb) (e := ee) (M := 5000 + 20 * (k : Int)) w ht (by omega) (fun j h1 h2 => by
        obtain ⟨i, i1, i2⟩ := hpr j h1 h2
        have := hB i i1
        rw [← i2]
        exact ⟨this.1.2, this.2.2⟩)
      have hen := endS_r (S := S) (t := t) (d := fday S eb ee t) (by omega)
      refine wp_istore_n dX6_reckonEarly_27 (Nat.le_of_ble_eq_true rfl) rfl ?_
      change WP G mX6_reckonEarly _ _ _ _ h N 28 [some (.ref a), some (JV (k : Int)), some (JV (t : Int)), x3, x4] []
      refine wp_aload_n dX6_reckonEarly_28 rfl ?_
      refine wp_get fkX6_25 dX6_reckonEarly_29 W.1 rfl ?_
      refine wp_get fkX6_41 dX6_reckonEarly_32 H.1 rfl ?_
      refine wp_iload_n dX6_reckonEarly_35 rfl ?_
      refine wp_aaload dX6_reckonEarly_36 H.2.2.2.1 rfl rfl (by omega) (by omega) (by omega) (if_pos (by omega)) ?_
      change WP G mX6_reckonEarly _ _ _ _ h N 37 [some (.ref a), some (JV (k : Int)), some (JV (t : Int)), x3, x4] [.ref (cB G + 20 + 2 * t)]
      refine wp_astore_n dX6_reckonEarly_37 (Nat.le_of_ble_eq_true rfl) rfl ?_
      change WP G mX6_reckonEarly _ _ _ _ h N 38 [some (.ref a), some (JV (k : Int)), some (JV (t : Int)), some (.ref (cB G + 20 + 2 * t)), x4] []
      refine wp_aload_n dX6_reckonEarly_38 rfl ?_
      refine wp_get fkX6_45 dX6_reckonEarly_39 (H.2.2.2.2.2.2.2.2.2.2.1 t (by omega)) rfl ?_
      refine wp_if_eq 64 dX6_reckonEarly_42 (by decide) ⟨by omega, by omega⟩ (fun c_42 => ?_) (fun c_42 => ?_)
      · refine wp_aload_n dX6_reckonEarly_64 rfl ?_
        refine wp_get fkX6_25 dX6_reckonEarly_65 W.1 rfl ?_
        refine wp_iload_n dX6_reckonEarly_68 rfl ?_
        refine wp_aload_n dX6_reckonEarly_69 rfl ?_
        refine wp_get fkX6_12 dX6_reckonEarly_70 W.1 rfl ?_
        refine wp_v2p (c_firstDay (N := N) H w W.2.1 pb ht) cvX6_61 dX6_reckonEarly_73 ⟨Nat.le_of_ble_eq_true rfl, Nat.le_of_ble_eq_true rfl⟩ (Nat.le_of_ble_eq_true rfl) H.1 rfl rfl ?_
        refine wp_istore dX6_reckonEarly_76 (Nat.le_of_ble_eq_true rfl) rfl ?_
        change WP G mX6_reckonEarly _ _ _ _ h N 78 [some (.ref a), some (JV (k : Int)), some (JV (t : Int)), some (.ref (cB G + 20 + 2 * t)), some (JV (fday S eb ee t))] []
        refine wp_aload_n dX6_reckonEarly_78 rfl ?_
        refine wp_get fkX6_12 dX6_reckonEarly_79 W.1 rfl ?_
        refine wp_iload_n dX6_reckonEarly_82 rfl ?_
        refine wp_iload dX6_reckonEarly_83 rfl ?_
        refine wp_aload_n dX6_reckonEarly_85 rfl ?_
        refine wp_get fkX6_25 dX6_reckonEarly_86 W.1 rfl ?_
        refine wp_iload_n dX6_reckonEarly_89 rfl ?_
        refine wp_v1p (c_calendarOf (N := N) H w ht) cvX6_65 dX6_reckonEarly_90 ⟨Nat.le_of_ble_eq_true rfl, Nat.le_of_ble_eq_true rfl⟩ (Nat.le_of_ble_eq_true rfl) H.1 rfl rfl ?_
        refine wp_iload dX6_reckonEarly_93 rfl ?_
        refine wp_aload_n dX6_reckonEarly_95 rfl ?_
        refine wp_get fkX6_69 dX6_reckonEarly_96 (H.2.2.2.2.2.2.2.2.2.2.1 t (by omega)) rfl ?_
        refine wp_v2p (c_endOf (N := N) (H.cal w (c := (S 6 t 0).toNat) (by omega)) (by omega) (by omega) (by omega) (by omega)) cvX6_72 dX6_reckonEarly_99 ⟨Nat.le_of_ble_eq_true rfl, Nat.le_of_ble_eq_true rfl⟩ (Nat.le_of_ble_eq_true rfl) (H.2.2.2.2.2.2.2.1 (S 6 t 0).toNat (by omega)) rfl rfl ?_
        refine wp_v3 k9 n9 (c_set (N := N) (t := (t : Int)) (x := fday S eb ee t) (y := endS S t (fday S eb ee t)) W.2.1 (by omega)) cvX6_57 dX6_reckonEarly_102 ⟨Nat.le_of_ble_eq_true rfl, Nat.le_of_ble_eq_true rfl⟩ (Nat.le_of_ble_eq_true rfl) W.2.1.1 rfl rfl (by omega) (by omega) (fun r h9 N9 hq => ?_)
        obtain ⟨rfl, hN9, p9, f9⟩ := hq
        rw [hN9]
        rw [Int.toNat_natCast] at p9
        obtain ⟨eb9, heb9⟩ : ∃ f9 : Nat → Int, f9 = fup eb t (fday S eb ee t) := ⟨_, rfl⟩
        obtain ⟨ee9, hee9⟩ : ∃ f9 : Nat → Int, f9 = fup ee t (endS S t (fday S eb ee t)) := ⟨_, rfl⟩
        rw [← heb9, ← hee9] at p9
        have W9 := W.setE p9 f9
        have H9 := H.fr f9 (by omega)
        change WP G mX6_reckonEarly _ _ _ _ h9 N 105 [some (.ref a), some (JV (k : Int)), some (JV (t : Int)), some (.ref (cB G + 20 + 2 * t)), some (JV (fday S eb ee t))] []
        have hEt : EPt S eb9 ee9 t := ⟨fun q => absurd c_42 q, fun _ => by
          have q9 : fday S eb9 ee9 t = fday S eb ee t := fday_congr fun j h1 h2 => by
            obtain ⟨i, i1, i2⟩ := hpr j h1 h2
            have := hne i i1
            rw [i2] at this
            rw [heb9, hee9]
            exact ⟨fupn this, fupn this⟩
          rw [q9, heb9, hee9, fupe, fupe]
          exact ⟨rfl, rfl⟩⟩
        have hBt : (0 ≤ eb9 t ∧ eb9 t ≤ 5020 + 20 * (k : Int)) ∧ 0 ≤ ee9 t ∧ ee9 t ≤ 5020 + 20 * (k : Int) := by rw [heb9, hee9, fupe, fupe]; omega
        refine wp_aload_n dX6_reckonEarly_105 rfl ?_
        refine wp_aload_n dX6_reckonEarly_106 rfl ?_
        refine wp_get fkX6_29 dX6_reckonEarly_107 W9.1 rfl ?_
        refine wp_aload_n dX6_reckonEarly_110 rfl ?_
        refine wp_get fkX6_12 dX6_reckonEarly_111 W9.1 rfl ?_
        refine wp_get fkX6_78 dX6_reckonEarly_114 W9.2.1.1 rfl ?_
        refine wp_iload_n dX6_reckonEarly_117 rfl ?_
        refine wp_iaload dX6_reckonEarly_118 W9.2.1.2.2 (by omega) (by omega) (by omega) ?_
        change WP G mX6_reckonEarly _ _ _ _ h9 N 119 [some (.ref a), some (JV (k : Int)), some (JV (t : Int)), some (.ref (cB G + 20 + 2 * t)), some (JV (fday S eb ee t))] [JV (ee9 t), JV ld, .ref a]
        refine wp_max dX6_reckonEarly_119 maX6_81 w_max (Nat.le_of_ble_eq_true rfl) (Nat.le_of_ble_eq_true rfl) ⟨by omega, by omega⟩ ⟨by omega, by omega⟩ ?_
        refine wp_put fkX6_29 dX6_reckonEarly_122 W9.1 rfl rfl (Nat.le_of_ble_eq_true rfl) ?_
        obtain ⟨h_1, eh_1⟩ : ∃ hh9 : AH, hh9 = hup h9 a (eO 6 [.ref (cB G + 1), .ref (a + 1), .ref (a + 4), .ref (a + 7), JV (max ld (ee9 t))]) := ⟨_, rfl⟩
        refine WP.heq eh_1 ?_
        obtain ⟨ld_1, eld_1⟩ : ∃ ss9 : Int, ss9 = max ld (ee9 t) := ⟨_, rfl⟩
        have W_1 : NW G h_1 a eb9 ee9 lb le rm ld_1 := by rw [eld_1]; exact W9.up eh_1
        have HX_1 : HP G S h_1 := H9.frame (fun q9 hq9 hq8 => hup_at eh_1 (by omega))
        refine wp_iinc dX6_reckonEarly_125 rfl (Nat.le_of_ble_eq_true rfl) rfl ?_
        change WP G mX6_reckonEarly _ _ _ _ h_1 N 128 [some (.ref a), some (JV ((k : Int) + 1)), some (JV (t : Int)), some (.ref (cB G + 20 + 2 * t)), some (JV (fday S eb ee t))] []
        refine wp_goto 7 dX6_reckonEarly_128 (by decide) ?_
        have hEE : ∀ i : Nat, i < k + 1 → EPt S eb9 ee9 (S 16 i 0).toNat := fun i hi => by
          by_cases hik : i = k
          · rw [hik, et, Int.toNat_natCast]; exact hEt
          · rw [heb9, hee9]
            refine (hE i (by omega)).up (hne i (by omega)) (fun j h1 h2 => ?_)
            have r1 := tp.2.1 i (by omega)
            obtain ⟨i9, j1, j2⟩ := tp.2.2.2.2 i j (by omega) h1 (by omega)
            rw [← j2]
            exact hne i9 (by omega)
        have hBB : ∀ i : Nat, i < k + 1 → (0 ≤ eb9 (S 16 i 0).toNat ∧ eb9 (S 16 i 0).toNat ≤ 5000 + 20 * ((k + 1 : Nat) : Int)) ∧ 0 ≤ ee9 (S 16 i 0).toNat ∧ ee9 (S 16 i 0).toNat ≤ 5000 + 20 * ((k + 1 : Nat) : Int) := fun i hi => by
          by_cases hik : i = k
          · rw [hik, et, Int.toNat_natCast]; omega
          · have := hB i (by omega)
            rw [heb9, hee9, fupn (hne i (by omega)), fupn (hne i (by omega))]
            omega
        refine ih (k + 1) eb9 ee9 ld_1 h_1 _ _ _ hm2 hk2 W_1 HX_1 (fun x hx => ?_) hBB hEE ⟨fun i hi => ?_, ?_, by omega, by omega⟩ ((fr.tr (f9.mono (by omega) (by omega))).up eh_1 ⟨by omega, by omega⟩) kk
        · by_cases hxt : x = t
          · rw [hxt]; omega
          · rw [heb9, hee9, fupn hxt, fupn hxt]; exact pb x hx
        · rw [eld_1]
          by_cases hik : i = k
          · rw [hik, et, Int.toNat_natCast]; omega
          · have q1 := hL.1 i (by omega)
            have q2 : ee9 (S 16 i 0).toNat = ee (S 16 i 0).toNat := by rw [hee9, fupn (hne i (by omega))]
            omega
        · rw [eld_1]
          rcases Int.le_total ld (ee9 t) with q | q
          · exact Or.inr ⟨k, by omega, by rw [et, Int.toNat_natCast]; omega⟩
          · rcases hL.2.1 with q2 | ⟨i, i1, q2⟩
            · exact Or.inl (by omega)
            · exact Or.inr ⟨i, by omega, by rw [hee9, fupn (hne i i1), ← hee9]; omega⟩
      · refine wp_aload_n dX6_reckonEarly_45 rfl ?_
        refine wp_get fkX6_12 dX6_reckonEarly_46 W.1 rfl ?_
        refine wp_iload_n dX6_reckonEarly_49 rfl ?_
        refine wp_aload_n dX6_reckonEarly_50 rfl ?_
        refine wp_get fkX6_51 dX6_reckonEarly_51 (H.2.2.2.2.2.2.2.2.2.2.1 t (by omega)) rfl ?_
        refine wp_aload_n dX6_reckonEarly_54 rfl ?_
        refine wp_get fkX6_54 dX6_reckonEarly_55 (H.2.2.2.2.2.2.2.2.2.2.1 t (by omega)) rfl ?_
        refine wp_v3 k9 n9 (c_set (N := N) (t := (t : Int)) (x := S 10 t 0) (y := S 11 t 0) W.2.1 (by omega)) cvX6_57 dX6_reckonEarly_58 ⟨Nat.le_of_ble_eq_true rfl, Nat.le_of_ble_eq_true rfl⟩ (Nat.le_of_ble_eq_true rfl) W.2.1.1 rfl rfl (by omega) (by omega) (fun r h9 N9 hq => ?_)
        obtain ⟨rfl, hN9, p9, f9⟩ := hq
        rw [hN9]
        rw [Int.toNat_natCast] at p9
        obtain ⟨eb9, heb9⟩ : ∃ f9 : Nat → Int, f9 = fup eb t (S 10 t 0) := ⟨_, rfl⟩
        obtain ⟨ee9, hee9⟩ : ∃ f9 : Nat → Int, f9 = fup ee t (S 11 t 0) := ⟨_, rfl⟩
        rw [← heb9, ← hee9] at p9
        have W9 := W.setE p9 f9
        have H9 := H.fr f9 (by omega)
        change WP G mX6_reckonEarly _ _ _ _ h9 N 61 [some (.ref a), some (JV (k : Int)), some (JV (t : Int)), some (.ref (cB G + 20 + 2 * t)), x4] []
        have hEt : EPt S eb9 ee9 t := ⟨fun _ => by rw [heb9, hee9, fupe, fupe]; exact ⟨rfl, rfl⟩, fun q => absurd q c_42⟩
        have hBt : (0 ≤ eb9 t ∧ eb9 t ≤ 5020 + 20 * (k : Int)) ∧ 0 ≤ ee9 t ∧ ee9 t ≤ 5020 + 20 * (k : Int) := by rw [heb9, hee9, fupe, fupe]; omega
        refine wp_goto 105 dX6_reckonEarly_61 (by decide) ?_
        refine wp_aload_n dX6_reckonEarly_105 rfl ?_
        refine wp_aload_n dX6_reckonEarly_106 rfl ?_
        refine wp_get fkX6_29 dX6_reckonEarly_107 W9.1 rfl ?_
        refine wp_aload_n dX6_reckonEarly_110 rfl ?_
        refine wp_get fkX6_12 dX6_reckonEarly_111 W9.1 rfl ?_
        refine wp_get fkX6_78 dX6_reckonEarly_114 W9.2.1.1 rfl ?_
        refine wp_iload_n dX6_reckonEarly_117 rfl ?_
        refine wp_iaload dX6_reckonEarly_118 W9.2.1.2.2 (by omega) (by omega) (by omega) ?_
        change WP G mX6_reckonEarly _ _ _ _ h9 N 119 [some (.ref a), some (JV (k : Int)), some (JV (t : Int)), some (.ref (cB G + 20 + 2 * t)), x4] [JV (ee9 t), JV ld, .ref a]
        refine wp_max dX6_reckonEarly_119 maX6_81 w_max (Nat.le_of_ble_eq_true rfl) (Nat.le_of_ble_eq_true rfl) ⟨by omega, by omega⟩ ⟨by omega, by omega⟩ ?_
        refine wp_put fkX6_29 dX6_reckonEarly_122 W9.1 rfl rfl (Nat.le_of_ble_eq_true rfl) ?_
        obtain ⟨h_1, eh_1⟩ : ∃ hh9 : AH, hh9 = hup h9 a (eO 6 [.ref (cB G + 1), .ref (a + 1), .ref (a + 4), .ref (a + 7), JV (max ld (ee9 t))]) := ⟨_, rfl⟩
        refine WP.heq eh_1 ?_
        obtain ⟨ld_1, eld_1⟩ : ∃ ss9 : Int, ss9 = max ld (ee9 t) := ⟨_, rfl⟩
        have W_1 : NW G h_1 a eb9 ee9 lb le rm ld_1 := by rw [eld_1]; exact W9.up eh_1
        have HX_1 : HP G S h_1 := H9.frame (fun q9 hq9 hq8 => hup_at eh_1 (by omega))
        refine wp_iinc dX6_reckonEarly_125 rfl (Nat.le_of_ble_eq_true rfl) rfl ?_
        change WP G mX6_reckonEarly _ _ _ _ h_1 N 128 [some (.ref a), some (JV ((k : Int) + 1)), some (JV (t : Int)), some (.ref (cB G + 20 + 2 * t)), x4] []
        refine wp_goto 7 dX6_reckonEarly_128 (by decide) ?_
        have hEE : ∀ i : Nat, i < k + 1 → EPt S eb9 ee9 (S 16 i 0).toNat := fun i hi => by
          by_cases hik : i = k
          · rw [hik, et, Int.toNat_natCast]; exact hEt
          · rw [heb9, hee9]
            refine (hE i (by omega)).up (hne i (by omega)) (fun j h1 h2 => ?_)
            have r1 := tp.2.1 i (by omega)
            obtain ⟨i9, j1, j2⟩ := tp.2.2.2.2 i j (by omega) h1 (by omega)
            rw [← j2]
            exact hne i9 (by omega)
        have hBB : ∀ i : Nat, i < k + 1 → (0 ≤ eb9 (S 16 i 0).toNat ∧ eb9 (S 16 i 0).toNat ≤ 5000 + 20 * ((k + 1 : Nat) : Int)) ∧ 0 ≤ ee9 (S 16 i 0).toNat ∧ ee9 (S 16 i 0).toNat ≤ 5000 + 20 * ((k + 1 : Nat) : Int) := fun i hi => by
          by_cases hik : i = k
          · rw [hik, et, Int.toNat_natCast]; omega
          · have := hB i (by omega)
            rw [heb9, hee9, fupn (hne i (by omega)), fupn (hne i (by omega))]
            omega
        refine ih (k + 1) eb9 ee9 ld_1 h_1 _ _ _ hm2 hk2 W_1 HX_1 (fun x hx => ?_) hBB hEE ⟨fun i hi => ?_, ?_, by omega, by omega⟩ ((fr.tr (f9.mono (by omega) (by omega))).up eh_1 ⟨by omega, by omega⟩) kk
        · by_cases hxt : x = t
          · rw [hxt]; omega
          · rw [heb9, hee9, fupn hxt, fupn hxt]; exact pb x hx
        · rw [eld_1]
          by_cases hik : i = k
          · rw [hik, et, Int.toNat_natCast]; omega
          · have q1 := hL.1 i (by omega)
            have q2 : ee9 (S 16 i 0).toNat = ee (S 16 i 0).toNat := by rw [hee9, fupn (hne i (by omega))]
            omega
        · rw [eld_1]
          rcases Int.le_total ld (ee9 t) with q | q
          · exact Or.inr ⟨k, by omega, by rw [et, Int.toNat_natCast]; omega⟩
          · rcases hL.2.1 with q2 | ⟨i, i1, q2⟩
            · exact Or.inl (by omega)
            · exact Or.inr ⟨i, by omega, by rw [hee9, fupn (hne i i1), ← hee9]; omega⟩

theorem c_reckonEarly (W : NW G h a eb ee lb le rm ld) (H : HP G S h) (ha : cB G + 108 ≤ a) (w : WF S) (tp : TOP S) (pe : PB eb ee) : CT G mX6_reckonEarly [.ref a] h N 0 0 (fun r h' N' => r = none ∧ N' = N ∧ ∃ eb' ee' ld', NW G h' a eb' ee' lb le rm ld' ∧ HP G S h' ∧ PB eb' ee' ∧ RG S eb' ee' ∧ EP S eb' ee' ∧ LDY S ee' ld' ∧ FR a (a + 4) h h') := by
  refine CT_of (by decide +kernel) rfl (by simp [Value.category]) (Nat.le_of_ble_eq_true rfl) ?_
  change WP G mX6_reckonEarly _ noX _ _ h N 0 [some (.ref a), none, none, none, none] []
  have wT := w.nT
  refine wp_aload_n dX6_reckonEarly_0 rfl ?_
  refine wp_iconst dX6_reckonEarly_1 ?_
  refine wp_put fkX6_29 dX6_reckonEarly_2 W.1 rfl rfl (Nat.le_of_ble_eq_true rfl) ?_
  obtain ⟨h_1, eh_1⟩ : ∃ hh9 : AH, hh9 = hup h a (eO 6 [.ref (cB G + 1), .ref (a + 1), .ref (a + 4), .ref (a + 7), JV 0]) := ⟨_, rfl⟩
  refine WP.heq eh_1 ?_
  obtain ⟨ld_1, eld_1⟩ : ∃ ss9 : Int, ss9 = 0 := ⟨_, rfl⟩
  have W_1 : NW G h_1 a eb ee lb le rm ld_1 := by rw [eld_1]; exact W.up eh_1
  have HX_1 : HP G S h_1 := H.frame (fun q9 hq9 hq8 => hup_at eh_1 (by omega))
  refine wp_iconst dX6_reckonEarly_5 ?_
  refine wp_istore_n dX6_reckonEarly_6 (Nat.le_of_ble_eq_true rfl) rfl ?_
  change WP G mX6_reckonEarly _ _ _ _ h_1 N 7 [some (.ref a), some (JV 0), none, none, none] []
  rw [eld_1] at W_1
  refine l_reckonEarly ha w tp _ 0 eb ee 0 h_1 none none none rfl (by omega) W_1 HX_1 pe (fun i hi => absurd hi (by omega)) (fun i hi => absurd hi (by omega)) ⟨fun i hi => absurd hi (by omega), Or.inl rfl, by omega, by omega⟩ (FR.rf.up eh_1 ⟨by omega, by omega⟩) (fun eb9 ee9 ld9 h9 z1 z2 z3 z4 z5 z6 z7 => ⟨rfl, rfl, eb9, ee9, ld9, z1, z2, z3, z4, z5, z6, z7⟩)

theorem askU_congr {S : ST} {lb le lb' le' : Nat → Int} {t : Nat} : ∀ (m i : Nat) (x y : Int), (∀ j, i ≤ j → j < i + m → lF S j = (t : Int) → S 9 (lT S j).toNat 0 = 0 → lb (lT S j).toNat = lb' (lT S j).toNat ∧ le (lT S j).toNat = le' (lT S j).toNat) → askU S lb le t m i x y = askU S lb' le' t m i x y
  | 0, i, x, y, _ => rfl
  | m + 1, i, x, y, hh => by
    unfold askU
    split
    · rename_i hc
      have q := hh i (by omega) (by omega) hc.1 hc.2
      rw [q.1, q.2]
      split
      · exact askU_congr m (i + 1) _ _ (fun j h1 h2 h3 => hh j (by omega) (by omega) h3)
      · exact askU_congr m (i + 1) _ _ (fun j h1 h2 h3 => hh j (by omega) (by omega) h3)
    · exact askU_congr m (i + 1) _ _ (fun j h1 h2 h3 => hh j (by omega) (by omega) h3)
theorem askU_r {S : ST} {lb le : Nat → Int} {t : Nat} {M : Int} : ∀ (m i : Nat) (x y : Int), x ≤ M → y ≤ M → (askU S lb le t m i x y).1 ≤ M ∧ (askU S lb le t m i x y).2 ≤ M
  | 0, i, x, y, h1, h2 => ⟨h1, h2⟩
  | m + 1, i, x, y, h1, h2 => by
    unfold askU
    split
    · split
      · exact askU_r m (i + 1) _ _ (by omega) h2
      · exact askU_r m (i + 1) _ _ h1 (by omega)
    · exact askU_r m (i + 1) _ _ h1 h2
theorem lbeg_le {wk : Nat → Bool} {l x y M : Int} (h1 : x ≤ M) (hM : 0 ≤ M) : lbeg wk l x y ≤ M := by
  have a := cbk_r wk (x + 1).toNat 1
  unfold lbeg
  split <;> omega
theorem lday_r {S : ST} {eb lb le : Nat → Int} {ld M : Int} {t : Nat} (h1 : 0 ≤ ld ∧ ld ≤ M) (h2 : eb t ≤ M) : eb t ≤ lday S eb lb le ld t ∧ lday S eb lb le ld t ≤ M := by
  have a := lbeg_le (wk := wkS S (S 6 t 0).toNat) (l := S 5 t 0) (y := (askU S lb le t (S 14 0 0).toNat 0 ld ld).2) (askU_r (S := S) (lb := lb) (le := le) (t := t) (M := M) (S 14 0 0).toNat 0 ld ld h1.2 h1.2).1 (by omega)
  unfold lday
  omega
theorem lday_congr {S : ST} {eb lb le lb' le' : Nat → Int} {ld : Int} {t : Nat} (h : ∀ j : Nat, (j : Int) < S 14 0 0 → lF S j = (t : Int) → lb (lT S j).toNat = lb' (lT S j).toNat ∧ le (lT S j).toNat = le' (lT S j).toNat) : lday S eb lb le ld t = lday S eb lb' le' ld t := by
  unfold lday
  rw [askU_congr (S 14 0 0).toNat 0 ld ld (fun j _ h2 h3 _ => h j (by omega) h3)]
theorem roomF_r {S : ST} {eb : Nat → Int} {t : Nat} {d : Int} (h : eb t ≤ d) : 0 ≤ roomF S eb t d ∧ roomF S eb t d ≤ d - eb t := by
  have := cnt_r (wkS S (S 6 t 0).toNat) (d - eb t).toNat (eb t).toNat
  unfold roomF
  split <;> omega
/-- how t lies in the late plan -/
def LPt (S : ST) (eb lb le rm : Nat → Int) (ld : Int) (t : Nat) : Prop := (S 9 t 0 ≠ 0 → lb t = S 10 t 0 ∧ le t = S 11 t 0 ∧ rm t = 0) ∧ (S 9 t 0 = 0 → lb t = lday S eb lb le ld t ∧ le t = endS S t (lb t) ∧ rm t = roomF S eb t (lb t))
theorem LPt.up {S : ST} {eb lb le rm : Nat → Int} {ld : Int} {t x : Nat} {v v' v2 : Int} (p : LPt S eb lb le rm ld x) (hx : x ≠ t) (hp : ∀ j : Nat, (j : Int) < S 14 0 0 → lF S j = (x : Int) → (lT S j).toNat ≠ t) : LPt S eb (fup lb t v) (fup le t v') (fup rm t v2) ld x := by
  have q : lday S eb (fup lb t v) (fup le t v') ld x = lday S eb lb le ld x := lday_congr fun j h1 h2 => ⟨fupn (hp j h1 h2), fupn (hp j h1 h2)⟩
  unfold LPt
  rw [fupn hx, fupn hx, fupn hx, q]
  exact p
def LATE (S : ST) (eb lb le rm : Nat → Int) (ld : Int) : Prop := ∀ t : Nat, (t : Int) < S 13 0 0 → LPt S eb lb le rm ld t
def RB (rm : Nat → Int) : Prop := ∀ i, -1000000 ≤ rm i ∧ rm i ≤ 1000000
theorem l_reckonLate {Q : PQ} {X : PX} {k9 n9 : Nat} {S : ST} {h0 : AH} (ha : cB G + 108 ≤ a) (w : WF S) (tp : TOP S) (pe : PB eb ee) (rg : RG S eb ee) (hld : 0 ≤ ld ∧ ld ≤ 5500) : ∀ (m : Nat) (k : Nat) (lb le rm : Nat → Int) (h : AH) (x2 x3 x4 : Option Value), (k = m) → ((k : Int) ≤ S 13 0 0) → (NW G h a eb ee lb le rm ld) → (HP G S h) → (PB lb le) → (RB rm) → (∀ i : Nat, k ≤ i → (i : Int) < S 13 0 0 → (0 ≤ lb (S 16 i 0).toNat ∧ lb (S 16 i 0).toNat ≤ 5500) ∧ 0 ≤ le (S 16 i 0).toNat ∧ le (S 16 i 0).toNat ≤ 5500) → (∀ i : Nat, k ≤ i → (i : Int) < S 13 0 0 → LPt S eb lb le rm ld (S 16 i 0).toNat) → (FR (a + 5) (a + 8) h0 h) → (∀ (lb' le' rm' : Nat → Int) (h' : AH), NW G h' a eb ee lb' le' rm' ld → HP G S h' → PB lb' le' → RB rm' → RG S lb' le' → LATE S eb lb' le' rm' ld → FR (a + 5) (a + 8) h0 h' → Q none h' N) → WP G mX6_reckonLate Q X k9 n9 h N 10 [some (.ref a), some (JV ((k : Int) - 1)), x2, x3, x4] [] := by
  intro m
  induction m with
  | zero =>
    intro k lb le rm h x2 x3 x4 hm hk W H pl rb hB hE fr kk
    refine wp_iload_n dX6_reckonLate_10 rfl ?_
    refine wp_if_lt 120 dX6_reckonLate_11 (by decide) ⟨by omega, by omega⟩ (fun c_11 => ?_) (fun c_11 => ?_)
    · refine wp_vret dX6_reckonLate_120 rfl ?_
      have hs : ∀ t : Nat, (t : Int) < S 13 0 0 → ∃ i : Nat, (i : Int) < S 13 0 0 ∧ (S 16 i 0).toNat = t := fun t h => by
        obtain ⟨i, i1, i2⟩ := tp.2.2.2.1 t (by omega) h
        exact ⟨i, by omega, by omega⟩
      refine kk lb le rm h W H pl rb (fun t h1 => ?_) (fun t h1 => ?_) fr
      · obtain ⟨i, i1, i2⟩ := hs t h1
        have := hB i (by omega) i1
        rw [i2] at this
        omega
      · obtain ⟨i, i1, i2⟩ := hs t h1
        have := hE i (by omega) i1
        rw [i2] at this
        exact this
    · exact absurd c_11 (by omega)
  | succ m ih =>
    intro k lb le rm h x2 x3 x4 hm hk W H pl rb hB hE fr kk
    obtain ⟨p, ep⟩ : ∃ p : Nat, k = p + 1 := ⟨m, hm⟩
    subst ep
    rw [show ((p + 1 : Nat) : Int) - 1 = (p : Int) by omega]
    have wT := w.nT
    have ws := w.sorted (i := p)
    refine wp_iload_n dX6_reckonLate_10 rfl ?_
    refine wp_if_lt 120 dX6_reckonLate_11 (by decide) ⟨by omega, by omega⟩ (fun c_11 => ?_) (fun c_11 => ?_)
    · exact absurd c_11 (by omega)
    · refine wp_aload_n dX6_reckonLate_14 rfl ?_
      refine wp_get fkX6_25 dX6_reckonLate_15 W.1 rfl ?_
      refine wp_get fkX6_38 dX6_reckonLate_18 H.1 rfl ?_
      refine wp_iload_n dX6_reckonLate_21 rfl ?_
      refine wp_iaload dX6_reckonLate_22 H.2.2.2.2.2.1 (by omega) (by omega) (by omega) ?_
      change WP G mX6_reckonLate _ _ _ _ h N 23 [some (.ref a), some (JV (p : Int)), x2, x3, x4] [JV (S 16 p 0)]
      obtain ⟨t, et⟩ : ∃ t : Nat, S 16 p 0 = (t : Int) := ⟨(S 16 p 0).toNat, by omega⟩
      rw [et]
      have ht : t < 24 := by omega
      have htn : (t : Int) < S 13 0 0 := by rw [← et]; exact (tp.2.1 p (by omega)).2
      have wt := w.task ht
      have pt := pl t ht
      have rgt := rg t htn
      have hne : ∀ i : Nat, p + 1 ≤ i → (i : Int) < S 13 0 0 → (S 16 i 0).toNat ≠ t := fun i hi h2 z => by
        have r1 := tp.2.1 i (by omega)
        have r2 := tp.2.2.1 i p (by omega) (by omega) (by omega)
        omega
      have hsu2 : ∀ i j : Nat, (i : Int) < S 13 0 0 → (j : Int) < S 14 0 0 → lF S j = S 16 i 0 → ∃ q : Nat, i + 1 ≤ q ∧ (q : Int) < S 13 0 0 ∧ S 16 q 0 = lT S j := fun i j hi hj hs => by
        have r1 := tp.1 j hj
        obtain ⟨q, q1, q2⟩ := tp.2.2.2.1 (lT S j) r1.2.1 r1.2.2
        obtain ⟨i9, j1, j2⟩ := tp.2.2.2.2 q j q1 hj q2.symm
        have r2 := tp.2.2.1 i9 i (by omega) hi (by rw [j2, hs])
        exact ⟨q, by omega, q1, q2⟩
      have hsu : ∀ j : Nat, (j : Int) < S 14 0 0 → lF S j = (t : Int) → ∃ i : Nat, p + 1 ≤ i ∧ (i : Int) < S 13 0 0 ∧ S 16 i 0 = lT S j := fun j hj hs => hsu2 p j (by omega) hj (by rw [hs, et])
      have hm2 : p = m := by omega
      have hk2 : (p : Int) ≤ S 13 0 0 := by omega
      have hldy := lday_r (S := S) (lb := lb) (le := le) (M := 5500) hld rgt.1.2
      have hen := endS_r (S := S) (t := t) (d := lday S eb lb le ld t) (by omega)
      have hrm := roomF_r (S := S) (eb := eb) (t := t) (d := lday S eb lb le ld t) (by omega)
      refine wp_istore_n dX6_reckonLate_23 (Nat.le_of_ble_eq_true rfl) rfl ?_
      change WP G mX6_reckonLate _ _ _ _ h N 24 [some (.ref a), some (JV (p : Int)), some (JV (t : Int)), x3, x4] []
      refine wp_aload_n dX6_reckonLate_24 rfl ?_
      refine wp_get fkX6_25 dX6_reckonLate_25 W.1 rfl ?_
      refine wp_get fkX6_41 dX6_reckonLate_28 H.1 rfl ?_
      refine wp_iload_n dX6_reckonLate_31 rfl ?_
      refine wp_aaload dX6_reckonLate_32 H.2.2.2.1 rfl rfl (by omega) (by omega) (by omega) (if_pos (by omega)) ?_
      change WP G mX6_reckonLate _ _ _ _ h N 33 [some (.ref a), some (JV (p : Int)), some (JV (t : Int)), x3, x4] [.ref (cB G + 20 + 2 * t)]
      refine wp_astore_n dX6_reckonLate_33 (Nat.le_of_ble_eq_true rfl) rfl ?_
      change WP G mX6_reckonLate _ _ _ _ h N 34 [some (.ref a), some (JV (p : Int)), some (JV (t : Int)), some (.ref (cB G + 20 + 2 * t)), x4] []
      refine wp_aload_n dX6_reckonLate_34 rfl ?_
      refine wp_get fkX6_45 dX6_reckonLate_35 (H.2.2.2.2.2.2.2.2.2.2.1 t (by omega)) rfl ?_
      refine wp_if_eq 67 dX6_reckonLate_38 (by decide) ⟨by omega, by omega⟩ (fun c_38 => ?_) (fun c_38 => ?_)
      · refine wp_aload_n dX6_reckonLate_67 rfl ?_
        refine wp_iload_n dX6_reckonLate_68 rfl ?_
        refine wp_v1p (c_latestDay (N := N) W H w pe pl (by omega) ht) cvX6_86 dX6_reckonLate_69 ⟨Nat.le_of_ble_eq_true rfl, Nat.le_of_ble_eq_true rfl⟩ (Nat.le_of_ble_eq_true rfl) W.1 rfl rfl ?_
        refine wp_istore dX6_reckonLate_72 (Nat.le_of_ble_eq_true rfl) rfl ?_
        change WP G mX6_reckonLate _ _ _ _ h N 74 [some (.ref a), some (JV (p : Int)), some (JV (t : Int)), some (.ref (cB G + 20 + 2 * t)), some (JV (lday S eb lb le ld t))] []
        refine wp_aload_n dX6_reckonLate_74 rfl ?_
        refine wp_get fkX6_18 dX6_reckonLate_75 W.1 rfl ?_
        refine wp_iload_n dX6_reckonLate_78 rfl ?_
        refine wp_iload dX6_reckonLate_79 rfl ?_
        refine wp_aload_n dX6_reckonLate_81 rfl ?_
        refine wp_get fkX6_25 dX6_reckonLate_82 W.1 rfl ?_
        refine wp_iload_n dX6_reckonLate_85 rfl ?_
        refine wp_v1p (c_calendarOf (N := N) H w ht) cvX6_65 dX6_reckonLate_86 ⟨Nat.le_of_ble_eq_true rfl, Nat.le_of_ble_eq_true rfl⟩ (Nat.le_of_ble_eq_true rfl) H.1 rfl rfl ?_
        refine wp_iload dX6_reckonLate_89 rfl ?_
        refine wp_aload_n dX6_reckonLate_91 rfl ?_
        refine wp_get fkX6_69 dX6_reckonLate_92 (H.2.2.2.2.2.2.2.2.2.2.1 t (by omega)) rfl ?_
        refine wp_v2p (c_endOf (N := N) (H.cal w (c := (S 6 t 0).toNat) (by omega)) (by omega) (by omega) (by omega) (by omega)) cvX6_72 dX6_reckonLate_95 ⟨Nat.le_of_ble_eq_true rfl, Nat.le_of_ble_eq_true rfl⟩ (Nat.le_of_ble_eq_true rfl) (H.2.2.2.2.2.2.2.1 (S 6 t 0).toNat (by omega)) rfl rfl ?_
        refine wp_v3 k9 n9 (c_set (N := N) (t := (t : Int)) (x := lday S eb lb le ld t) (y := endS S t (lday S eb lb le ld t)) W.2.2.1 (by omega)) cvX6_57 dX6_reckonLate_98 ⟨Nat.le_of_ble_eq_true rfl, Nat.le_of_ble_eq_true rfl⟩ (Nat.le_of_ble_eq_true rfl) W.2.2.1.1 rfl rfl (by omega) (by omega) (fun r h9 N9 hq => ?_)
        obtain ⟨rfl, hN9, p9, f9⟩ := hq
        rw [hN9]
        rw [Int.toNat_natCast] at p9
        obtain ⟨lb9, hlb9⟩ : ∃ f9 : Nat → Int, f9 = fup lb t (lday S eb lb le ld t) := ⟨_, rfl⟩
        obtain ⟨le9, hle9⟩ : ∃ f9 : Nat → Int, f9 = fup le t (endS S t (lday S eb lb le ld t)) := ⟨_, rfl⟩
        rw [← hlb9, ← hle9] at p9
        have W9 := W.setL p9 f9
        have H9 := H.fr f9 (by omega)
        change WP G mX6_reckonLate _ _ _ _ h9 N 101 [some (.ref a), some (JV (p : Int)), some (JV (t : Int)), some (.ref (cB G + 20 + 2 * t)), some (JV (lday S eb lb le ld t))] []
        refine wp_aload_n dX6_reckonLate_101 rfl ?_
        refine wp_get fkX6_21 dX6_reckonLate_102 W9.1 rfl ?_
        refine wp_iload_n dX6_reckonLate_105 rfl ?_
        refine wp_aload_n dX6_reckonLate_106 rfl ?_
        refine wp_iload_n dX6_reckonLate_107 rfl ?_
        refine wp_iload dX6_reckonLate_108 rfl ?_
        refine wp_v2p (c_roomUpTo (N := N) W9 H9 w pe ht (by omega) (by omega)) cvX6_90 dX6_reckonLate_110 ⟨Nat.le_of_ble_eq_true rfl, Nat.le_of_ble_eq_true rfl⟩ (Nat.le_of_ble_eq_true rfl) W9.1 rfl rfl ?_
        refine wp_iastore dX6_reckonLate_113 W9.2.2.2 (by omega) (by omega) (by omega) ?_
        obtain ⟨h_1, eh_1⟩ : ∃ hh9 : AH, hh9 = hup h9 (a + 7) (eI G 24 (fup rm t (roomF S eb t (lday S eb lb le ld t)))) := ⟨_, rfl⟩
        refine WP.heq eh_1 ?_
        obtain ⟨rm_1, erm_1⟩ : ∃ ss9 : Nat → Int, ss9 = fup rm t (roomF S eb t (lday S eb lb le ld t)) := ⟨_, rfl⟩
        have W_1 : NW G h_1 a eb ee lb9 le9 rm_1 ld := by rw [erm_1]; exact W9.room eh_1
        have HX_1 : HP G S h_1 := H9.frame (fun q9 hq9 hq8 => hup_at eh_1 (by omega))
        refine wp_iinc dX6_reckonLate_114 rfl (Nat.le_of_ble_eq_true rfl) rfl ?_
        change WP G mX6_reckonLate _ _ _ _ h_1 N 117 [some (.ref a), some (JV ((p : Int) + (-1))), some (JV (t : Int)), some (.ref (cB G + 20 + 2 * t)), some (JV (lday S eb lb le ld t))] []
        refine wp_goto 10 dX6_reckonLate_117 (by decide) ?_
        have hEt : LPt S eb lb9 le9 rm_1 ld t := ⟨fun q => absurd c_38 q, fun _ => by
          have q9 : lday S eb lb9 le9 ld t = lday S eb lb le ld t := lday_congr fun j h1 h2 => by
            obtain ⟨i, i1, i2, i3⟩ := hsu j h1 h2
            have := hne i i1 i2
            rw [i3] at this
            rw [hlb9, hle9]
            exact ⟨fupn this, fupn this⟩
          rw [q9, hlb9, hle9, erm_1, fupe, fupe, fupe]
          exact ⟨rfl, rfl, rfl⟩⟩
        have hBt : (0 ≤ lb9 t ∧ lb9 t ≤ 5500) ∧ 0 ≤ le9 t ∧ le9 t ≤ 5500 := by rw [hlb9, hle9, fupe, fupe]; omega
        have hEE : ∀ i : Nat, p ≤ i → (i : Int) < S 13 0 0 → LPt S eb lb9 le9 rm_1 ld (S 16 i 0).toNat := fun i hi h2 => by
          by_cases hik : i = p
          · rw [hik, et, Int.toNat_natCast]; exact hEt
          · rw [hlb9, hle9, erm_1]
            refine (hE i (by omega) h2).up (hne i (by omega) h2) (fun j h1 h2 => ?_)
            have r1 := tp.2.1 i (by omega)
            obtain ⟨i9, j0, j1, j2⟩ := hsu2 i j (by omega) h1 (by omega)
            rw [← j2]
            exact hne i9 (by omega) j1
        have hBB : ∀ i : Nat, p ≤ i → (i : Int) < S 13 0 0 → (0 ≤ lb9 (S 16 i 0).toNat ∧ lb9 (S 16 i 0).toNat ≤ 5500) ∧ 0 ≤ le9 (S 16 i 0).toNat ∧ le9 (S 16 i 0).toNat ≤ 5500 := fun i hi h2 => by
          by_cases hik : i = p
          · rw [hik, et, Int.toNat_natCast]; omega
          · have := hB i (by omega) h2
            rw [hlb9, hle9, fupn (hne i (by omega) h2), fupn (hne i (by omega) h2)]
            omega
        rw [show (p : Int) + (-1) = (p : Int) - 1 by omega]
        refine ih p lb9 le9 rm_1 h_1 _ _ _ hm2 hk2 W_1 HX_1 (fun x hx => ?_) (fun x => ?_) hBB hEE ((fr.tr (f9.mono (by omega) (by omega))).up eh_1 ⟨by omega, by omega⟩) kk
        · by_cases hxt : x = t
          · rw [hxt]; omega
          · rw [hlb9, hle9, fupn hxt, fupn hxt]; exact pl x hx
        · rw [erm_1]
          by_cases hxt : x = t
          · rw [hxt, fupe]; omega
          · rw [fupn hxt]; exact rb x
      · refine wp_aload_n dX6_reckonLate_41 rfl ?_
        refine wp_get fkX6_18 dX6_reckonLate_42 W.1 rfl ?_
        refine wp_iload_n dX6_reckonLate_45 rfl ?_
        refine wp_aload_n dX6_reckonLate_46 rfl ?_
        refine wp_get fkX6_51 dX6_reckonLate_47 (H.2.2.2.2.2.2.2.2.2.2.1 t (by omega)) rfl ?_
        refine wp_aload_n dX6_reckonLate_50 rfl ?_
        refine wp_get fkX6_54 dX6_reckonLate_51 (H.2.2.2.2.2.2.2.2.2.2.1 t (by omega)) rfl ?_
        refine wp_v3 k9 n9 (c_set (N := N) (t := (t : Int)) (x := S 10 t 0) (y := S 11 t 0) W.2.2.1 (by omega)) cvX6_57 dX6_reckonLate_54 ⟨Nat.le_of_ble_eq_true rfl, Nat.le_of_ble_eq_true rfl⟩ (Nat.le_of_ble_eq_true rfl) W.2.2.1.1 rfl rfl (by omega) (by omega) (fun r h9 N9 hq => ?_)
        obtain ⟨rfl, hN9, p9, f9⟩ := hq
        rw [hN9]
        rw [Int.toNat_natCast] at p9
        obtain ⟨lb9, hlb9⟩ : ∃ f9 : Nat → Int, f9 = fup lb t (S 10 t 0) := ⟨_, rfl⟩
        obtain ⟨le9, hle9⟩ : ∃ f9 : Nat → Int, f9 = fup le t (S 11 t 0) := ⟨_, rfl⟩
        rw [← hlb9, ← hle9] at p9
        have W9 := W.setL p9 f9
        have H9 := H.fr f9 (by omega)
        change WP G mX6_reckonLate _ _ _ _ h9 N 57 [some (.ref a), some (JV (p : Int)), some (JV (t : Int)), some (.ref (cB G + 20 + 2 * t)), x4] []
        refine wp_aload_n dX6_reckonLate_57 rfl ?_
        refine wp_get fkX6_21 dX6_reckonLate_58 W9.1 rfl ?_
        refine wp_iload_n dX6_reckonLate_61 rfl ?_
        refine wp_iconst dX6_reckonLate_62 ?_
        refine wp_iastore dX6_reckonLate_63 W9.2.2.2 (by omega) (by omega) (by omega) ?_
        obtain ⟨h_1, eh_1⟩ : ∃ hh9 : AH, hh9 = hup h9 (a + 7) (eI G 24 (fup rm t 0)) := ⟨_, rfl⟩
        refine WP.heq eh_1 ?_
        obtain ⟨rm_1, erm_1⟩ : ∃ ss9 : Nat → Int, ss9 = fup rm t 0 := ⟨_, rfl⟩
        have W_1 : NW G h_1 a eb ee lb9 le9 rm_1 ld := by rw [erm_1]; exact W9.room eh_1
        have HX_1 : HP G S h_1 := H9.frame (fun q9 hq9 hq8 => hup_at eh_1 (by omega))
        have hEt : LPt S eb lb9 le9 rm_1 ld t := ⟨fun _ => by rw [hlb9, hle9, erm_1, fupe, fupe, fupe]; exact ⟨rfl, rfl, rfl⟩, fun q => absurd q c_38⟩
        have hBt : (0 ≤ lb9 t ∧ lb9 t ≤ 5500) ∧ 0 ≤ le9 t ∧ le9 t ≤ 5500 := by rw [hlb9, hle9, fupe, fupe]; omega
        refine wp_goto 114 dX6_reckonLate_64 (by decide) ?_
        refine wp_iinc dX6_reckonLate_114 rfl (Nat.le_of_ble_eq_true rfl) rfl ?_
        change WP G mX6_reckonLate _ _ _ _ h_1 N 117 [some (.ref a), some (JV ((p : Int) + (-1))), some (JV (t : Int)), some (.ref (cB G + 20 + 2 * t)), x4] []
        refine wp_goto 10 dX6_reckonLate_117 (by decide) ?_
        have hEE : ∀ i : Nat, p ≤ i → (i : Int) < S 13 0 0 → LPt S eb lb9 le9 rm_1 ld (S 16 i 0).toNat := fun i hi h2 => by
          by_cases hik : i = p
          · rw [hik, et, Int.toNat_natCast]; exact hEt
          · rw [hlb9, hle9, erm_1]
            refine (hE i (by omega) h2).up (hne i (by omega) h2) (fun j h1 h2 => ?_)
            have r1 := tp.2.1 i (by omega)
            obtain ⟨i9, j0, j1, j2⟩ := hsu2 i j (by omega) h1 (by omega)
            rw [← j2]
            exact hne i9 (by omega) j1
        have hBB : ∀ i : Nat, p ≤ i → (i : Int) < S 13 0 0 → (0 ≤ lb9 (S 16 i 0).toNat ∧ lb9 (S 16 i 0).toNat ≤ 5500) ∧ 0 ≤ le9 (S 16 i 0).toNat ∧ le9 (S 16 i 0).toNat ≤ 5500 := fun i hi h2 => by
          by_cases hik : i = p
          · rw [hik, et, Int.toNat_natCast]; omega
          · have := hB i (by omega) h2
            rw [hlb9, hle9, fupn (hne i (by omega) h2), fupn (hne i (by omega) h2)]
            omega
        rw [show (p : Int) + (-1) = (p : Int) - 1 by omega]
        refine ih p lb9 le9 rm_1 h_1 _ _ _ hm2 hk2 W_1 HX_1 (fun x hx => ?_) (fun x => ?_) hBB hEE ((fr.tr (f9.mono (by omega) (by omega))).up eh_1 ⟨by omega, by omega⟩) kk
        · by_cases hxt : x = t
          · rw [hxt]; omega
          · rw [hlb9, hle9, fupn hxt, fupn hxt]; exact pl x hx
        · rw [erm_1]
          by_cases hxt : x = t
          · rw [hxt, fupe]; omega
          · rw [fupn hxt]; exact rb x

theorem c_reckonLate (W : NW G h a eb ee lb le rm ld) (H : HP G S h) (ha : cB G + 108 ≤ a) (w : WF S) (tp : TOP S) (pe : PB eb ee) (rg : RG S eb ee) (hld : 0 ≤ ld ∧ ld ≤ 5500) (pl : PB lb le) (rb : RB rm) : CT G mX6_reckonLate [.ref a] h N 0 0 (fun r h' N' => r = none ∧ N' = N ∧ ∃ lb' le' rm', NW G h' a eb ee lb' le' rm' ld ∧ HP G S h' ∧ PB lb' le' ∧ RB rm' ∧ RG S lb' le' ∧ LATE S eb lb' le' rm' ld ∧ FR (a + 5) (a + 8) h h') := by
  refine CT_of (by decide +kernel) rfl (by simp [Value.category]) (Nat.le_of_ble_eq_true rfl) ?_
  change WP G mX6_reckonLate _ noX _ _ h N 0 [some (.ref a), none, none, none, none] []
  have wT := w.nT
  refine wp_aload_n dX6_reckonLate_0 rfl ?_
  refine wp_get fkX6_25 dX6_reckonLate_1 W.1 rfl ?_
  refine wp_get fkX6_33 dX6_reckonLate_4 H.1 rfl ?_
  refine wp_iconst dX6_reckonLate_7 ?_
  refine wp_isub dX6_reckonLate_8 ?_
  refine wp_istore_n dX6_reckonLate_9 (Nat.le_of_ble_eq_true rfl) rfl ?_
  change WP G mX6_reckonLate _ _ _ _ h N 10 [some (.ref a), some (JV ((S 13 0 0) - 1)), none, none, none] []
  rw [show S 13 0 0 - 1 = (((S 13 0 0).toNat : Nat) : Int) - 1 by omega]
  refine l_reckonLate ha w tp pe rg hld _ (S 13 0 0).toNat lb le rm h none none none rfl (by omega) W H pl rb (fun i hi h2 => absurd hi (by omega)) (fun i hi h2 => absurd hi (by omega)) FR.rf (fun lb9 le9 rm9 h9 z1 z2 z3 z4 z5 z6 z7 => ⟨rfl, rfl, lb9, le9, rm9, z1, z2, z3, z4, z5, z6, z7⟩)

end Net

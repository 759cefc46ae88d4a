/-! ===== arrays count only within; the levelling ===== -/
theorem WP.ext {G : Ctx} {μ : MI} {Q : PQ} {X : PX} {k n : Nat} {h : AH} {N pc : Nat} {L : List (Option Value)} {st : List Value} {a : Nat} {c1 : ClassId} {x x' : vp_A} (h0 : h a = some (.inl (c1, x))) (e : vp_cell c1 x = vp_cell c1 x') (kk : WP G μ Q X k n (hup h a (.inl (c1, x'))) N pc L st) : WP G μ Q X k n h N pc L st := by
  intro p e1 R s m args below meth c H locs cells slots mc ms ls F a1 a2 a3 a4 a5 a6 hR hS hL
  refine kk p e1 R s m args below meth c H locs cells slots mc ms ls F a1 a2 a3 a4 a5 a6 ⟨hR.1, fun q z hq => ?_⟩ hS hL
  by_cases hqa : q = a
  · subst hqa
    rw [hup_self] at hq
    cases hq
    have r := hR.2 q _ h0
    exact ⟨r.1, show H[q]? = some (vp_cell c1 x') from e ▸ r.2⟩
  · rw [hup_ne hqa] at hq
    exact hR.2 q z hq
theorem ext_i {c1 : ClassId} {n : Nat} {f f' : Nat → Int} (h : ∀ j, j < n → f j = f' j) : vp_cell c1 (n, .inl (fun j => Int32.ofInt (f j))) = vp_cell c1 (n, .inl (fun j => Int32.ofInt (f' j))) := by
  rw [vp_cell_i, vp_cell_i]
  unfold arrV
  congr 2
  funext j
  simp only [h j.val j.isLt]
def LV (G : Ctx) (h : AH) (a : Nat) (b e : Nat → Int) (g : Nat → Nat → Int) (u : Int) (inn od : Nat → Int) (ct ld : Int) : Prop := h a = some (eO 3 [.ref (cB G + 1), .ref (a + 1), .ref (a + 4), .ref (a + 10), .ref (a + 11), JV ct, JV ld]) ∧ IsPlan G h (a + 1) b e ∧ LD G h (a + 4) g u ∧ h (a + 10) = some (eZ G 24 inn) ∧ h (a + 11) = some (eI G 24 od)
section LVU
variable {G : Ctx} {h h' : AH} {a : Nat} {b e : Nat → Int} {g : Nat → Nat → Int} {u : Int} {inn od : Nat → Int} {ct ld : Int}
theorem LV.frame (p : LV G h a b e g u inn od ct ld) (hk : ∀ q, a ≤ q → q < a + 12 → h' q = h q) : LV G h' a b e g u inn od ct ld :=
  ⟨(hk _ (by omega) (by omega)).trans p.1, p.2.1.frame (fun q h1 h2 => hk q (by omega) (by omega)), p.2.2.1.frame (fun q h1 h2 => hk q (by omega) (by omega)), (hk _ (by omega) (by omega)).trans p.2.2.2.1, (hk _ (by omega) (by omega)).trans p.2.2.2.2⟩
theorem LV.up {ct' ld' : Int} (p : LV G h a b e g u inn od ct ld) (q : h' = hup h a (eO 3 [.ref (cB G + 1), .ref (a + 1), .ref (a + 4), .ref (a + 10), .ref (a + 11), JV ct', JV ld'])) : LV G h' a b e g u inn od ct' ld' :=
  ⟨by rw [q]; exact hup_self _ _ _, p.2.1.frame (fun x h1 h2 => hup_at q (by omega)), p.2.2.1.frame (fun x h1 h2 => hup_at q (by omega)), (hup_at q (by omega)).trans p.2.2.2.1, (hup_at q (by omega)).trans p.2.2.2.2⟩
theorem LV.inU {inn' : Nat → Int} (p : LV G h a b e g u inn od ct ld) (q : h' = hup h (a + 10) (eZ G 24 inn')) : LV G h' a b e g u inn' od ct ld :=
  ⟨(hup_at q (by omega)).trans p.1, p.2.1.frame (fun x h1 h2 => hup_at q (by omega)), p.2.2.1.frame (fun x h1 h2 => hup_at q (by omega)), by rw [q]; exact hup_self _ _ _, (hup_at q (by omega)).trans p.2.2.2.2⟩
theorem LV.ordr {od' : Nat → Int} (p : LV G h a b e g u inn od ct ld) (q : h' = hup h (a + 11) (eI G 24 od')) : LV G h' a b e g u inn od' ct ld :=
  ⟨(hup_at q (by omega)).trans p.1, p.2.1.frame (fun x h1 h2 => hup_at q (by omega)), p.2.2.1.frame (fun x h1 h2 => hup_at q (by omega)), (hup_at q (by omega)).trans p.2.2.2.1, by rw [q]; exact hup_self _ _ _⟩
theorem LV.pl {b' e' : Nat → Int} (p : LV G h a b e g u inn od ct ld) (q : IsPlan G h' (a + 1) b' e') (f : FR (a + 1 + 1) (a + 1 + 3) h h') : LV G h' a b' e' g u inn od ct ld :=
  ⟨(f _ (by omega)).trans p.1, q, p.2.2.1.frame (fun x h1 h2 => f x (by omega)), (f _ (by omega)).trans p.2.2.2.1, (f _ (by omega)).trans p.2.2.2.2⟩
theorem LV.ldU {g' : Nat → Nat → Int} {u' : Int} (p : LV G h a b e g u inn od ct ld) (q : LD G h' (a + 4) g' u') (f : FR (a + 4) (a + 4 + 6) h h') : LV G h' a b e g' u' inn od ct ld :=
  ⟨(f _ (by omega)).trans p.1, p.2.1.frame (fun x h1 h2 => f x (by omega)), q, (f _ (by omega)).trans p.2.2.2.1, (f _ (by omega)).trans p.2.2.2.2⟩
end LVU
/-- a crew too small for t, from c on, of m -/
def big (S : ST) (t : Nat) : Nat → Nat → Bool
  | 0, _ => false
  | m + 1, c => if S 12 t c > S 3 c 0 then true else big S t m (c + 1)
def tooL (S : ST) (t : Nat) : Bool := if S 5 t 0 = 0 then false else big S t 4 0
def suf (S : ST) (g : Nat → Nat → Int) (t : Nat) (d : Int) : Nat → Nat → Bool
  | 0, _ => true
  | m + 1, c => if S 12 t c > 0 ∧ S 12 t c > S 3 c 0 - onF g c d then false else suf S g t d m (c + 1)
def keyF (S : ST) (lb rm : Nat → Int) (rl : Int) (t : Nat) : Int := if rl = 0 then lb t else if rl = 1 then rm t else if rl = 2 then -(S 7 t 0) else -(S 5 t 0)
def chs (S : ST) (lb rm : Nat → Int) (rl : Int) (inn : Nat → Int) : Nat → Nat → Int → Int → Int
  | 0, _, y, _ => y
  | m + 1, i, y, z => if inn i = 0 ∧ tooL S i = false ∧ opn S inn (i : Int) (S 14 0 0).toNat 0 = true ∧ (y < 0 ∨ keyF S lb rm rl i < z) then chs S lb rm rl inn m (i + 1) (i : Int) (keyF S lb rm rl i) else chs S lb rm rl inn m (i + 1) y z
def fwc (S : ST) (g : Nat → Nat → Int) (t : Nat) : Nat → Nat → Int → Int → Int
  | 0, _, _, y => y
  | m + 1, d, f, y => if f < S 5 t 0 then (if wkS S (S 6 t 0).toNat d = true then (if suf S g t (d : Int) 4 0 = true then fwc S g t m (d + 1) (f + 1) (if f = 0 then (d : Int) else y) else fwc S g t m (d + 1) 0 y) else fwc S g t m (d + 1) f y) else y
section Lev
variable {G : Ctx} {h : AH} {N a : Nat} {b e : Nat → Int} {g : Nat → Nat → Int} {u : Int} {inn od : Nat → Int} {ct ld : Int} {S : ST}
theorem l_isTooLarge {Q : PQ} {X : PX} {k9 n9 : Nat} {t : Nat} (V : LV G h a b e g u inn od ct ld) (H : HP G S h) (w : WF S) (ht : t < 24) : ∀ (m : Nat) (c : Nat), (4 - c = m) → (c ≤ 4) → (Q (some (JV (bI (big S t m c)))) h N) → WP G mX3_isTooLarge Q X k9 n9 h N 21 [some (.ref a), some (JV (t : Int)), some (.ref (cB G + 20 + 2 * t)), some (JV (c : Int))] [] := by
  intro m
  induction m with
  | zero =>
    intro c hm hc kk
    refine wp_iload_n dX3_isTooLarge_21 rfl ?_
    refine wp_iconst dX3_isTooLarge_22 ?_
    refine wp_icmp_ge 55 dX3_isTooLarge_23 (by decide) ⟨by omega, by omega⟩ ⟨by omega, by omega⟩ (fun c_23 => ?_) (fun c_23 => ?_)
    · refine wp_iconst dX3_isTooLarge_55 ?_
      refine wp_zret dX3_isTooLarge_56 rfl (by omega) ?_
      exact kk
    · exact absurd c_23 (by omega)
  | succ m ih =>
    intro c hm hc kk
    have wn := w.need t c
    refine wp_iload_n dX3_isTooLarge_21 rfl ?_
    refine wp_iconst dX3_isTooLarge_22 ?_
    refine wp_icmp_ge 55 dX3_isTooLarge_23 (by decide) ⟨by omega, by omega⟩ ⟨by omega, by omega⟩ (fun c_23 => ?_) (fun c_23 => ?_)
    · exact absurd c_23 (by omega)
    · have wc := w.crew (c := c) (by omega)
      refine wp_aload_n dX3_isTooLarge_26 rfl ?_
      refine wp_get fkX3_135 dX3_isTooLarge_27 (H.2.2.2.2.2.2.2.2.2.2.1 t (by omega)) rfl ?_
      refine wp_iload_n dX3_isTooLarge_30 rfl ?_
      refine wp_iaload dX3_isTooLarge_31 (H.2.2.2.2.2.2.2.2.2.2.2.1 t (by omega)) (by omega) (by omega) (by omega) ?_
      change WP G mX3_isTooLarge _ _ _ _ h N 32 [some (.ref a), some (JV (t : Int)), some (.ref (cB G + 20 + 2 * t)), some (JV (c : Int))] [JV (S 12 t c)]
      refine wp_aload_n dX3_isTooLarge_32 rfl ?_
      refine wp_get fkX3_33 dX3_isTooLarge_33 V.1 rfl ?_
      refine wp_get fkX3_138 dX3_isTooLarge_36 H.1 rfl ?_
      refine wp_iload_n dX3_isTooLarge_39 rfl ?_
      refine wp_aaload dX3_isTooLarge_40 H.2.2.1 rfl rfl (by omega) (by omega) (by omega) (if_pos (by omega)) ?_
      change WP G mX3_isTooLarge _ _ _ _ h N 41 [some (.ref a), some (JV (t : Int)), some (.ref (cB G + 20 + 2 * t)), some (JV (c : Int))] [.ref (cB G + 16 + c), JV (S 12 t c)]
      refine wp_get fkX3_142 dX3_isTooLarge_41 (H.2.2.2.2.2.2.2.2.2.1 c (by omega)) rfl ?_
      refine wp_icmp_le 49 dX3_isTooLarge_44 (by decide) ⟨by omega, by omega⟩ ⟨by omega, by omega⟩ (fun c_44 => ?_) (fun c_44 => ?_)
      · rw [big, if_neg (by omega)] at kk
        refine wp_iinc dX3_isTooLarge_49 rfl (Nat.le_of_ble_eq_true rfl) rfl ?_
        change WP G mX3_isTooLarge _ _ _ _ h N 52 [some (.ref a), some (JV (t : Int)), some (.ref (cB G + 20 + 2 * t)), some (JV ((c : Int) + 1))] []
        refine wp_goto 21 dX3_isTooLarge_52 (by decide) ?_
        exact ih (c + 1) (by omega) (by omega) kk
      · refine wp_iconst dX3_isTooLarge_47 ?_
        refine wp_zret dX3_isTooLarge_48 rfl (by omega) ?_
        rw [big, if_pos (by omega)] at kk
        exact kk

theorem c_isTooLarge {t : Nat} (V : LV G h a b e g u inn od ct ld) (H : HP G S h) (w : WF S) (ht : t < 24) : CT G mX3_isTooLarge [.ref a, JV (t : Int)] h N 0 0 (PV (JV (bI (tooL S t))) h N) := by
  refine CT_of (by decide +kernel) rfl (by simp [Value.category]) (Nat.le_of_ble_eq_true rfl) ?_
  change WP G mX3_isTooLarge _ noX _ _ h N 0 [some (.ref a), some (JV (t : Int)), none, none] []
  have wt := w.task ht
  refine wp_aload_n dX3_isTooLarge_0 rfl ?_
  refine wp_get fkX3_33 dX3_isTooLarge_1 V.1 rfl ?_
  refine wp_get fkX3_46 dX3_isTooLarge_4 H.1 rfl ?_
  refine wp_iload_n dX3_isTooLarge_7 rfl ?_
  refine wp_aaload dX3_isTooLarge_8 H.2.2.2.1 rfl rfl (by omega) (by omega) (by omega) (if_pos (by omega)) ?_
  change WP G mX3_isTooLarge _ _ _ _ h N 9 [some (.ref a), some (JV (t : Int)), none, none] [.ref (cB G + 20 + 2 * t)]
  refine wp_astore_n dX3_isTooLarge_9 (Nat.le_of_ble_eq_true rfl) rfl ?_
  change WP G mX3_isTooLarge _ _ _ _ h N 10 [some (.ref a), some (JV (t : Int)), some (.ref (cB G + 20 + 2 * t)), none] []
  refine wp_aload_n dX3_isTooLarge_10 rfl ?_
  refine wp_get fkX3_82 dX3_isTooLarge_11 (H.2.2.2.2.2.2.2.2.2.2.1 t (by omega)) rfl ?_
  refine wp_if_ne 19 dX3_isTooLarge_14 (by decide) ⟨by omega, by omega⟩ (fun c_14 => ?_) (fun c_14 => ?_)
  · refine wp_iconst dX3_isTooLarge_19 ?_
    refine wp_istore_n dX3_isTooLarge_20 (Nat.le_of_ble_eq_true rfl) rfl ?_
    change WP G mX3_isTooLarge _ _ _ _ h N 21 [some (.ref a), some (JV (t : Int)), some (.ref (cB G + 20 + 2 * t)), some (JV 0)] []
    refine l_isTooLarge V H w ht _ 0 rfl (by omega) ⟨?_, rfl, rfl⟩
    rw [tooL, if_neg (by omega)]
  · refine wp_iconst dX3_isTooLarge_17 ?_
    refine wp_zret dX3_isTooLarge_18 rfl (by omega) ?_
    refine ⟨?_, rfl, rfl⟩
    rw [tooL, if_pos (by omega)]
    rfl

theorem l_crewsSuffice {Q : PQ} {X : PX} {k9 n9 : Nat} {t : Nat} {d : Int} (V : LV G h a b e g u inn od ct ld) (H : HP G S h) (w : WF S) (hg : ∀ c, c < 4 → ∀ d, -1000000 ≤ g c d ∧ g c d ≤ 1000000) (ht : t < 24) (hd : -100000 ≤ d ∧ d ≤ 100000) : ∀ (m : Nat) (c : Nat) (x4 : Option Value), (4 - c = m) → (c ≤ 4) → (Q (some (JV (bI (suf S g t d m c)))) h N) → WP G mX3_crewsSuffice Q X k9 n9 h N 2 [some (.ref a), some (.ref (cB G + 20 + 2 * t)), some (JV d), some (JV (c : Int)), x4] [] := by
  intro m
  induction m with
  | zero =>
    intro c x4 hm hc kk
    refine wp_iload_n dX3_crewsSuffice_2 rfl ?_
    refine wp_iconst dX3_crewsSuffice_3 ?_
    refine wp_icmp_ge 55 dX3_crewsSuffice_4 (by decide) ⟨by omega, by omega⟩ ⟨by omega, by omega⟩ (fun c_4 => ?_) (fun c_4 => ?_)
    · refine wp_iconst dX3_crewsSuffice_55 ?_
      refine wp_zret dX3_crewsSuffice_56 rfl (by omega) ?_
      exact kk
    · exact absurd c_4 (by omega)
  | succ m ih =>
    intro c x4 hm hc kk
    have wn := w.need t c
    refine wp_iload_n dX3_crewsSuffice_2 rfl ?_
    refine wp_iconst dX3_crewsSuffice_3 ?_
    refine wp_icmp_ge 55 dX3_crewsSuffice_4 (by decide) ⟨by omega, by omega⟩ ⟨by omega, by omega⟩ (fun c_4 => ?_) (fun c_4 => ?_)
    · exact absurd c_4 (by omega)
    · have wc := w.crew (c := c) (by omega)
      have hgo : -1000000 ≤ onF g c d ∧ onF g c d ≤ 1000000 := by
        unfold onF
        split
        · exact hg c (by omega) _
        · omega
      refine wp_aload_n dX3_crewsSuffice_7 rfl ?_
      refine wp_get fkX3_135 dX3_crewsSuffice_8 (H.2.2.2.2.2.2.2.2.2.2.1 t (by omega)) rfl ?_
      refine wp_iload_n dX3_crewsSuffice_11 rfl ?_
      refine wp_iaload dX3_crewsSuffice_12 (H.2.2.2.2.2.2.2.2.2.2.2.1 t (by omega)) (by omega) (by omega) (by omega) ?_
      change WP G mX3_crewsSuffice _ _ _ _ h N 13 [some (.ref a), some (.ref (cB G + 20 + 2 * t)), some (JV d), some (JV (c : Int)), x4] [JV (S 12 t c)]
      refine wp_istore dX3_crewsSuffice_13 (Nat.le_of_ble_eq_true rfl) rfl ?_
      change WP G mX3_crewsSuffice _ _ _ _ h N 15 [some (.ref a), some (.ref (cB G + 20 + 2 * t)), some (JV d), some (JV (c : Int)), some (JV (S 12 t c))] []
      refine wp_iload dX3_crewsSuffice_15 rfl ?_
      refine wp_if_le 49 dX3_crewsSuffice_17 (by decide) ⟨by omega, by omega⟩ (fun c_17 => ?_) (fun c_17 => ?_)
      · rw [suf, if_neg (by omega)] at kk
        refine wp_iinc dX3_crewsSuffice_49 rfl (Nat.le_of_ble_eq_true rfl) rfl ?_
        change WP G mX3_crewsSuffice _ _ _ _ h N 52 [some (.ref a), some (.ref (cB G + 20 + 2 * t)), some (JV d), some (JV ((c : Int) + 1)), some (JV (S 12 t c))] []
        refine wp_goto 2 dX3_crewsSuffice_52 (by decide) ?_
        exact ih (c + 1) _ (by omega) (by omega) kk
      · refine wp_iload dX3_crewsSuffice_20 rfl ?_
        refine wp_aload_n dX3_crewsSuffice_22 rfl ?_
        refine wp_get fkX3_33 dX3_crewsSuffice_23 V.1 rfl ?_
        refine wp_get fkX3_138 dX3_crewsSuffice_26 H.1 rfl ?_
        refine wp_iload_n dX3_crewsSuffice_29 rfl ?_
        refine wp_aaload dX3_crewsSuffice_30 H.2.2.1 rfl rfl (by omega) (by omega) (by omega) (if_pos (by omega)) ?_
        change WP G mX3_crewsSuffice _ _ _ _ h N 31 [some (.ref a), some (.ref (cB G + 20 + 2 * t)), some (JV d), some (JV (c : Int)), some (JV (S 12 t c))] [.ref (cB G + 16 + c), JV (S 12 t c)]
        refine wp_get fkX3_142 dX3_crewsSuffice_31 (H.2.2.2.2.2.2.2.2.2.1 c (by omega)) rfl ?_
        refine wp_aload_n dX3_crewsSuffice_34 rfl ?_
        refine wp_get fkX3_21 dX3_crewsSuffice_35 V.1 rfl ?_
        refine wp_iload_n dX3_crewsSuffice_38 rfl ?_
        refine wp_iload_n dX3_crewsSuffice_39 rfl ?_
        refine wp_v2p (c_on (N := N) (c := c) (d := d) V.2.2.1 (by omega) hd) cvX3_154 dX3_crewsSuffice_40 ⟨Nat.le_of_ble_eq_true rfl, Nat.le_of_ble_eq_true rfl⟩ (Nat.le_of_ble_eq_true rfl) V.2.2.1.1 rfl rfl ?_
        refine wp_isub dX3_crewsSuffice_43 ?_
        refine wp_icmp_le 49 dX3_crewsSuffice_44 (by decide) ⟨by omega, by omega⟩ ⟨by omega, by omega⟩ (fun c_44 => ?_) (fun c_44 => ?_)
        · rw [suf, if_neg (by omega)] at kk
          refine wp_iinc dX3_crewsSuffice_49 rfl (Nat.le_of_ble_eq_true rfl) rfl ?_
          change WP G mX3_crewsSuffice _ _ _ _ h N 52 [some (.ref a), some (.ref (cB G + 20 + 2 * t)), some (JV d), some (JV ((c : Int) + 1)), some (JV (S 12 t c))] []
          refine wp_goto 2 dX3_crewsSuffice_52 (by decide) ?_
          exact ih (c + 1) _ (by omega) (by omega) kk
        · refine wp_iconst dX3_crewsSuffice_47 ?_
          refine wp_zret dX3_crewsSuffice_48 rfl (by omega) ?_
          rw [suf, if_pos (by omega)] at kk
          exact kk

theorem c_crewsSuffice {t : Nat} {d : Int} (V : LV G h a b e g u inn od ct ld) (H : HP G S h) (w : WF S) (hg : ∀ c, c < 4 → ∀ d, -1000000 ≤ g c d ∧ g c d ≤ 1000000) (ht : t < 24) (hd : -100000 ≤ d ∧ d ≤ 100000) : CT G mX3_crewsSuffice [.ref a, .ref (cB G + 20 + 2 * t), JV d] h N 0 0 (PV (JV (bI (suf S g t d 4 0))) h N) := by
  refine CT_of (by decide +kernel) rfl (by simp [Value.category]) (Nat.le_of_ble_eq_true rfl) ?_
  change WP G mX3_crewsSuffice _ noX _ _ h N 0 [some (.ref a), some (.ref (cB G + 20 + 2 * t)), some (JV d), none, none] []
  refine wp_iconst dX3_crewsSuffice_0 ?_
  refine wp_istore_n dX3_crewsSuffice_1 (Nat.le_of_ble_eq_true rfl) rfl ?_
  change WP G mX3_crewsSuffice _ _ _ _ h N 2 [some (.ref a), some (.ref (cB G + 20 + 2 * t)), some (JV d), some (JV 0), none] []
  exact l_crewsSuffice V H w hg ht hd _ 0 _ rfl (by omega) ⟨rfl, rfl, rfl⟩

theorem c_keyOf {t q : Nat} {rl ld2 : Int} {eb ee lb le rm : Nat → Int} (V : LV G h a b e g u inn od ct ld) (H : HP G S h) (w : WF S) (W : NW G h q eb ee lb le rm ld2) (ht : t < 24) (hr : 0 ≤ rl ∧ rl ≤ 3) : CT G mX3_keyOf [.ref a, JV (t : Int), .ref q, JV rl] h N 0 0 (PV (JV (keyF S lb rm rl t)) h N) := by
  refine CT_of (by decide +kernel) rfl (by simp [Value.category]) (Nat.le_of_ble_eq_true rfl) ?_
  change WP G mX3_keyOf _ noX _ _ h N 0 [some (.ref a), some (JV (t : Int)), some (.ref q), some (JV rl)] []
  refine wp_iload_n dX3_keyOf_0 rfl ?_
  refine wp_if_ne 14 dX3_keyOf_1 (by decide) ⟨by omega, by omega⟩ (fun c_1 => ?_) (fun c_1 => ?_)
  · refine wp_iload_n dX3_keyOf_14 rfl ?_
    refine wp_iconst dX3_keyOf_15 ?_
    refine wp_icmp_ne 26 dX3_keyOf_16 (by decide) ⟨by omega, by omega⟩ ⟨by omega, by omega⟩ (fun c_16 => ?_) (fun c_16 => ?_)
    · refine wp_iload_n dX3_keyOf_26 rfl ?_
      refine wp_iconst dX3_keyOf_27 ?_
      refine wp_icmp_ne 47 dX3_keyOf_28 (by decide) ⟨by omega, by omega⟩ ⟨by omega, by omega⟩ (fun c_28 => ?_) (fun c_28 => ?_)
      · refine wp_aload_n dX3_keyOf_47 rfl ?_
        refine wp_get fkX3_33 dX3_keyOf_48 V.1 rfl ?_
        refine wp_get fkX3_46 dX3_keyOf_51 H.1 rfl ?_
        refine wp_iload_n dX3_keyOf_54 rfl ?_
        refine wp_aaload dX3_keyOf_55 H.2.2.2.1 rfl rfl (by omega) (by omega) (by omega) (if_pos (by omega)) ?_
        change WP G mX3_keyOf _ _ _ _ h N 56 [some (.ref a), some (JV (t : Int)), some (.ref q), some (JV rl)] [.ref (cB G + 20 + 2 * t)]
        refine wp_get fkX3_82 dX3_keyOf_56 (H.2.2.2.2.2.2.2.2.2.2.1 t (by omega)) rfl ?_
        refine wp_ineg dX3_keyOf_59 ?_
        refine wp_iret dX3_keyOf_60 rfl ?_
        refine ⟨?_, rfl, rfl⟩
        rw [keyF, if_neg (by omega), if_neg (by omega), if_neg (by omega)]
      · refine wp_aload_n dX3_keyOf_31 rfl ?_
        refine wp_get fkX3_33 dX3_keyOf_32 V.1 rfl ?_
        refine wp_get fkX3_46 dX3_keyOf_35 H.1 rfl ?_
        refine wp_iload_n dX3_keyOf_38 rfl ?_
        refine wp_aaload dX3_keyOf_39 H.2.2.2.1 rfl rfl (by omega) (by omega) (by omega) (if_pos (by omega)) ?_
        change WP G mX3_keyOf _ _ _ _ h N 40 [some (.ref a), some (JV (t : Int)), some (.ref q), some (JV rl)] [.ref (cB G + 20 + 2 * t)]
        refine wp_get fkX3_132 dX3_keyOf_40 (H.2.2.2.2.2.2.2.2.2.2.1 t (by omega)) rfl ?_
        refine wp_ineg dX3_keyOf_43 ?_
        refine wp_goto 60 dX3_keyOf_44 (by decide) ?_
        refine wp_iret dX3_keyOf_60 rfl ?_
        refine ⟨?_, rfl, rfl⟩
        rw [keyF, if_neg (by omega), if_neg (by omega), if_pos (by omega)]
    · refine wp_aload_n dX3_keyOf_19 rfl ?_
      refine wp_get fkX3_129 dX3_keyOf_20 W.1 rfl ?_
      refine wp_iload_n dX3_keyOf_23 rfl ?_
      refine wp_iaload dX3_keyOf_24 W.2.2.2 (by omega) (by omega) (by omega) ?_
      change WP G mX3_keyOf _ _ _ _ h N 25 [some (.ref a), some (JV (t : Int)), some (.ref q), some (JV rl)] [JV (rm t)]
      refine wp_iret dX3_keyOf_25 rfl ?_
      refine ⟨?_, rfl, rfl⟩
      rw [keyF, if_neg (by omega), if_pos (by omega)]
  · refine wp_aload_n dX3_keyOf_4 rfl ?_
    refine wp_get fkX3_121 dX3_keyOf_5 W.1 rfl ?_
    refine wp_get fkX3_126 dX3_keyOf_8 W.2.2.1.1 rfl ?_
    refine wp_iload_n dX3_keyOf_11 rfl ?_
    refine wp_iaload dX3_keyOf_12 W.2.2.1.2.1 (by omega) (by omega) (by omega) ?_
    change WP G mX3_keyOf _ _ _ _ h N 13 [some (.ref a), some (JV (t : Int)), some (.ref q), some (JV rl)] [JV (lb t)]
    refine wp_iret dX3_keyOf_13 rfl ?_
    refine ⟨?_, rfl, rfl⟩
    rw [keyF, if_pos (by omega)]

theorem l_choose {Q : PQ} {X : PX} {k9 n9 : Nat} {q : Nat} {rl ld2 : Int} {eb ee lb le rm : Nat → Int} (V : LV G h a b e g u inn od ct ld) (H : HP G S h) (w : WF S) (W : NW G h q eb ee lb le rm ld2) (hi01 : ∀ x, inn x = 0 ∨ inn x = 1) (pl : PB lb le) (rb : RB rm) (hr : 0 ≤ rl ∧ rl ≤ 3) : ∀ (m : Nat) (i : Nat) (y z : Int) (x6 : Option Value), ((S 13 0 0).toNat - i = m) → (i ≤ 24) → (-1 ≤ y ∧ y ≤ 24) → (-1000000 ≤ z ∧ z ≤ 1000000) → (Q (some (JV (chs S lb rm rl inn m i y z))) h N) → WP G mX3_choose Q X k9 n9 h N 8 [some (.ref a), some (.ref q), some (JV rl), some (JV y), some (JV z), some (JV (i : Int)), x6] [] := by
  intro m
  induction m with
  | zero =>
    intro i y z x6 hm hi hy hz kk
    have wT := w.nT
    refine wp_iload dX3_choose_8 rfl ?_
    refine wp_aload_n dX3_choose_10 rfl ?_
    refine wp_get fkX3_33 dX3_choose_11 V.1 rfl ?_
    refine wp_get fkX3_40 dX3_choose_14 H.1 rfl ?_
    refine wp_icmp_ge 92 dX3_choose_17 (by decide) ⟨by omega, by omega⟩ ⟨by omega, by omega⟩ (fun c_17 => ?_) (fun c_17 => ?_)
    · refine wp_iload_n dX3_choose_92 rfl ?_
      refine wp_iret dX3_choose_93 rfl ?_
      exact kk
    · exact absurd c_17 (by omega)
  | succ m ih =>
    intro i y z x6 hm hi hy hz kk
    have wT := w.nT
    refine wp_iload dX3_choose_8 rfl ?_
    refine wp_aload_n dX3_choose_10 rfl ?_
    refine wp_get fkX3_33 dX3_choose_11 V.1 rfl ?_
    refine wp_get fkX3_40 dX3_choose_14 H.1 rfl ?_
    refine wp_icmp_ge 92 dX3_choose_17 (by decide) ⟨by omega, by omega⟩ ⟨by omega, by omega⟩ (fun c_17 => ?_) (fun c_17 => ?_)
    · exact absurd c_17 (by omega)
    · have wti := w.task (t := i) (by omega)
      have wpl := pl i (by omega)
      have wrb := rb i
      have hii := hi01 i
      have hkf : -1000000 ≤ keyF S lb rm rl i ∧ keyF S lb rm rl i ≤ 1000000 := by
        unfold keyF
        split
        · omega
        · split
          · omega
          · split <;> omega
      refine wp_aload_n dX3_choose_20 rfl ?_
      refine wp_get fkX3_25 dX3_choose_21 V.1 rfl ?_
      refine wp_iload dX3_choose_24 rfl ?_
      refine wp_zaload dX3_choose_26 V.2.2.2.1 (by omega) (by omega) (by omega) ?_
      change WP G mX3_choose _ _ _ _ h N 27 [some (.ref a), some (.ref q), some (JV rl), some (JV y), some (JV z), some (JV (i : Int)), x6] [JV (inn i)]
      refine wp_if_ne 86 dX3_choose_27 (by decide) ⟨by omega, by omega⟩ (fun c_27 => ?_) (fun c_27 => ?_)
      · rw [chs, if_neg (fun v => c_27 v.1)] at kk
        refine wp_iinc dX3_choose_86 rfl (Nat.le_of_ble_eq_true rfl) rfl ?_
        change WP G mX3_choose _ _ _ _ h N 89 [some (.ref a), some (.ref q), some (JV rl), some (JV y), some (JV z), some (JV ((i : Int) + 1)), x6] []
        refine wp_goto 8 dX3_choose_89 (by decide) ?_
        exact ih (i + 1) y z _ (by omega) (by omega) (by omega) (by omega) kk
      · refine wp_aload_n dX3_choose_30 rfl ?_
        refine wp_iload dX3_choose_31 rfl ?_
        refine wp_v1p (c_isTooLarge (N := N) V H w (by omega)) cvX3_109 dX3_choose_33 ⟨Nat.le_of_ble_eq_true rfl, Nat.le_of_ble_eq_true rfl⟩ (Nat.le_of_ble_eq_true rfl) V.1 rfl rfl ?_
        refine wp_if_ne 86 dX3_choose_36 (by decide) (bI_r _) (fun c_36 => ?_) (fun c_36 => ?_)
        · rw [chs, if_neg (fun v => by rw [v.2.1] at c_36; exact c_36 rfl)] at kk
          refine wp_iinc dX3_choose_86 rfl (Nat.le_of_ble_eq_true rfl) rfl ?_
          change WP G mX3_choose _ _ _ _ h N 89 [some (.ref a), some (.ref q), some (JV rl), some (JV y), some (JV z), some (JV ((i : Int) + 1)), x6] []
          refine wp_goto 8 dX3_choose_89 (by decide) ?_
          exact ih (i + 1) y z _ (by omega) (by omega) (by omega) (by omega) kk
        · refine wp_aload_n dX3_choose_39 rfl ?_
          refine wp_get fkX3_33 dX3_choose_40 V.1 rfl ?_
          refine wp_iload dX3_choose_43 rfl ?_
          refine wp_aload_n dX3_choose_45 rfl ?_
          refine wp_get fkX3_25 dX3_choose_46 V.1 rfl ?_
          refine wp_v2p (c_isOpen (N := N) H w (by omega) V.2.2.2.1 hi01) cvX3_113 dX3_choose_49 ⟨Nat.le_of_ble_eq_true rfl, Nat.le_of_ble_eq_true rfl⟩ (Nat.le_of_ble_eq_true rfl) H.1 rfl rfl ?_
          refine wp_if_ne 58 dX3_choose_52 (by decide) (bI_r _) (fun c_52 => ?_) (fun c_52 => ?_)
          · have o9 : opn S inn (i : Int) (S 14 0 0).toNat 0 = true := bI_ne c_52
            refine wp_aload_n dX3_choose_58 rfl ?_
            refine wp_iload dX3_choose_59 rfl ?_
            refine wp_aload_n dX3_choose_61 rfl ?_
            refine wp_iload_n dX3_choose_62 rfl ?_
            refine wp_v3p (c_keyOf (N := N) V H w W (by omega) hr) cvX3_117 dX3_choose_63 ⟨Nat.le_of_ble_eq_true rfl, Nat.le_of_ble_eq_true rfl⟩ (Nat.le_of_ble_eq_true rfl) V.1 rfl rfl ?_
            refine wp_istore dX3_choose_66 (Nat.le_of_ble_eq_true rfl) rfl ?_
            change WP G mX3_choose _ _ _ _ h N 68 [some (.ref a), some (.ref q), some (JV rl), some (JV y), some (JV z), some (JV (i : Int)), some (JV (keyF S lb rm rl i))] []
            refine wp_iload_n dX3_choose_68 rfl ?_
            refine wp_if_lt 79 dX3_choose_69 (by decide) ⟨by omega, by omega⟩ (fun c_69 => ?_) (fun c_69 => ?_)
            · rw [chs, if_pos (⟨by omega, bI_eq (by omega), bI_ne c_52, Or.inl c_69⟩)] at kk
              refine wp_iload dX3_choose_79 rfl ?_
              refine wp_istore_n dX3_choose_81 (Nat.le_of_ble_eq_true rfl) rfl ?_
              change WP G mX3_choose _ _ _ _ h N 82 [some (.ref a), some (.ref q), some (JV rl), some (JV (i : Int)), some (JV z), some (JV (i : Int)), some (JV (keyF S lb rm rl i))] []
              refine wp_iload dX3_choose_82 rfl ?_
              refine wp_istore dX3_choose_84 (Nat.le_of_ble_eq_true rfl) rfl ?_
              change WP G mX3_choose _ _ _ _ h N 86 [some (.ref a), some (.ref q), some (JV rl), some (JV (i : Int)), some (JV (keyF S lb rm rl i)), some (JV (i : Int)), some (JV (keyF S lb rm rl i))] []
              refine wp_iinc dX3_choose_86 rfl (Nat.le_of_ble_eq_true rfl) rfl ?_
              change WP G mX3_choose _ _ _ _ h N 89 [some (.ref a), some (.ref q), some (JV rl), some (JV (i : Int)), some (JV (keyF S lb rm rl i)), some (JV ((i : Int) + 1)), some (JV (keyF S lb rm rl i))] []
              refine wp_goto 8 dX3_choose_89 (by decide) ?_
              exact ih (i + 1) (i : Int) (keyF S lb rm rl i) _ (by omega) (by omega) (by omega) (by omega) kk
            · refine wp_iload dX3_choose_72 rfl ?_
              refine wp_iload dX3_choose_74 rfl ?_
              refine wp_icmp_ge 86 dX3_choose_76 (by decide) ⟨by omega, by omega⟩ ⟨by omega, by omega⟩ (fun c_76 => ?_) (fun c_76 => ?_)
              · rw [chs, if_neg (fun v => by rcases v.2.2.2 with v | v <;> omega)] at kk
                refine wp_iinc dX3_choose_86 rfl (Nat.le_of_ble_eq_true rfl) rfl ?_
                change WP G mX3_choose _ _ _ _ h N 89 [some (.ref a), some (.ref q), some (JV rl), some (JV y), some (JV z), some (JV ((i : Int) + 1)), some (JV (keyF S lb rm rl i))] []
                refine wp_goto 8 dX3_choose_89 (by decide) ?_
                exact ih (i + 1) y z _ (by omega) (by omega) (by omega) (by omega) kk
              · rw [chs, if_pos (⟨by omega, bI_eq (by omega), bI_ne c_52, Or.inr (by omega)⟩)] at kk
                refine wp_iload dX3_choose_79 rfl ?_
                refine wp_istore_n dX3_choose_81 (Nat.le_of_ble_eq_true rfl) rfl ?_
                change WP G mX3_choose _ _ _ _ h N 82 [some (.ref a), some (.ref q), some (JV rl), some (JV (i : Int)), some (JV z), some (JV (i : Int)), some (JV (keyF S lb rm rl i))] []
                refine wp_iload dX3_choose_82 rfl ?_
                refine wp_istore dX3_choose_84 (Nat.le_of_ble_eq_true rfl) rfl ?_
                change WP G mX3_choose _ _ _ _ h N 86 [some (.ref a), some (.ref q), some (JV rl), some (JV (i : Int)), some (JV (keyF S lb rm rl i)), some (JV (i : Int)), some (JV (keyF S lb rm rl i))] []
                refine wp_iinc dX3_choose_86 rfl (Nat.le_of_ble_eq_true rfl) rfl ?_
                change WP G mX3_choose _ _ _ _ h N 89 [some (.ref a), some (.ref q), some (JV rl), some (JV (i : Int)), some (JV (keyF S lb rm rl i)), some (JV ((i : Int) + 1)), some (JV (keyF S lb rm rl i))] []
                refine wp_goto 8 dX3_choose_89 (by decide) ?_
                exact ih (i + 1) (i : Int) (keyF S lb rm rl i) _ (by omega) (by omega) (by omega) (by omega) kk
          · rw [chs, if_neg (fun v => by rw [v.2.2.1] at c_52; exact absurd c_52 (by decide))] at kk
            refine wp_goto 86 dX3_choose_55 (by decide) ?_
            refine wp_iinc dX3_choose_86 rfl (Nat.le_of_ble_eq_true rfl) rfl ?_
            change WP G mX3_choose _ _ _ _ h N 89 [some (.ref a), some (.ref q), some (JV rl), some (JV y), some (JV z), some (JV ((i : Int) + 1)), x6] []
            refine wp_goto 8 dX3_choose_89 (by decide) ?_
            exact ih (i + 1) y z _ (by omega) (by omega) (by omega) (by omega) kk

theorem c_choose {q : Nat} {rl ld2 : Int} {eb ee lb le rm : Nat → Int} (V : LV G h a b e g u inn od ct ld) (H : HP G S h) (w : WF S) (W : NW G h q eb ee lb le rm ld2) (hi01 : ∀ x, inn x = 0 ∨ inn x = 1) (pl : PB lb le) (rb : RB rm) (hr : 0 ≤ rl ∧ rl ≤ 3) : CT G mX3_choose [.ref a, .ref q, JV rl] h N 0 0 (PV (JV (chs S lb rm rl inn (S 13 0 0).toNat 0 (-1) 0)) h N) := by
  refine CT_of (by decide +kernel) rfl (by simp [Value.category]) (Nat.le_of_ble_eq_true rfl) ?_
  change WP G mX3_choose _ noX _ _ h N 0 [some (.ref a), some (.ref q), some (JV rl), none, none, none, none] []
  refine wp_iconst dX3_choose_0 ?_
  refine wp_istore_n dX3_choose_1 (Nat.le_of_ble_eq_true rfl) rfl ?_
  change WP G mX3_choose _ _ _ _ h N 2 [some (.ref a), some (.ref q), some (JV rl), some (JV (-1)), none, none, none] []
  refine wp_iconst dX3_choose_2 ?_
  refine wp_istore dX3_choose_3 (Nat.le_of_ble_eq_true rfl) rfl ?_
  change WP G mX3_choose _ _ _ _ h N 5 [some (.ref a), some (.ref q), some (JV rl), some (JV (-1)), some (JV 0), none, none] []
  refine wp_iconst dX3_choose_5 ?_
  refine wp_istore dX3_choose_6 (Nat.le_of_ble_eq_true rfl) rfl ?_
  change WP G mX3_choose _ _ _ _ h N 8 [some (.ref a), some (.ref q), some (JV rl), some (JV (-1)), some (JV 0), some (JV 0), none] []
  have wT := w.nT
  exact l_choose V H w W hi01 pl rb hr _ 0 (-1) 0 none rfl (by omega) (by omega) (by omega) ⟨rfl, rfl, rfl⟩

theorem c_wkS {c d : Nat} (H : HP G S h) (w : WF S) (hc : c < 4) (hd : d < 100000) : CT G mX0_worksOn [.ref (cB G + 8 + 2 * c), JV (d : Int)] h N 0 0 (PV (JV (bI (wkS S c d))) h N) := by
  have q9 := c_worksOn (N := N) (d := (d : Int)) (H.cal w hc) (by omega) (by omega)
  rw [Int.toNat_natCast] at q9
  exact q9
theorem l_firstWithCrews {Q : PQ} {X : PX} {k9 n9 : Nat} {t : Nat} {d0 : Int} (V : LV G h a b e g u inn od ct ld) (H : HP G S h) (w : WF S) (hg : ∀ c, c < 4 → ∀ d, -1000000 ≤ g c d ∧ g c d ≤ 1000000) (ht : t < 24) : ∀ (m : Nat) (d : Nat) (f y : Int), (5000 - d = m) → (d ≤ 50000) → (0 ≤ f ∧ f ≤ 100) → (Q (some (JV (fwc S g t m d f y))) h N) → WP G mX3_firstWithCrews Q X k9 n9 h N 29 [some (.ref a), some (JV (t : Int)), some (JV d0), some (.ref (cB G + 20 + 2 * t)), some (.ref (cB G + 8 + 2 * (S 6 t 0).toNat)), some (JV y), some (JV f), some (JV (d : Int))] [] := by
  intro m
  induction m with
  | zero =>
    intro d f y hm hd hf kk
    refine wp_iload dX3_firstWithCrews_29 rfl ?_
    refine wp_sipush dX3_firstWithCrews_31 rfl ?_
    refine wp_icmp_ge 93 dX3_firstWithCrews_34 (by decide) ⟨by omega, by omega⟩ ⟨by omega, by omega⟩ (fun c_34 => ?_) (fun c_34 => ?_)
    · refine wp_iload dX3_firstWithCrews_93 rfl ?_
      refine wp_iret dX3_firstWithCrews_95 rfl ?_
      exact kk
    · exact absurd c_34 (by omega)
  | succ m ih =>
    intro d f y hm hd hf kk
    have wt := w.task ht
    refine wp_iload dX3_firstWithCrews_29 rfl ?_
    refine wp_sipush dX3_firstWithCrews_31 rfl ?_
    refine wp_icmp_ge 93 dX3_firstWithCrews_34 (by decide) ⟨by omega, by omega⟩ ⟨by omega, by omega⟩ (fun c_34 => ?_) (fun c_34 => ?_)
    · exact absurd c_34 (by omega)
    · refine wp_iload dX3_firstWithCrews_37 rfl ?_
      refine wp_aload_n dX3_firstWithCrews_39 rfl ?_
      refine wp_get fkX3_82 dX3_firstWithCrews_40 (H.2.2.2.2.2.2.2.2.2.2.1 t (by omega)) rfl ?_
      refine wp_icmp_ge 93 dX3_firstWithCrews_43 (by decide) ⟨by omega, by omega⟩ ⟨by omega, by omega⟩ (fun c_43 => ?_) (fun c_43 => ?_)
      · rw [fwc, if_neg (by omega)] at kk
        refine wp_iload dX3_firstWithCrews_93 rfl ?_
        refine wp_iret dX3_firstWithCrews_95 rfl ?_
        exact kk
      · refine wp_aload dX3_firstWithCrews_46 rfl ?_
        refine wp_iload dX3_firstWithCrews_48 rfl ?_
        refine wp_v1p (c_wkS (N := N) (c := (S 6 t 0).toNat) (d := d) H w (by omega) (by omega)) cvX3_147 dX3_firstWithCrews_50 ⟨Nat.le_of_ble_eq_true rfl, Nat.le_of_ble_eq_true rfl⟩ (Nat.le_of_ble_eq_true rfl) (H.2.2.2.2.2.2.2.1 (S 6 t 0).toNat (by omega)) rfl rfl ?_
        refine wp_if_ne 59 dX3_firstWithCrews_53 (by decide) (bI_r _) (fun c_53 => ?_) (fun c_53 => ?_)
        · refine wp_aload_n dX3_firstWithCrews_59 rfl ?_
          refine wp_aload_n dX3_firstWithCrews_60 rfl ?_
          refine wp_iload dX3_firstWithCrews_61 rfl ?_
          refine wp_v2p (c_crewsSuffice (N := N) V H w hg ht (by omega)) cvX3_150 dX3_firstWithCrews_63 ⟨Nat.le_of_ble_eq_true rfl, Nat.le_of_ble_eq_true rfl⟩ (Nat.le_of_ble_eq_true rfl) V.1 rfl rfl ?_
          refine wp_if_ne 75 dX3_firstWithCrews_66 (by decide) (bI_r _) (fun c_66 => ?_) (fun c_66 => ?_)
          · refine wp_iload dX3_firstWithCrews_75 rfl ?_
            refine wp_if_ne 84 dX3_firstWithCrews_77 (by decide) ⟨by omega, by omega⟩ (fun c_77 => ?_) (fun c_77 => ?_)
            · rw [fwc, if_pos (by omega), if_pos (bI_ne c_53), if_pos (bI_ne c_66), if_neg c_77] at kk
              refine wp_iinc dX3_firstWithCrews_84 rfl (Nat.le_of_ble_eq_true rfl) rfl ?_
              change WP G mX3_firstWithCrews _ _ _ _ h N 87 [some (.ref a), some (JV (t : Int)), some (JV d0), some (.ref (cB G + 20 + 2 * t)), some (.ref (cB G + 8 + 2 * (S 6 t 0).toNat)), some (JV y), some (JV (f + 1)), some (JV (d : Int))] []
              refine wp_iinc dX3_firstWithCrews_87 rfl (Nat.le_of_ble_eq_true rfl) rfl ?_
              change WP G mX3_firstWithCrews _ _ _ _ h N 90 [some (.ref a), some (JV (t : Int)), some (JV d0), some (.ref (cB G + 20 + 2 * t)), some (.ref (cB G + 8 + 2 * (S 6 t 0).toNat)), some (JV y), some (JV (f + 1)), some (JV ((d : Int) + 1))] []
              refine wp_goto 29 dX3_firstWithCrews_90 (by decide) ?_
              exact ih (d + 1) (f + 1) y (by omega) (by omega) (by omega) kk
            · rw [fwc, if_pos (by omega), if_pos (bI_ne c_53), if_pos (bI_ne c_66), if_pos c_77] at kk
              refine wp_iload dX3_firstWithCrews_80 rfl ?_
              refine wp_istore dX3_firstWithCrews_82 (Nat.le_of_ble_eq_true rfl) rfl ?_
              change WP G mX3_firstWithCrews _ _ _ _ h N 84 [some (.ref a), some (JV (t : Int)), some (JV d0), some (.ref (cB G + 20 + 2 * t)), some (.ref (cB G + 8 + 2 * (S 6 t 0).toNat)), some (JV (d : Int)), some (JV f), some (JV (d : Int))] []
              refine wp_iinc dX3_firstWithCrews_84 rfl (Nat.le_of_ble_eq_true rfl) rfl ?_
              change WP G mX3_firstWithCrews _ _ _ _ h N 87 [some (.ref a), some (JV (t : Int)), some (JV d0), some (.ref (cB G + 20 + 2 * t)), some (.ref (cB G + 8 + 2 * (S 6 t 0).toNat)), some (JV (d : Int)), some (JV (f + 1)), some (JV (d : Int))] []
              refine wp_iinc dX3_firstWithCrews_87 rfl (Nat.le_of_ble_eq_true rfl) rfl ?_
              change WP G mX3_firstWithCrews _ _ _ _ h N 90 [some (.ref a), some (JV (t : Int)), some (JV d0), some (.ref (cB G + 20 + 2 * t)), some (.ref (cB G + 8 + 2 * (S 6 t 0).toNat)), some (JV (d : Int)), some (JV (f + 1)), some (JV ((d : Int) + 1))] []
              refine wp_goto 29 dX3_firstWithCrews_90 (by decide) ?_
              exact ih (d + 1) (f + 1) (d : Int) (by omega) (by omega) (by omega) kk
          · rw [fwc, if_pos (by omega), if_pos (bI_ne c_53), if_neg (fun v => by rw [v] at c_66; exact absurd c_66 (by decide))] at kk
            refine wp_iconst dX3_firstWithCrews_69 ?_
            refine wp_istore dX3_firstWithCrews_70 (Nat.le_of_ble_eq_true rfl) rfl ?_
            change WP G mX3_firstWithCrews _ _ _ _ h N 72 [some (.ref a), some (JV (t : Int)), some (JV d0), some (.ref (cB G + 20 + 2 * t)), some (.ref (cB G + 8 + 2 * (S 6 t 0).toNat)), some (JV y), some (JV 0), some (JV (d : Int))] []
            refine wp_goto 87 dX3_firstWithCrews_72 (by decide) ?_
            refine wp_iinc dX3_firstWithCrews_87 rfl (Nat.le_of_ble_eq_true rfl) rfl ?_
            change WP G mX3_firstWithCrews _ _ _ _ h N 90 [some (.ref a), some (JV (t : Int)), some (JV d0), some (.ref (cB G + 20 + 2 * t)), some (.ref (cB G + 8 + 2 * (S 6 t 0).toNat)), some (JV y), some (JV 0), some (JV ((d : Int) + 1))] []
            refine wp_goto 29 dX3_firstWithCrews_90 (by decide) ?_
            exact ih (d + 1) 0 y (by omega) (by omega) (by omega) kk
        · rw [fwc, if_pos (by omega), if_neg (fun v => by rw [v] at c_53; exact absurd c_53 (by decide))] at kk
          refine wp_goto 87 dX3_firstWithCrews_56 (by decide) ?_
          refine wp_iinc dX3_firstWithCrews_87 rfl (Nat.le_of_ble_eq_true rfl) rfl ?_
          change WP G mX3_firstWithCrews _ _ _ _ h N 90 [some (.ref a), some (JV (t : Int)), some (JV d0), some (.ref (cB G + 20 + 2 * t)), some (.ref (cB G + 8 + 2 * (S 6 t 0).toNat)), some (JV y), some (JV f), some (JV ((d : Int) + 1))] []
          refine wp_goto 29 dX3_firstWithCrews_90 (by decide) ?_
          exact ih (d + 1) f y (by omega) (by omega) (by omega) kk

theorem c_firstWithCrews {t d : Nat} (V : LV G h a b e g u inn od ct ld) (H : HP G S h) (w : WF S) (hg : ∀ c, c < 4 → ∀ d, -1000000 ≤ g c d ∧ g c d ≤ 1000000) (ht : t < 24) (hd : d ≤ 50000) : CT G mX3_firstWithCrews [.ref a, JV (t : Int), JV (d : Int)] h N 0 0 (PV (JV (fwc S g t (5000 - d) d 0 (d : Int))) h N) := by
  refine CT_of (by decide +kernel) rfl (by simp [Value.category]) (Nat.le_of_ble_eq_true rfl) ?_
  change WP G mX3_firstWithCrews _ noX _ _ h N 0 [some (.ref a), some (JV (t : Int)), some (JV (d : Int)), none, none, none, none, none] []
  have wt := w.task ht
  refine wp_aload_n dX3_firstWithCrews_0 rfl ?_
  refine wp_get fkX3_33 dX3_firstWithCrews_1 V.1 rfl ?_
  refine wp_get fkX3_46 dX3_firstWithCrews_4 H.1 rfl ?_
  refine wp_iload_n dX3_firstWithCrews_7 rfl ?_
  refine wp_aaload dX3_firstWithCrews_8 H.2.2.2.1 rfl rfl (by omega) (by omega) (by omega) (if_pos (by omega)) ?_
  change WP G mX3_firstWithCrews _ _ _ _ h N 9 [some (.ref a), some (JV (t : Int)), some (JV (d : Int)), none, none, none, none, none] [.ref (cB G + 20 + 2 * t)]
  refine wp_astore_n dX3_firstWithCrews_9 (Nat.le_of_ble_eq_true rfl) rfl ?_
  change WP G mX3_firstWithCrews _ _ _ _ h N 10 [some (.ref a), some (JV (t : Int)), some (JV (d : Int)), some (.ref (cB G + 20 + 2 * t)), none, none, none, none] []
  refine wp_aload_n dX3_firstWithCrews_10 rfl ?_
  refine wp_get fkX3_33 dX3_firstWithCrews_11 V.1 rfl ?_
  refine wp_iload_n dX3_firstWithCrews_14 rfl ?_
  refine wp_v1p (c_calendarOf (N := N) H w ht) cvX3_78 dX3_firstWithCrews_15 ⟨Nat.le_of_ble_eq_true rfl, Nat.le_of_ble_eq_true rfl⟩ (Nat.le_of_ble_eq_true rfl) H.1 rfl rfl ?_
  refine wp_astore dX3_firstWithCrews_18 (Nat.le_of_ble_eq_true rfl) rfl ?_
  change WP G mX3_firstWithCrews _ _ _ _ h N 20 [some (.ref a), some (JV (t : Int)), some (JV (d : Int)), some (.ref (cB G + 20 + 2 * t)), some (.ref (cB G + 8 + 2 * (S 6 t 0).toNat)), none, none, none] []
  refine wp_iload_n dX3_firstWithCrews_20 rfl ?_
  refine wp_istore dX3_firstWithCrews_21 (Nat.le_of_ble_eq_true rfl) rfl ?_
  change WP G mX3_firstWithCrews _ _ _ _ h N 23 [some (.ref a), some (JV (t : Int)), some (JV (d : Int)), some (.ref (cB G + 20 + 2 * t)), some (.ref (cB G + 8 + 2 * (S 6 t 0).toNat)), some (JV (d : Int)), none, none] []
  refine wp_iconst dX3_firstWithCrews_23 ?_
  refine wp_istore dX3_firstWithCrews_24 (Nat.le_of_ble_eq_true rfl) rfl ?_
  change WP G mX3_firstWithCrews _ _ _ _ h N 26 [some (.ref a), some (JV (t : Int)), some (JV (d : Int)), some (.ref (cB G + 20 + 2 * t)), some (.ref (cB G + 8 + 2 * (S 6 t 0).toNat)), some (JV (d : Int)), some (JV 0), none] []
  refine wp_iload_n dX3_firstWithCrews_26 rfl ?_
  refine wp_istore dX3_firstWithCrews_27 (Nat.le_of_ble_eq_true rfl) rfl ?_
  change WP G mX3_firstWithCrews _ _ _ _ h N 29 [some (.ref a), some (JV (t : Int)), some (JV (d : Int)), some (.ref (cB G + 20 + 2 * t)), some (.ref (cB G + 8 + 2 * (S 6 t 0).toNat)), some (JV (d : Int)), some (JV 0), some (JV (d : Int))] []
  exact l_firstWithCrews V H w hg ht _ d 0 _ rfl (by omega) (by omega) ⟨rfl, rfl, rfl⟩

end Lev

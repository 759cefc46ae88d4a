/-! ===== the reference: LEVELLED ===== -/
theorem wp_iorB {G : Ctx} {μ : MI} {Q : PQ} {X : PX} {k n : Nat} {h : AH} {N pc : Nat} {L : List (Option Value)} {st : List Value} {a b : Bool} (d : decode (mC μ) pc = .ok (.ior, 1)) (kk : WP G μ Q X k n h N (pc + 1) L (JV (bI (a || b)) :: st)) : WP G μ Q X k n h N pc L (JV (bI b) :: JV (bI a) :: st) := by
  cases a <;> cases b
  · exact wp_ior (x := 0) (y := 0) d kk
  · exact wp_ior (x := 0) (y := 1) d kk
  · exact wp_ior (x := 1) (y := 0) d kk
  · exact wp_ior (x := 1) (y := 1) d kk
section Mv
variable {G : Ctx} {h : AH} {N : Nat} {S M : ST} {L : Nat → Nat} {z : Int64}
/-- a row replaced -/
def sr (M : ST) (f i : Nat) (g : Nat → Int) : ST := fun f' i' j' => if f' = f ∧ i' = i then g j' else M f' i' j'
theorem sr_f {f i f' : Nat} {g : Nat → Int} (h : f' ≠ f) : sr M f i g f' = M f' := by
  funext a b
  exact if_neg fun q => h q.1
theorem sr_i {f i i' : Nat} {g : Nat → Int} (h : i' ≠ i) : sr M f i g f i' = M f i' := by
  funext b
  exact if_neg fun q => h q.2
theorem sr_s {f i : Nat} {g : Nat → Int} : sr M f i g f i = g := by
  funext b
  exact if_pos ⟨rfl, rfl⟩
theorem MP.row {h1 : AH} {q : Nat × Nat × Nat × Nat} (hq : q ∈ mA2) {i : Nat} {g : Nat → Int} (hi : i < q.2.2.1) (H : MP G N M L z h) (e : h1 = hup h (cB G + (q.2.1 + 1) + i) (eI G q.2.2.2 g)) : MP G N (sr M q.1 i g) L z h1 := by
  obtain ⟨p1, p2, p3, p4, p5, p6⟩ := H
  have nn : ∀ a, a ≠ cB G + (q.2.1 + 1) + i → h1 a = h a := fun a ha => hup_at e ha
  have hr := mA2_r q hq
  refine ⟨?_, fun q' hq' => ?_, fun q' hq' => ⟨?_, fun x hx => ?_⟩, ?_, fun x hx => ⟨?_, (p5 x hx).2⟩, p6⟩
  · rw [nn _ (by omega), p1, cMod_c (fun f hf => sr_f (hr.2.2 f hf))]
  · have d := mA12_d q' hq' q hq
    rw [nn _ (by omega), p2 q' hq', sr_f (fun z => d.2 z.symm)]
  · by_cases hqq : q' = q
    · subst hqq
      rw [nn _ (by omega), (p3 q' hq').1]
    · have d := mA2_d q hq q' hq' hqq
      rw [nn _ (by omega), (p3 q' hq').1]
  · by_cases hqq : q' = q
    · subst hqq
      by_cases hxi : x = i
      · subst hxi
        rw [e, hup_self, sr_s]
      · rw [nn _ (by omega), (p3 q' hq').2 x hx, sr_i hxi]
    · have d := mA2_d q hq q' hq' hqq
      rw [nn _ (by omega), (p3 q' hq').2 x hx, sr_f d.2]
  · rw [nn _ (by omega), p4]
  · have r := (p5 x hx).2
    rw [nn _ (by omega), (p5 x hx).1, sr_f (fun z => hr.2.1 z.symm)]
theorem RS.row (r : RS S M) {f i : Nat} {g : Nat → Int} (hf : ∀ x ∈ mBS, x ≠ f) : RS S (sr M f i g) := r.of fun x hx => sr_f (hf x hx)
theorem l_fill2 {Q : PQ} {X : PX} {k9 n9 : Nat} {h0 : AH} {a n : Nat} {f : Nat → Int} {v : Int} (hn : n ≤ 20000) : ∀ (m : Nat) (x : Nat) (h : AH), (n - x = m) → (x ≤ n) → (h = hup h0 a (eI G n (filF f 0 x v))) → (Q none (hup h0 a (eI G n (filF f 0 n v))) N) → WP G mJ7_fill_53178 Q X k9 n9 h N 5 [some (.ref a), some (JV v), some (JV (x : Int)), some (JV (n : Int))] [] := by
  intro m
  induction m with
  | zero =>
    intro x h hm hx he kk
    have hxt : x = n := by omega
    subst hxt
    rw [← he] at kk
    have hc : h a = some (eI G x (filF f 0 x v)) := by rw [he]; exact hup_self _ _ _
    refine wp_iload_n dJ7_fill_53178_5 rfl ?_
    refine wp_iload_n dJ7_fill_53178_6 rfl ?_
    refine wp_icmp_ge 20 dJ7_fill_53178_7 (by decide) ⟨by omega, by omega⟩ ⟨by omega, by omega⟩ (fun c_7 => ?_) (fun c_7 => ?_)
    · refine wp_vret dJ7_fill_53178_20 rfl ?_
      exact kk
    · exact absurd c_7 (by omega)
  | succ m ih =>
    intro x h hm hx he kk
    have hc : h a = some (eI G n (filF f 0 x v)) := by rw [he]; exact hup_self _ _ _
    refine wp_iload_n dJ7_fill_53178_5 rfl ?_
    refine wp_iload_n dJ7_fill_53178_6 rfl ?_
    refine wp_icmp_ge 20 dJ7_fill_53178_7 (by decide) ⟨by omega, by omega⟩ ⟨by omega, by omega⟩ (fun c_7 => ?_) (fun c_7 => ?_)
    · exact absurd c_7 (by omega)
    · refine wp_aload_n dJ7_fill_53178_10 rfl ?_
      refine wp_iload_n dJ7_fill_53178_11 rfl ?_
      refine wp_iload_n dJ7_fill_53178_12 rfl ?_
      refine wp_iastore dJ7_fill_53178_13 hc (by omega) (by omega) (by omega) ?_
      obtain ⟨h_1, eh_1⟩ : ∃ hh9 : AH, hh9 = hup h a (eI G n (fup (filF f 0 x v) x v)) := ⟨_, rfl⟩
      refine WP.heq eh_1 ?_
      have c1_0 : h_1 a = some (eI G n (fup (filF f 0 x v) x v)) := by rw [eh_1]; exact hup_self _ _ _
      refine wp_iinc dJ7_fill_53178_14 rfl (Nat.le_of_ble_eq_true rfl) rfl ?_
      change WP G mJ7_fill_53178 _ _ _ _ h_1 N 17 [some (.ref a), some (JV v), some (JV ((x : Int) + 1)), some (JV (n : Int))] []
      refine wp_goto 5 dJ7_fill_53178_17 (by decide) ?_
      refine ih (x + 1) h_1 (by omega) (by omega) ?_ kk
      rw [eh_1, he, hup_hup, filF_s (Nat.zero_le _)]

theorem c_fill2 {a n : Nat} {f : Nat → Int} {v : Int} (hc : h a = some (eI G n f)) (hn : n ≤ 20000) : CT G mJ7_fill_53178 [.ref a, JV v] h N 0 0 (fun r h' N' => r = none ∧ h' = hup h a (eI G n (filF f 0 n v)) ∧ N' = N) := by
  refine CT_of (by decide +kernel) rfl (by simp [Value.category]) (Nat.le_of_ble_eq_true rfl) ?_
  change WP G mJ7_fill_53178 _ noX _ _ h N 0 [some (.ref a), some (JV v), none, none] []
  refine wp_iconst dJ7_fill_53178_0 ?_
  refine wp_istore_n dJ7_fill_53178_1 (Nat.le_of_ble_eq_true rfl) rfl ?_
  change WP G mJ7_fill_53178 _ _ _ _ h N 2 [some (.ref a), some (JV v), some (JV 0), none] []
  refine wp_aload_n dJ7_fill_53178_2 rfl ?_
  refine wp_alenI dJ7_fill_53178_3 hc ?_
  refine wp_istore_n dJ7_fill_53178_4 (Nat.le_of_ble_eq_true rfl) rfl ?_
  change WP G mJ7_fill_53178 _ _ _ _ h N 5 [some (.ref a), some (JV v), some (JV 0), some (JV n)] []
  exact l_fill2 hn _ 0 h rfl (Nat.zero_le _) (by rw [filF_0]; exact hup_same hc) ⟨rfl, rfl, rfl⟩

theorem lm_isTooMuch {Q : PQ} {X : PX} {k9 n9 : Nat} (P : MP G N M L z h) (r : RS S M) (w : WF S) {t : Nat} (ht : t < 24) : ∀ (m : Nat) (c : Nat) (acc : Bool), (4 - c = m) → (c ≤ 4) → (Q (some (JV (bI (acc || (if S 5 t 0 = 0 then false else big S t m c))))) h N) → WP G mX11_isTooMuch Q X k9 n9 h N 4 [some (.ref (cB G + 169)), some (JV (t : Int)), some (JV (bI acc)), some (JV (c : Int))] [] := by
  intro m
  induction m with
  | zero =>
    intro c acc hm hc kk
    refine wp_iload_n dX11_isTooMuch_4 rfl ?_
    refine wp_iconst dX11_isTooMuch_5 ?_
    refine wp_icmp_ge 49 dX11_isTooMuch_6 (by decide) ⟨by omega, by omega⟩ ⟨by omega, by omega⟩ (fun c_6 => ?_) (fun c_6 => ?_)
    · refine wp_iload_n dX11_isTooMuch_49 rfl ?_
      refine wp_zret dX11_isTooMuch_50 rfl (bI_01 _) ?_
      rw [show (acc || (if S 5 t 0 = 0 then false else big S t 0 c)) = acc by unfold big; simp] at kk
      exact kk
    · exact absurd c_6 (by omega)
  | succ m ih =>
    intro c acc hm hc kk
    have wt := w.task ht
    have wn := w.need t c
    refine wp_iload_n dX11_isTooMuch_4 rfl ?_
    refine wp_iconst dX11_isTooMuch_5 ?_
    refine wp_icmp_ge 49 dX11_isTooMuch_6 (by decide) ⟨by omega, by omega⟩ ⟨by omega, by omega⟩ (fun c_6 => ?_) (fun c_6 => ?_)
    · exact absurd c_6 (by omega)
    · have wc := w.crew (c := c) (by omega)
      refine wp_iload_n dX11_isTooMuch_9 rfl ?_
      refine wp_aload_n dX11_isTooMuch_10 rfl ?_
      refine wp_get fkX11_27 dX11_isTooMuch_11 (P.s0 r) rfl ?_
      refine wp_iload_n dX11_isTooMuch_14 rfl ?_
      refine wp_iaload dX11_isTooMuch_15 (P.s7 r) (by omega) (by omega) (by omega) ?_
      change WP G mX11_isTooMuch _ _ _ _ h N 16 [some (.ref (cB G + 169)), some (JV (t : Int)), some (JV (bI acc)), some (JV (c : Int))] [JV (S 5 t 0), JV (bI acc)]
      refine wp_if_le 40 dX11_isTooMuch_16 (by decide) ⟨by omega, by omega⟩ (fun c_16 => ?_) (fun c_16 => ?_)
      · refine wp_iconst dX11_isTooMuch_40 ?_
        refine wp_iorB (a := acc) (b := false) dX11_isTooMuch_41 ?_
        refine wp_istore_n dX11_isTooMuch_42 (Nat.le_of_ble_eq_true rfl) rfl ?_
        change WP G mX11_isTooMuch _ _ _ _ h N 43 [some (.ref (cB G + 169)), some (JV (t : Int)), some (JV (bI (acc || false))), some (JV (c : Int))] []
        rw [show (acc || (if S 5 t 0 = 0 then false else big S t (m + 1) c)) = ((acc || false) || (if S 5 t 0 = 0 then false else big S t m (c + 1))) by rw [if_pos (by omega), if_pos (by omega)]; cases acc <;> rfl] at kk
        refine wp_iinc dX11_isTooMuch_43 rfl (Nat.le_of_ble_eq_true rfl) rfl ?_
        change WP G mX11_isTooMuch _ _ _ _ h N 46 [some (.ref (cB G + 169)), some (JV (t : Int)), some (JV (bI (acc || false))), some (JV ((c : Int) + 1))] []
        refine wp_goto 4 dX11_isTooMuch_46 (by decide) ?_
        exact ih (c + 1) (acc || false) (by omega) (by omega) kk
      · refine wp_aload_n dX11_isTooMuch_19 rfl ?_
        refine wp_get fkX11_39 dX11_isTooMuch_20 (P.s0 r) rfl ?_
        refine wp_iload_n dX11_isTooMuch_23 rfl ?_
        refine wp_aaload dX11_isTooMuch_24 P.q11 rfl rfl (by omega) (by omega) (by omega) (if_pos (by omega)) ?_
        change WP G mX11_isTooMuch _ _ _ _ h N 25 [some (.ref (cB G + 169)), some (JV (t : Int)), some (JV (bI acc)), some (JV (c : Int))] [.ref (cB G + 184 + t), JV (bI acc)]
        refine wp_iload_n dX11_isTooMuch_25 rfl ?_
        refine wp_iaload dX11_isTooMuch_26 (P.s11 r (i := t) (by omega)) (by omega) (by omega) (by omega) ?_
        change WP G mX11_isTooMuch _ _ _ _ h N 27 [some (.ref (cB G + 169)), some (JV (t : Int)), some (JV (bI acc)), some (JV (c : Int))] [JV (S 12 t c), JV (bI acc)]
        refine wp_aload_n dX11_isTooMuch_27 rfl ?_
        refine wp_get fkX11_21 dX11_isTooMuch_28 (P.s0 r) rfl ?_
        refine wp_iload_n dX11_isTooMuch_31 rfl ?_
        refine wp_iaload dX11_isTooMuch_32 (P.s4 r) (by omega) (by omega) (by omega) ?_
        change WP G mX11_isTooMuch _ _ _ _ h N 33 [some (.ref (cB G + 169)), some (JV (t : Int)), some (JV (bI acc)), some (JV (c : Int))] [JV (S 3 c 0), JV (S 12 t c), JV (bI acc)]
        refine wp_icmp_le 40 dX11_isTooMuch_33 (by decide) ⟨by omega, by omega⟩ ⟨by omega, by omega⟩ (fun c_33 => ?_) (fun c_33 => ?_)
        · refine wp_iconst dX11_isTooMuch_40 ?_
          refine wp_iorB (a := acc) (b := false) dX11_isTooMuch_41 ?_
          refine wp_istore_n dX11_isTooMuch_42 (Nat.le_of_ble_eq_true rfl) rfl ?_
          change WP G mX11_isTooMuch _ _ _ _ h N 43 [some (.ref (cB G + 169)), some (JV (t : Int)), some (JV (bI (acc || false))), some (JV (c : Int))] []
          rw [show (acc || (if S 5 t 0 = 0 then false else big S t (m + 1) c)) = ((acc || false) || (if S 5 t 0 = 0 then false else big S t m (c + 1))) by rw [if_neg (by omega), if_neg (by omega), big, if_neg (by omega)]; cases acc <;> rfl] at kk
          refine wp_iinc dX11_isTooMuch_43 rfl (Nat.le_of_ble_eq_true rfl) rfl ?_
          change WP G mX11_isTooMuch _ _ _ _ h N 46 [some (.ref (cB G + 169)), some (JV (t : Int)), some (JV (bI (acc || false))), some (JV ((c : Int) + 1))] []
          refine wp_goto 4 dX11_isTooMuch_46 (by decide) ?_
          exact ih (c + 1) (acc || false) (by omega) (by omega) kk
        · refine wp_iconst dX11_isTooMuch_36 ?_
          refine wp_goto 41 dX11_isTooMuch_37 (by decide) ?_
          refine wp_iorB (a := acc) (b := true) dX11_isTooMuch_41 ?_
          refine wp_istore_n dX11_isTooMuch_42 (Nat.le_of_ble_eq_true rfl) rfl ?_
          change WP G mX11_isTooMuch _ _ _ _ h N 43 [some (.ref (cB G + 169)), some (JV (t : Int)), some (JV (bI (acc || true))), some (JV (c : Int))] []
          rw [show (acc || (if S 5 t 0 = 0 then false else big S t (m + 1) c)) = ((acc || true) || (if S 5 t 0 = 0 then false else big S t m (c + 1))) by rw [if_neg (by omega), if_neg (by omega), big, if_pos (by omega)]; cases acc <;> simp] at kk
          refine wp_iinc dX11_isTooMuch_43 rfl (Nat.le_of_ble_eq_true rfl) rfl ?_
          change WP G mX11_isTooMuch _ _ _ _ h N 46 [some (.ref (cB G + 169)), some (JV (t : Int)), some (JV (bI (acc || true))), some (JV ((c : Int) + 1))] []
          refine wp_goto 4 dX11_isTooMuch_46 (by decide) ?_
          exact ih (c + 1) (acc || true) (by omega) (by omega) kk

theorem m_isTooMuch (P : MP G N M L z h) (r : RS S M) (w : WF S) {t : Nat} (ht : t < 24) : CT G mX11_isTooMuch [.ref (cB G + 169), JV (t : Int)] h N 0 0 (PV (JV (bI (tooL S t))) h N) := by
  refine CT_of (by decide +kernel) rfl (by simp [Value.category]) (Nat.le_of_ble_eq_true rfl) ?_
  change WP G mX11_isTooMuch _ noX _ _ h N 0 [some (.ref (cB G + 169)), some (JV (t : Int)), none, none] []
  refine wp_iconst dX11_isTooMuch_0 ?_
  refine wp_istore_n dX11_isTooMuch_1 (Nat.le_of_ble_eq_true rfl) rfl ?_
  change WP G mX11_isTooMuch _ _ _ _ h N 2 [some (.ref (cB G + 169)), some (JV (t : Int)), some (JV 0), none] []
  refine wp_iconst dX11_isTooMuch_2 ?_
  refine wp_istore_n dX11_isTooMuch_3 (Nat.le_of_ble_eq_true rfl) rfl ?_
  change WP G mX11_isTooMuch _ _ _ _ h N 4 [some (.ref (cB G + 169)), some (JV (t : Int)), some (JV 0), some (JV 0)] []
  exact lm_isTooMuch P r w ht _ 0 false rfl (Nat.zero_le _) ⟨rfl, rfl, rfl⟩

theorem l_use1 {Q : PQ} {X : PX} {k9 n9 : Nat} {h0 : AH} {M0 : ST} {t x y : Nat} (w : WF S) (ht : t < 24) (hy : y ≤ 5000) (hx : x ≤ 5000) {d : Nat} (hd : d < 5000) : ∀ (m : Nat) (c : Nat) (M : ST) (h : AH), (4 - c = m) → (c ≤ 4) → (MP G N M L z h) → (RS S M) → (∀ f, f ≠ 27 → M f = M0 f) → (∀ c9, c9 < 4 → ∀ d9, M 27 c9 d9 = M0 27 c9 d9 + (if c9 < c ∧ d9 = d ∧ wkS S (S 6 t 0).toNat d = true then S 12 t c9 else 0)) → (FRM G h0 h) → (∀ (M' : ST) (h' : AH) (x5 : Option Value), MP G N M' L z h' → RS S M' → (∀ f, f ≠ 27 → M' f = M0 f) → (∀ c9, c9 < 4 → ∀ d9, M' 27 c9 d9 = M0 27 c9 d9 + (if d9 = d ∧ wkS S (S 6 t 0).toNat d = true then S 12 t c9 else 0)) → FRM G h0 h' → WP G mX11_use Q X k9 n9 h' N 61 [some (.ref (cB G + 169)), some (JV (t : Int)), some (JV (x : Int)), some (JV (y : Int)), some (JV (d : Int)), x5] []) → WP G mX11_use Q X k9 n9 h N 12 [some (.ref (cB G + 169)), some (JV (t : Int)), some (JV (x : Int)), some (JV (y : Int)), some (JV (d : Int)), some (JV (c : Int))] [] := by
  intro m
  induction m with
  | zero =>
    intro c M h hm hc P r hM hu fr kk
    refine wp_iload dX11_use_12 rfl ?_
    refine wp_iconst dX11_use_14 ?_
    refine wp_icmp_ge 61 dX11_use_15 (by decide) ⟨by omega, by omega⟩ ⟨by omega, by omega⟩ (fun c_15 => ?_) (fun c_15 => ?_)
    · refine kk M h _ P r hM (fun c9 h9 d9 => ?_) fr
      rw [hu c9 h9 d9]
      have e9 : (c9 < c ∧ d9 = d ∧ wkS S (S 6 t 0).toNat d = true) ↔ (d9 = d ∧ wkS S (S 6 t 0).toNat d = true) := ⟨fun q => q.2, fun q => ⟨by omega, q⟩⟩
      simp only [e9]
    · exact absurd c_15 (by omega)
  | succ m ih =>
    intro c M h hm hc P r hM hu fr kk
    have wt := w.task ht
    refine wp_iload dX11_use_12 rfl ?_
    refine wp_iconst dX11_use_14 ?_
    refine wp_icmp_ge 61 dX11_use_15 (by decide) ⟨by omega, by omega⟩ ⟨by omega, by omega⟩ (fun c_15 => ?_) (fun c_15 => ?_)
    · exact absurd c_15 (by omega)
    · refine wp_aload_n dX11_use_18 rfl ?_
      refine wp_aload_n dX11_use_19 rfl ?_
      refine wp_get fkX11_30 dX11_use_20 (P.s0 r) rfl ?_
      refine wp_iload_n dX11_use_23 rfl ?_
      refine wp_iaload dX11_use_24 (P.s8 r) (by omega) (by omega) (by omega) ?_
      change WP G mX11_use _ _ _ _ h N 25 [some (.ref (cB G + 169)), some (JV (t : Int)), some (JV (x : Int)), some (JV (y : Int)), some (JV (d : Int)), some (JV (c : Int))] [JV (S 6 t 0), .ref (cB G + 169)]
      refine wp_iload dX11_use_25 rfl ?_
      have won_27 := m_worksOn (N := N) (G := G) P r w (c := (S 6 t 0).toNat) (d := d) (by omega) (by omega)
      rw [show (((S 6 t 0).toNat : Nat) : Int) = S 6 t 0 by omega] at won_27
      refine wp_v2p won_27 cvX11_106 dX11_use_27 ⟨Nat.le_of_ble_eq_true rfl, Nat.le_of_ble_eq_true rfl⟩ (Nat.le_of_ble_eq_true rfl) (P.s0 r) rfl rfl ?_
      refine wp_if_eq 61 dX11_use_30 (by decide) (bI_r _) (fun c_30 => ?_) (fun c_30 => ?_)
      · refine kk M h _ P r hM (fun c9 h9 d9 => ?_) fr
        rw [hu c9 h9 d9, if_neg (fun q => by rw [q.2.2] at c_30; exact absurd c_30 (by decide)), if_neg (fun q => by rw [q.2] at c_30; exact absurd c_30 (by decide))]
      · refine wp_aload_n dX11_use_33 rfl ?_
        refine wp_get fkX11_70 dX11_use_34 (P.s0 r) rfl ?_
        refine wp_iload dX11_use_37 rfl ?_
        refine wp_aaload dX11_use_39 P.q27 rfl rfl (by omega) (by omega) (by omega) (if_pos (by omega)) ?_
        change WP G mX11_use _ _ _ _ h N 40 [some (.ref (cB G + 169)), some (JV (t : Int)), some (JV (x : Int)), some (JV (y : Int)), some (JV (d : Int)), some (JV (c : Int))] [.ref (cB G + 266 + c)]
        refine wp_iload dX11_use_40 rfl ?_
        refine wp_dup2 dX11_use_42 rfl rfl ?_
        refine wp_iaload dX11_use_43 (P.r27 (i := c) (by omega)) (by omega) (by omega) (by omega) ?_
        change WP G mX11_use _ _ _ _ h N 44 [some (.ref (cB G + 169)), some (JV (t : Int)), some (JV (x : Int)), some (JV (y : Int)), some (JV (d : Int)), some (JV (c : Int))] [JV (M 27 c d), JV (d : Int), .ref (cB G + 266 + c)]
        refine wp_aload_n dX11_use_44 rfl ?_
        refine wp_get fkX11_39 dX11_use_45 (P.s0 r) rfl ?_
        refine wp_iload_n dX11_use_48 rfl ?_
        refine wp_aaload dX11_use_49 P.q11 rfl rfl (by omega) (by omega) (by omega) (if_pos (by omega)) ?_
        change WP G mX11_use _ _ _ _ h N 50 [some (.ref (cB G + 169)), some (JV (t : Int)), some (JV (x : Int)), some (JV (y : Int)), some (JV (d : Int)), some (JV (c : Int))] [.ref (cB G + 184 + t), JV (M 27 c d), JV (d : Int), .ref (cB G + 266 + c)]
        refine wp_iload dX11_use_50 rfl ?_
        refine wp_iaload dX11_use_52 (P.s11 r (i := t) (by omega)) (by omega) (by omega) (by omega) ?_
        change WP G mX11_use _ _ _ _ h N 53 [some (.ref (cB G + 169)), some (JV (t : Int)), some (JV (x : Int)), some (JV (y : Int)), some (JV (d : Int)), some (JV (c : Int))] [JV (S 12 t c), JV (M 27 c d), JV (d : Int), .ref (cB G + 266 + c)]
        refine wp_iadd dX11_use_53 ?_
        refine wp_iastore dX11_use_54 (P.r27 (i := c) (by omega)) (by omega) (by omega) (by omega) ?_
        obtain ⟨h_1, eh_1⟩ : ∃ hh9 : AH, hh9 = hup h (cB G + 266 + c) (eI G 16000 (fup (fun j9 => M 27 c j9) d ((M 27 c d) + (S 12 t c)))) := ⟨_, rfl⟩
        refine WP.heq eh_1 ?_
        obtain ⟨M_1, eM_1⟩ : ∃ ss9 : ST, ss9 = su M 27 c d ((M 27 c d) + (S 12 t c)) := ⟨_, rfl⟩
        have P_1 : MP G (N) M_1 L z h_1 := by rw [eM_1]; exact P.u2 (q := (27, 265, 4, 16000)) (i := c) (j := d) (v := (M 27 c d) + (S 12 t c)) (by decide) (show c < 4 by omega) eh_1
        have r_1 : RS S M_1 := by rw [eM_1]; exact r.der (by decide)
        refine wp_iinc dX11_use_55 rfl (Nat.le_of_ble_eq_true rfl) rfl ?_
        change WP G mX11_use _ _ _ _ h_1 N 58 [some (.ref (cB G + 169)), some (JV (t : Int)), some (JV (x : Int)), some (JV (y : Int)), some (JV (d : Int)), some (JV ((c : Int) + 1))] []
        refine wp_goto 12 dX11_use_58 (by decide) ?_
        refine ih (c + 1) M_1 h_1 (by omega) (by omega) P_1 r_1 (fun f hf => by rw [eM_1, su_f hf]; exact hM f hf) (fun c9 h9 d9 => ?_) (fr.up eh_1 (by omega)) kk
        have hw := bI_ne c_30
        by_cases hcd : c9 = c ∧ d9 = d
        · rw [hcd.1, hcd.2, eM_1, su_s, hu c (by omega) d, if_neg (fun q => absurd q.1 (by omega)), if_pos ⟨by omega, rfl, hw⟩]
          omega
        · have e1 : M_1 27 c9 d9 = M 27 c9 d9 := by
            rw [eM_1]
            exact if_neg (fun q => hcd ⟨q.2.1, q.2.2⟩)
          rw [e1, hu c9 h9 d9]
          have e9 : (c9 < c ∧ d9 = d ∧ wkS S (S 6 t 0).toNat d = true) ↔ (c9 < c + 1 ∧ d9 = d ∧ wkS S (S 6 t 0).toNat d = true) := ⟨fun q => ⟨by omega, q.2⟩, fun q => ⟨by omega, q.2⟩⟩
          simp only [e9]

theorem l_use2 {Q : PQ} {X : PX} {k9 n9 : Nat} {h0 : AH} {M0 : ST} {t x y : Nat} (w : WF S) (ht : t < 24) (hy : y ≤ 5000) (hx : x ≤ 5000) : ∀ (m : Nat) (d : Nat) (M : ST) (h : AH) (x5 : Option Value), (y - d = m) → (x ≤ d) → (d ≤ 5000) → (MP G N M L z h) → (RS S M) → (∀ f, f ≠ 27 → M f = M0 f) → (∀ c9, c9 < 4 → ∀ d9, M 27 c9 d9 = M0 27 c9 d9 + (if x ≤ d9 ∧ d9 < d ∧ d9 < y ∧ wkS S (S 6 t 0).toNat d9 = true then S 12 t c9 else 0)) → (FRM G h0 h) → (∀ (M' : ST) (h' : AH), MP G N M' L z h' → RS S M' → (∀ f, f ≠ 27 → M' f = M0 f) → (∀ c9, c9 < 4 → ∀ d9, M' 27 c9 d9 = M0 27 c9 d9 + (if x ≤ d9 ∧ d9 < y ∧ wkS S (S 6 t 0).toNat d9 = true then S 12 t c9 else 0)) → FRM G h0 h' → Q none h' N) → WP G mX11_use Q X k9 n9 h N 3 [some (.ref (cB G + 169)), some (JV (t : Int)), some (JV (x : Int)), some (JV (y : Int)), some (JV (d : Int)), x5] [] := by
  intro m
  induction m with
  | zero =>
    intro d M h x5 hm hd hd6 P r hM hu fr kk
    have hd5 : d ≤ 100000 ∨ True := Or.inr trivial
    refine wp_iload dX11_use_3 rfl ?_
    refine wp_iload_n dX11_use_5 rfl ?_
    refine wp_icmp_ge 67 dX11_use_6 (by decide) ⟨by omega, by omega⟩ ⟨by omega, by omega⟩ (fun c_6 => ?_) (fun c_6 => ?_)
    · refine wp_vret dX11_use_67 rfl ?_
      refine kk M h P r hM (fun c9 h9 d9 => ?_) fr
      rw [hu c9 h9 d9]
      have e9 : (x ≤ d9 ∧ d9 < d ∧ d9 < y ∧ wkS S (S 6 t 0).toNat d9 = true) ↔ (x ≤ d9 ∧ d9 < y ∧ wkS S (S 6 t 0).toNat d9 = true) := ⟨fun q => ⟨q.1, q.2.2⟩, fun q => ⟨q.1, by omega, q.2⟩⟩
      simp only [e9]
    · exact absurd c_6 (by omega)
  | succ m ih =>
    intro d M h x5 hm hd hd6 P r hM hu fr kk
    refine wp_iload dX11_use_3 rfl ?_
    refine wp_iload_n dX11_use_5 rfl ?_
    refine wp_icmp_ge 67 dX11_use_6 (by decide) ⟨by omega, by omega⟩ ⟨by omega, by omega⟩ (fun c_6 => ?_) (fun c_6 => ?_)
    · exact absurd c_6 (by omega)
    · refine wp_iconst dX11_use_9 ?_
      refine wp_istore dX11_use_10 (Nat.le_of_ble_eq_true rfl) rfl ?_
      change WP G mX11_use _ _ _ _ h N 12 [some (.ref (cB G + 169)), some (JV (t : Int)), some (JV (x : Int)), some (JV (y : Int)), some (JV (d : Int)), some (JV 0)] []
      refine l_use1 (h0 := h) (M0 := M) w ht hy hx (by omega) _ 0 M h rfl (Nat.zero_le _) P r (fun _ _ => rfl) (fun c9 h9 d9 => by rw [if_neg (fun q => absurd q.1 (by omega))]; omega) FRM.rf (fun M1 h1 x5 P1 r1 m1 u1 f1 => ?_)
      refine wp_iinc dX11_use_61 rfl (Nat.le_of_ble_eq_true rfl) rfl ?_
      change WP G mX11_use _ _ _ _ h1 N 64 [some (.ref (cB G + 169)), some (JV (t : Int)), some (JV (x : Int)), some (JV (y : Int)), some (JV ((d : Int) + 1)), x5] []
      refine wp_goto 3 dX11_use_64 (by decide) ?_
      refine ih (d + 1) M1 h1 x5 (by omega) (by omega) (by omega) P1 r1 (fun f hf => by rw [m1 f hf]; exact hM f hf) (fun c9 h9 d9 => ?_) (fr.tr f1) kk
      rw [u1 c9 h9 d9, hu c9 h9 d9]
      by_cases hdd : d9 = d
      · subst hdd
        by_cases hw : wkS S (S 6 t 0).toNat d9 = true
        · rw [if_neg (fun q => absurd q.2.1 (by omega)), if_pos ⟨rfl, hw⟩, if_pos ⟨by omega, by omega, by omega, hw⟩]; omega
        · rw [if_neg (fun q => absurd q.2.1 (by omega)), if_neg (fun q => hw q.2), if_neg (fun q => hw q.2.2.2)]; omega
      · rw [if_neg (fun q : d9 = d ∧ wkS S (S 6 t 0).toNat d = true => hdd q.1)]
        have e9 : (x ≤ d9 ∧ d9 < d ∧ d9 < y ∧ wkS S (S 6 t 0).toNat d9 = true) ↔ (x ≤ d9 ∧ d9 < d + 1 ∧ d9 < y ∧ wkS S (S 6 t 0).toNat d9 = true) := ⟨fun q => ⟨q.1, by omega, q.2.2⟩, fun q => ⟨q.1, by omega, q.2.2⟩⟩
        simp only [e9]
        omega

theorem m_use (P : MP G N M L z h) (r : RS S M) (w : WF S) {t x y : Nat} (ht : t < 24) (hy : y ≤ 5000) (hx : x ≤ 5000) : CT G mX11_use [.ref (cB G + 169), JV (t : Int), JV (x : Int), JV (y : Int)] h N 0 0 (fun r h' N' => r = none ∧ N' = N ∧ ∃ M', MP G N M' L z h' ∧ RS S M' ∧ (∀ f, f ≠ 27 → M' f = M f) ∧ (∀ c9, c9 < 4 → ∀ d9, M' 27 c9 d9 = M 27 c9 d9 + (if x ≤ d9 ∧ d9 < y ∧ wkS S (S 6 t 0).toNat d9 = true then S 12 t c9 else 0)) ∧ FRM G h h') := by
  refine CT_of (by decide +kernel) rfl (by simp [Value.category]) (Nat.le_of_ble_eq_true rfl) ?_
  change WP G mX11_use _ noX _ _ h N 0 [some (.ref (cB G + 169)), some (JV (t : Int)), some (JV (x : Int)), some (JV (y : Int)), none, none] []
  refine wp_iload_n dX11_use_0 rfl ?_
  refine wp_istore dX11_use_1 (Nat.le_of_ble_eq_true rfl) rfl ?_
  change WP G mX11_use _ _ _ _ h N 3 [some (.ref (cB G + 169)), some (JV (t : Int)), some (JV (x : Int)), some (JV (y : Int)), some (JV (x : Int)), none] []
  refine l_use2 (h0 := h) (M0 := M) w ht hy hx _ x M h _ rfl (Nat.le_refl _) hx P r (fun _ _ => rfl) (fun c9 h9 d9 => by rw [if_neg (fun q => absurd q.2.1 (by omega))]; omega) FRM.rf (fun M1 h1 P1 r1 m1 u1 f1 => ⟨rfl, rfl, M1, P1, r1, m1, u1, f1⟩)

def hcr (S : ST) (g : Nat → Nat → Int) (t : Nat) : Nat → Nat → Bool
  | 0, _ => true
  | m + 1, d => if wkS S (S 6 t 0).toNat d = true then (if suf S g t (d : Int) 4 0 = true then hcr S g t m (d + 1) else false) else hcr S g t m (d + 1)
theorem hcr_iff {g : Nat → Nat → Int} {t : Nat} : ∀ m d, hcr S g t m d = true ↔ ∀ x, d ≤ x → x < d + m → wkS S (S 6 t 0).toNat x = true → suf S g t (x : Int) 4 0 = true
  | 0, d => ⟨fun _ x h1 h2 => by omega, fun _ => rfl⟩
  | m + 1, d => by
    have ih := hcr_iff (g := g) (t := t) m (d + 1)
    have up : (wkS S (S 6 t 0).toNat d = true → suf S g t (d : Int) 4 0 = true) → (hcr S g t m (d + 1) = true ↔ ∀ x, d ≤ x → x < d + (m + 1) → wkS S (S 6 t 0).toNat x = true → suf S g t (x : Int) 4 0 = true) := fun hd => by
      rw [ih]
      constructor
      · intro q x h1 h2 h3
        by_cases hx : x = d
        · subst hx; exact hd h3
        · exact q x (by omega) (by omega) h3
      · intro q x h1 h2 h3
        exact q x (by omega) (by omega) h3
    rw [hcr]
    by_cases hw : wkS S (S 6 t 0).toNat d = true
    · rw [if_pos hw]
      by_cases hs : suf S g t (d : Int) 4 0 = true
      · rw [if_pos hs]
        exact up fun _ => hs
      · rw [if_neg hs]
        exact ⟨fun q => (by cases q), fun q => absurd (q d (Nat.le_refl _) (by omega) hw) hs⟩
    · rw [if_neg hw]
      exact up fun q => absurd q hw
theorem l_hasCrews1 {Q : PQ} {X : PX} {k9 n9 : Nat} (P : MP G N M L z h) (r : RS S M) (w : WF S) {t b : Nat} (ht : t < 24) (hus : ∀ c, c < 4 → ∀ d, d < 5000 → 0 ≤ M 27 c d ∧ M 27 c d ≤ 100000) {en : Int} {d : Nat} (hd : d < 5000) : ∀ (m : Nat) (c : Nat), (4 - c = m) → (c ≤ 4) → ((suf S (M 27) t (d : Int) m c = true → ∀ x5, WP G mX11_hasCrews Q X k9 n9 h N 93 [some (.ref (cB G + 169)), some (JV (t : Int)), some (JV (b : Int)), some (JV en), some (JV (d : Int)), x5] []) ∧ (suf S (M 27) t (d : Int) m c = false → Q (some (JV 0)) h N)) → WP G mX11_hasCrews Q X k9 n9 h N 37 [some (.ref (cB G + 169)), some (JV (t : Int)), some (JV (b : Int)), some (JV en), some (JV (d : Int)), some (JV (c : Int))] [] := by
  intro m
  induction m with
  | zero =>
    intro c hm hc kk
    refine wp_iload dX11_hasCrews_37 rfl ?_
    refine wp_iconst dX11_hasCrews_39 ?_
    refine wp_icmp_ge 93 dX11_hasCrews_40 (by decide) ⟨by omega, by omega⟩ ⟨by omega, by omega⟩ (fun c_40 => ?_) (fun c_40 => ?_)
    · exact kk.1 rfl _
    · exact absurd c_40 (by omega)
  | succ m ih =>
    intro c hm hc kk
    have wn := w.need t c
    refine wp_iload dX11_hasCrews_37 rfl ?_
    refine wp_iconst dX11_hasCrews_39 ?_
    refine wp_icmp_ge 93 dX11_hasCrews_40 (by decide) ⟨by omega, by omega⟩ ⟨by omega, by omega⟩ (fun c_40 => ?_) (fun c_40 => ?_)
    · exact absurd c_40 (by omega)
    · have on : onF (M 27) c (d : Int) = M 27 c d := by unfold onF; rw [if_pos (by omega), Int.toNat_natCast]
      have wc := w.crew (c := c) (by omega)
      have uc := hus c (by omega) d hd
      refine wp_aload_n dX11_hasCrews_43 rfl ?_
      refine wp_get fkX11_39 dX11_hasCrews_44 (P.s0 r) rfl ?_
      refine wp_iload_n dX11_hasCrews_47 rfl ?_
      refine wp_aaload dX11_hasCrews_48 P.q11 rfl rfl (by omega) (by omega) (by omega) (if_pos (by omega)) ?_
      change WP G mX11_hasCrews _ _ _ _ h N 49 [some (.ref (cB G + 169)), some (JV (t : Int)), some (JV (b : Int)), some (JV en), some (JV (d : Int)), some (JV (c : Int))] [.ref (cB G + 184 + t)]
      refine wp_iload dX11_hasCrews_49 rfl ?_
      refine wp_iaload dX11_hasCrews_51 (P.s11 r (i := t) (by omega)) (by omega) (by omega) (by omega) ?_
      change WP G mX11_hasCrews _ _ _ _ h N 52 [some (.ref (cB G + 169)), some (JV (t : Int)), some (JV (b : Int)), some (JV en), some (JV (d : Int)), some (JV (c : Int))] [JV (S 12 t c)]
      refine wp_if_le 87 dX11_hasCrews_52 (by decide) ⟨by omega, by omega⟩ (fun c_52 => ?_) (fun c_52 => ?_)
      · rw [suf, if_neg (by rw [on]; omega)] at kk
        refine wp_iinc dX11_hasCrews_87 rfl (Nat.le_of_ble_eq_true rfl) rfl ?_
        change WP G mX11_hasCrews _ _ _ _ h N 90 [some (.ref (cB G + 169)), some (JV (t : Int)), some (JV (b : Int)), some (JV en), some (JV (d : Int)), some (JV ((c : Int) + 1))] []
        refine wp_goto 37 dX11_hasCrews_90 (by decide) ?_
        exact ih (c + 1) (by omega) (by omega) kk
      · refine wp_aload_n dX11_hasCrews_55 rfl ?_
        refine wp_get fkX11_70 dX11_hasCrews_56 (P.s0 r) rfl ?_
        refine wp_iload dX11_hasCrews_59 rfl ?_
        refine wp_aaload dX11_hasCrews_61 P.q27 rfl rfl (by omega) (by omega) (by omega) (if_pos (by omega)) ?_
        change WP G mX11_hasCrews _ _ _ _ h N 62 [some (.ref (cB G + 169)), some (JV (t : Int)), some (JV (b : Int)), some (JV en), some (JV (d : Int)), some (JV (c : Int))] [.ref (cB G + 266 + c)]
        refine wp_iload dX11_hasCrews_62 rfl ?_
        refine wp_iaload dX11_hasCrews_64 (P.r27 (i := c) (by omega)) (by omega) (by omega) (by omega) ?_
        change WP G mX11_hasCrews _ _ _ _ h N 65 [some (.ref (cB G + 169)), some (JV (t : Int)), some (JV (b : Int)), some (JV en), some (JV (d : Int)), some (JV (c : Int))] [JV (M 27 c d)]
        refine wp_aload_n dX11_hasCrews_65 rfl ?_
        refine wp_get fkX11_39 dX11_hasCrews_66 (P.s0 r) rfl ?_
        refine wp_iload_n dX11_hasCrews_69 rfl ?_
        refine wp_aaload dX11_hasCrews_70 P.q11 rfl rfl (by omega) (by omega) (by omega) (if_pos (by omega)) ?_
        change WP G mX11_hasCrews _ _ _ _ h N 71 [some (.ref (cB G + 169)), some (JV (t : Int)), some (JV (b : Int)), some (JV en), some (JV (d : Int)), some (JV (c : Int))] [.ref (cB G + 184 + t), JV (M 27 c d)]
        refine wp_iload dX11_hasCrews_71 rfl ?_
        refine wp_iaload dX11_hasCrews_73 (P.s11 r (i := t) (by omega)) (by omega) (by omega) (by omega) ?_
        change WP G mX11_hasCrews _ _ _ _ h N 74 [some (.ref (cB G + 169)), some (JV (t : Int)), some (JV (b : Int)), some (JV en), some (JV (d : Int)), some (JV (c : Int))] [JV (S 12 t c), JV (M 27 c d)]
        refine wp_iadd dX11_hasCrews_74 ?_
        refine wp_aload_n dX11_hasCrews_75 rfl ?_
        refine wp_get fkX11_21 dX11_hasCrews_76 (P.s0 r) rfl ?_
        refine wp_iload dX11_hasCrews_79 rfl ?_
        refine wp_iaload dX11_hasCrews_81 (P.s4 r) (by omega) (by omega) (by omega) ?_
        change WP G mX11_hasCrews _ _ _ _ h N 82 [some (.ref (cB G + 169)), some (JV (t : Int)), some (JV (b : Int)), some (JV en), some (JV (d : Int)), some (JV (c : Int))] [JV (S 3 c 0), JV ((M 27 c d) + (S 12 t c))]
        refine wp_icmp_le 87 dX11_hasCrews_82 (by decide) ⟨by omega, by omega⟩ ⟨by omega, by omega⟩ (fun c_82 => ?_) (fun c_82 => ?_)
        · rw [suf, if_neg (by rw [on]; omega)] at kk
          refine wp_iinc dX11_hasCrews_87 rfl (Nat.le_of_ble_eq_true rfl) rfl ?_
          change WP G mX11_hasCrews _ _ _ _ h N 90 [some (.ref (cB G + 169)), some (JV (t : Int)), some (JV (b : Int)), some (JV en), some (JV (d : Int)), some (JV ((c : Int) + 1))] []
          refine wp_goto 37 dX11_hasCrews_90 (by decide) ?_
          exact ih (c + 1) (by omega) (by omega) kk
        · rw [suf, if_pos (by rw [on]; omega)] at kk
          refine wp_iconst dX11_hasCrews_85 ?_
          refine wp_zret dX11_hasCrews_86 rfl (by omega) ?_
          exact kk.2 rfl

theorem l_hasCrews2 {Q : PQ} {X : PX} {k9 n9 : Nat} (P : MP G N M L z h) (r : RS S M) (w : WF S) {t b : Nat} (ht : t < 24) (hus : ∀ c, c < 4 → ∀ d, d < 5000 → 0 ≤ M 27 c d ∧ M 27 c d ≤ 100000) {e : Nat} (he : e ≤ 5000) : ∀ (m : Nat) (d : Nat) (x5 : Option Value), (e - d = m) → (d ≤ e) → (Q (some (JV (bI (hcr S (M 27) t m d)))) h N) → WP G mX11_hasCrews Q X k9 n9 h N 10 [some (.ref (cB G + 169)), some (JV (t : Int)), some (JV (b : Int)), some (JV ((e : Nat) : Int)), some (JV (d : Int)), x5] [] := by
  intro m
  induction m with
  | zero =>
    intro d x5 hm hd kk
    refine wp_iload dX11_hasCrews_10 rfl ?_
    refine wp_iload_n dX11_hasCrews_12 rfl ?_
    refine wp_icmp_ge 99 dX11_hasCrews_13 (by decide) ⟨by omega, by omega⟩ ⟨by omega, by omega⟩ (fun c_13 => ?_) (fun c_13 => ?_)
    · refine wp_iconst dX11_hasCrews_99 ?_
      refine wp_zret dX11_hasCrews_100 rfl (by omega) ?_
      exact kk
    · exact absurd c_13 (by omega)
  | succ m ih =>
    intro d x5 hm hd kk
    have wt := w.task ht
    refine wp_iload dX11_hasCrews_10 rfl ?_
    refine wp_iload_n dX11_hasCrews_12 rfl ?_
    refine wp_icmp_ge 99 dX11_hasCrews_13 (by decide) ⟨by omega, by omega⟩ ⟨by omega, by omega⟩ (fun c_13 => ?_) (fun c_13 => ?_)
    · exact absurd c_13 (by omega)
    · refine wp_aload_n dX11_hasCrews_16 rfl ?_
      refine wp_aload_n dX11_hasCrews_17 rfl ?_
      refine wp_get fkX11_30 dX11_hasCrews_18 (P.s0 r) rfl ?_
      refine wp_iload_n dX11_hasCrews_21 rfl ?_
      refine wp_iaload dX11_hasCrews_22 (P.s8 r) (by omega) (by omega) (by omega) ?_
      change WP G mX11_hasCrews _ _ _ _ h N 23 [some (.ref (cB G + 169)), some (JV (t : Int)), some (JV (b : Int)), some (JV ((e : Nat) : Int)), some (JV (d : Int)), x5] [JV (S 6 t 0), .ref (cB G + 169)]
      refine wp_iload dX11_hasCrews_23 rfl ?_
      have won_25 := m_worksOn (N := N) (G := G) P r w (c := (S 6 t 0).toNat) (d := d) (by omega) (by omega)
      rw [show (((S 6 t 0).toNat : Nat) : Int) = S 6 t 0 by omega] at won_25
      refine wp_v2p won_25 cvX11_106 dX11_hasCrews_25 ⟨Nat.le_of_ble_eq_true rfl, Nat.le_of_ble_eq_true rfl⟩ (Nat.le_of_ble_eq_true rfl) (P.s0 r) rfl rfl ?_
      refine wp_if_ne 34 dX11_hasCrews_28 (by decide) (bI_r _) (fun c_28 => ?_) (fun c_28 => ?_)
      · refine wp_iconst dX11_hasCrews_34 ?_
        refine wp_istore dX11_hasCrews_35 (Nat.le_of_ble_eq_true rfl) rfl ?_
        change WP G mX11_hasCrews _ _ _ _ h N 37 [some (.ref (cB G + 169)), some (JV (t : Int)), some (JV (b : Int)), some (JV ((e : Nat) : Int)), some (JV (d : Int)), some (JV 0)] []
        have hw := bI_ne c_28
        refine l_hasCrews1 (b := b) (en := (e : Int)) P r w ht hus (d := d) (by omega) _ 0 rfl (Nat.zero_le _) ⟨fun q x5 => ?_, fun q => ?_⟩
        · rw [hcr, if_pos hw, if_pos q] at kk
          refine wp_iinc dX11_hasCrews_93 rfl (Nat.le_of_ble_eq_true rfl) rfl ?_
          change WP G mX11_hasCrews _ _ _ _ h N 96 [some (.ref (cB G + 169)), some (JV (t : Int)), some (JV (b : Int)), some (JV (e : Int)), some (JV ((d : Int) + 1)), x5] []
          refine wp_goto 10 dX11_hasCrews_96 (by decide) ?_
          exact ih (d + 1) x5 (by omega) (by omega) kk
        · rw [hcr, if_pos hw, if_neg (by rw [show (4 - 0 : Nat) = 4 from rfl] at q; rw [q]; decide)] at kk
          exact kk
      · rw [hcr, if_neg (fun q => by rw [q] at c_28; exact absurd c_28 (by decide))] at kk
        refine wp_goto 93 dX11_hasCrews_31 (by decide) ?_
        refine wp_iinc dX11_hasCrews_93 rfl (Nat.le_of_ble_eq_true rfl) rfl ?_
        change WP G mX11_hasCrews _ _ _ _ h N 96 [some (.ref (cB G + 169)), some (JV (t : Int)), some (JV (b : Int)), some (JV ((e : Nat) : Int)), some (JV ((d : Int) + 1)), x5] []
        refine wp_goto 10 dX11_hasCrews_96 (by decide) ?_
        exact ih (d + 1) x5 (by omega) (by omega) kk

theorem m_hasCrews (P : MP G N M L z h) (r : RS S M) (w : WF S) {t b : Nat} (ht : t < 24) (hus : ∀ c, c < 4 → ∀ d, d < 5000 → 0 ≤ M 27 c d ∧ M 27 c d ≤ 100000) (hE : EN (wkS S (S 6 t 0).toNat) (S 5 t 0).toNat b ≤ 5000) : CT G mX11_hasCrews [.ref (cB G + 169), JV (t : Int), JV (b : Int)] h N 0 0 (PV (JV (bI (hcr S (M 27) t (EN (wkS S (S 6 t 0).toNat) (S 5 t 0).toNat b - b) b))) h N) := by
  refine CT_of (by decide +kernel) rfl (by simp [Value.category]) (Nat.le_of_ble_eq_true rfl) ?_
  change WP G mX11_hasCrews _ noX _ _ h N 0 [some (.ref (cB G + 169)), some (JV (t : Int)), some (JV (b : Int)), none, none, none] []
  have g := EN_ge (wk := wkS S (S 6 t 0).toNat) (l := (S 5 t 0).toNat) (b := b)
  refine wp_aload_n dX11_hasCrews_0 rfl ?_
  refine wp_iload_n dX11_hasCrews_1 rfl ?_
  refine wp_iload_n dX11_hasCrews_2 rfl ?_
  refine wp_v2p (m_endOf (N := N) P r w (t := t) (b := b) ht (by omega)) cvX11_113 dX11_hasCrews_3 ⟨Nat.le_of_ble_eq_true rfl, Nat.le_of_ble_eq_true rfl⟩ (Nat.le_of_ble_eq_true rfl) (P.s0 r) rfl rfl ?_
  refine wp_istore_n dX11_hasCrews_6 (Nat.le_of_ble_eq_true rfl) rfl ?_
  change WP G mX11_hasCrews _ _ _ _ h N 7 [some (.ref (cB G + 169)), some (JV (t : Int)), some (JV (b : Int)), some (JV ((EN (wkS S (S 6 t 0).toNat) (S 5 t 0).toNat b : Nat) : Int)), none, none] []
  refine wp_iload_n dX11_hasCrews_7 rfl ?_
  refine wp_istore dX11_hasCrews_8 (Nat.le_of_ble_eq_true rfl) rfl ?_
  change WP G mX11_hasCrews _ _ _ _ h N 10 [some (.ref (cB G + 169)), some (JV (t : Int)), some (JV (b : Int)), some (JV ((EN (wkS S (S 6 t 0).toNat) (S 5 t 0).toNat b : Nat) : Int)), some (JV (b : Int)), none] []
  exact l_hasCrews2 (e := EN (wkS S (S 6 t 0).toNat) (S 5 t 0).toNat b) P r w ht hus hE _ b _ rfl g ⟨rfl, rfl, rfl⟩

theorem m_isBetter (P : MP G N M L z h) (r : RS S M) (w : WF S) {t u : Nat} (ht : t < 24) (hu : u < 24) (hb : ∀ x, x = t ∨ x = u → (-1000000 ≤ M 20 0 x ∧ M 20 0 x ≤ 1000000) ∧ -1000000 ≤ M 21 x 0 ∧ M 21 x 0 ≤ 1000000) : CT G mX11_isBetter [.ref (cB G + 169), JV (t : Int), JV (u : Int)] h N 0 0 (PV (JV (bI (decide (keyF S (M 20 0) (fun x => M 21 x 0) (S 15 0 0) t < keyF S (M 20 0) (fun x => M 21 x 0) (S 15 0 0) u)))) h N) := by
  refine CT_of (by decide +kernel) rfl (by simp [Value.category]) (Nat.le_of_ble_eq_true rfl) ?_
  change WP G mX11_isBetter _ noX _ _ h N 0 [some (.ref (cB G + 169)), some (JV (t : Int)), some (JV (u : Int))] []
  have w1 := w.task ht
  have w2 := w.task hu
  have wr := w.rule
  have b1 := hb t (Or.inl rfl)
  have b2 := hb u (Or.inr rfl)
  refine wp_aload_n dX11_isBetter_0 rfl ?_
  refine wp_get fkX11_143 dX11_isBetter_1 (P.s0 r) rfl ?_
  refine wp_if_ne 32 dX11_isBetter_4 (by decide) ⟨by omega, by omega⟩ (fun c_4 => ?_) (fun c_4 => ?_)
  · refine wp_aload_n dX11_isBetter_32 rfl ?_
    refine wp_get fkX11_143 dX11_isBetter_33 (P.s0 r) rfl ?_
    refine wp_iconst dX11_isBetter_36 ?_
    refine wp_icmp_ne 61 dX11_isBetter_37 (by decide) ⟨by omega, by omega⟩ ⟨by omega, by omega⟩ (fun c_37 => ?_) (fun c_37 => ?_)
    · refine wp_aload_n dX11_isBetter_61 rfl ?_
      refine wp_get fkX11_143 dX11_isBetter_62 (P.s0 r) rfl ?_
      refine wp_iconst dX11_isBetter_65 ?_
      refine wp_icmp_ne 92 dX11_isBetter_66 (by decide) ⟨by omega, by omega⟩ ⟨by omega, by omega⟩ (fun c_66 => ?_) (fun c_66 => ?_)
      · refine wp_aload_n dX11_isBetter_92 rfl ?_
        refine wp_get fkX11_27 dX11_isBetter_93 (P.s0 r) rfl ?_
        refine wp_iload_n dX11_isBetter_96 rfl ?_
        refine wp_iaload dX11_isBetter_97 (P.s7 r) (by omega) (by omega) (by omega) ?_
        change WP G mX11_isBetter _ _ _ _ h N 98 [some (.ref (cB G + 169)), some (JV (t : Int)), some (JV (u : Int))] [JV (S 5 t 0)]
        refine wp_aload_n dX11_isBetter_98 rfl ?_
        refine wp_get fkX11_27 dX11_isBetter_99 (P.s0 r) rfl ?_
        refine wp_iload_n dX11_isBetter_102 rfl ?_
        refine wp_iaload dX11_isBetter_103 (P.s7 r) (by omega) (by omega) (by omega) ?_
        change WP G mX11_isBetter _ _ _ _ h N 104 [some (.ref (cB G + 169)), some (JV (t : Int)), some (JV (u : Int))] [JV (S 5 u 0), JV (S 5 t 0)]
        refine wp_icmp_le 111 dX11_isBetter_104 (by decide) ⟨by omega, by omega⟩ ⟨by omega, by omega⟩ (fun c_104 => ?_) (fun c_104 => ?_)
        · refine wp_iconst dX11_isBetter_111 ?_
          refine wp_zret dX11_isBetter_112 rfl (by omega) ?_
          refine ⟨?_, rfl, rfl⟩
          unfold keyF
          rw [if_neg (by omega), if_neg (by omega), if_neg (by omega), if_neg (by omega), if_neg (by omega), if_neg (by omega)]
          try dsimp only
          rw [bI_np (by omega)]
        · refine wp_iconst dX11_isBetter_107 ?_
          refine wp_goto 112 dX11_isBetter_108 (by decide) ?_
          refine wp_zret dX11_isBetter_112 rfl (by omega) ?_
          refine ⟨?_, rfl, rfl⟩
          unfold keyF
          rw [if_neg (by omega), if_neg (by omega), if_neg (by omega), if_neg (by omega), if_neg (by omega), if_neg (by omega)]
          try dsimp only
          rw [bI_pp (by omega)]
      · refine wp_aload_n dX11_isBetter_69 rfl ?_
        refine wp_get fkX11_33 dX11_isBetter_70 (P.s0 r) rfl ?_
        refine wp_iload_n dX11_isBetter_73 rfl ?_
        refine wp_iaload dX11_isBetter_74 (P.s9 r) (by omega) (by omega) (by omega) ?_
        change WP G mX11_isBetter _ _ _ _ h N 75 [some (.ref (cB G + 169)), some (JV (t : Int)), some (JV (u : Int))] [JV (S 7 t 0)]
        refine wp_aload_n dX11_isBetter_75 rfl ?_
        refine wp_get fkX11_33 dX11_isBetter_76 (P.s0 r) rfl ?_
        refine wp_iload_n dX11_isBetter_79 rfl ?_
        refine wp_iaload dX11_isBetter_80 (P.s9 r) (by omega) (by omega) (by omega) ?_
        change WP G mX11_isBetter _ _ _ _ h N 81 [some (.ref (cB G + 169)), some (JV (t : Int)), some (JV (u : Int))] [JV (S 7 u 0), JV (S 7 t 0)]
        refine wp_icmp_le 88 dX11_isBetter_81 (by decide) ⟨by omega, by omega⟩ ⟨by omega, by omega⟩ (fun c_81 => ?_) (fun c_81 => ?_)
        · refine wp_iconst dX11_isBetter_88 ?_
          refine wp_goto 112 dX11_isBetter_89 (by decide) ?_
          refine wp_zret dX11_isBetter_112 rfl (by omega) ?_
          refine ⟨?_, rfl, rfl⟩
          unfold keyF
          rw [if_neg (by omega), if_neg (by omega), if_pos (by omega), if_neg (by omega), if_neg (by omega), if_pos (by omega)]
          try dsimp only
          rw [bI_np (by omega)]
        · refine wp_iconst dX11_isBetter_84 ?_
          refine wp_goto 112 dX11_isBetter_85 (by decide) ?_
          refine wp_zret dX11_isBetter_112 rfl (by omega) ?_
          refine ⟨?_, rfl, rfl⟩
          unfold keyF
          rw [if_neg (by omega), if_neg (by omega), if_pos (by omega), if_neg (by omega), if_neg (by omega), if_pos (by omega)]
          try dsimp only
          rw [bI_pp (by omega)]
    · refine wp_aload_n dX11_isBetter_40 rfl ?_
      refine wp_get fkX11_61 dX11_isBetter_41 (P.s0 r) rfl ?_
      refine wp_iload_n dX11_isBetter_44 rfl ?_
      refine wp_iaload dX11_isBetter_45 P.c21 (by omega) (by omega) (by omega) ?_
      change WP G mX11_isBetter _ _ _ _ h N 46 [some (.ref (cB G + 169)), some (JV (t : Int)), some (JV (u : Int))] [JV (M 21 t 0)]
      refine wp_aload_n dX11_isBetter_46 rfl ?_
      refine wp_get fkX11_61 dX11_isBetter_47 (P.s0 r) rfl ?_
      refine wp_iload_n dX11_isBetter_50 rfl ?_
      refine wp_iaload dX11_isBetter_51 P.c21 (by omega) (by omega) (by omega) ?_
      change WP G mX11_isBetter _ _ _ _ h N 52 [some (.ref (cB G + 169)), some (JV (t : Int)), some (JV (u : Int))] [JV (M 21 u 0), JV (M 21 t 0)]
      refine wp_icmp_ge 59 dX11_isBetter_52 (by decide) ⟨by omega, by omega⟩ ⟨by omega, by omega⟩ (fun c_52 => ?_) (fun c_52 => ?_)
      · refine wp_iconst dX11_isBetter_59 ?_
        refine wp_zret dX11_isBetter_60 rfl (by omega) ?_
        refine ⟨?_, rfl, rfl⟩
        unfold keyF
        rw [if_neg (by omega), if_pos (by omega), if_neg (by omega), if_pos (by omega)]
        try dsimp only
        rw [bI_np (by omega)]
      · refine wp_iconst dX11_isBetter_55 ?_
        refine wp_goto 60 dX11_isBetter_56 (by decide) ?_
        refine wp_zret dX11_isBetter_60 rfl (by omega) ?_
        refine ⟨?_, rfl, rfl⟩
        unfold keyF
        rw [if_neg (by omega), if_pos (by omega), if_neg (by omega), if_pos (by omega)]
        try dsimp only
        rw [bI_pp (by omega)]
  · refine wp_aload_n dX11_isBetter_7 rfl ?_
    refine wp_get fkX11_58 dX11_isBetter_8 (P.s0 r) rfl ?_
    refine wp_iconst dX11_isBetter_11 ?_
    refine wp_aaload dX11_isBetter_12 P.q20 rfl rfl (by omega) (by omega) (by omega) (if_pos (by omega)) ?_
    change WP G mX11_isBetter _ _ _ _ h N 13 [some (.ref (cB G + 169)), some (JV (t : Int)), some (JV (u : Int))] [.ref (cB G + 258 + 0)]
    refine wp_iload_n dX11_isBetter_13 rfl ?_
    refine wp_iaload dX11_isBetter_14 (P.r20 (i := 0) (by omega)) (by omega) (by omega) (by omega) ?_
    change WP G mX11_isBetter _ _ _ _ h N 15 [some (.ref (cB G + 169)), some (JV (t : Int)), some (JV (u : Int))] [JV (M 20 0 t)]
    refine wp_aload_n dX11_isBetter_15 rfl ?_
    refine wp_get fkX11_58 dX11_isBetter_16 (P.s0 r) rfl ?_
    refine wp_iconst dX11_isBetter_19 ?_
    refine wp_aaload dX11_isBetter_20 P.q20 rfl rfl (by omega) (by omega) (by omega) (if_pos (by omega)) ?_
    change WP G mX11_isBetter _ _ _ _ h N 21 [some (.ref (cB G + 169)), some (JV (t : Int)), some (JV (u : Int))] [.ref (cB G + 258 + 0), JV (M 20 0 t)]
    refine wp_iload_n dX11_isBetter_21 rfl ?_
    refine wp_iaload dX11_isBetter_22 (P.r20 (i := 0) (by omega)) (by omega) (by omega) (by omega) ?_
    change WP G mX11_isBetter _ _ _ _ h N 23 [some (.ref (cB G + 169)), some (JV (t : Int)), some (JV (u : Int))] [JV (M 20 0 u), JV (M 20 0 t)]
    refine wp_icmp_ge 30 dX11_isBetter_23 (by decide) ⟨by omega, by omega⟩ ⟨by omega, by omega⟩ (fun c_23 => ?_) (fun c_23 => ?_)
    · refine wp_iconst dX11_isBetter_30 ?_
      refine wp_zret dX11_isBetter_31 rfl (by omega) ?_
      refine ⟨?_, rfl, rfl⟩
      unfold keyF
      rw [if_pos (by omega), if_pos (by omega)]
      try dsimp only
      rw [bI_np (by omega)]
    · refine wp_iconst dX11_isBetter_26 ?_
      refine wp_goto 31 dX11_isBetter_27 (by decide) ?_
      refine wp_zret dX11_isBetter_31 rfl (by omega) ?_
      refine ⟨?_, rfl, rfl⟩
      unfold keyF
      rw [if_pos (by omega), if_pos (by omega)]
      try dsimp only
      rw [bI_pp (by omega)]

end Mv

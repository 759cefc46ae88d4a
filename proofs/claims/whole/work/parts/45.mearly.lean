/-! ===== the reference: EARLY, LATE ===== -/
section Me
variable {G : Ctx} {h : AH} {N : Nat} {S M : ST} {L : Nat → Nat} {z : Int64}
theorem su_row {S : ST} {f i j : Nat} {v : Int} : su S f i j v f i = fup (S f i) j v := by
  funext y
  unfold su fup
  by_cases hy : y = j <;> simp [hy]
theorem su_rown {S : ST} {f i j i' : Nat} {v : Int} (h : i' ≠ i) : su S f i j v f i' = S f i' := funext fun y => su_i h
theorem MP.pl19 (P : MP G N M L z h) : IsPl G h (cB G + 254) (M 19 0) (M 19 1) := ⟨P.q19, P.r19 (by omega), P.r19 (by omega)⟩
theorem MP.pl22 (P : MP G N M L z h) : IsPl G h (cB G + 261) (M 22 0) (M 22 1) := ⟨P.q22, P.r22 (by omega), P.r22 (by omega)⟩
/-- EARLY in the making: the first k of the order q -/
def ERL (S : ST) (q b e : Nat → Int) (ld : Int) (k : Nat) : Prop := (∀ i : Nat, i < k → EPt S b e (q i).toNat) ∧ (∀ i : Nat, i < k → (0 ≤ b (q i).toNat ∧ b (q i).toNat ≤ 1000 + 166 * (i + 1 : Int)) ∧ 0 ≤ e (q i).toNat ∧ e (q i).toNat ≤ 1000 + 166 * (i + 1 : Int)) ∧ (∀ i : Nat, i < k → e (q i).toNat ≤ ld) ∧ (ld = 0 ∨ ∃ i : Nat, i < k ∧ ld = e (q i).toNat) ∧ 0 ≤ ld ∧ ld ≤ 1000 + 166 * (k : Int)
theorem ERL.pre {q b e : Nat → Int} {ld : Int} {k t : Nat} (tq : TOQ S q) (s : ERL S q b e ld k) (hk : (k : Int) < S 13 0 0) (ht : q k = (t : Int)) : ∀ j : Nat, (j : Int) < S 14 0 0 → lT S j = (t : Int) → ((-1 ≤ b (lF S j).toNat ∧ b (lF S j).toNat ≤ 1000 + 166 * (k : Int)) ∧ -1 ≤ e (lF S j).toNat ∧ e (lF S j).toNat ≤ 1000 + 166 * (k : Int)) ∧ (lF S j).toNat ≠ t := fun j hj hl => by
  obtain ⟨i, i1, i2⟩ := tq.2.2.2 k j hk hj (by rw [hl, ht])
  have q1 := s.2.1 i i1
  rw [i2] at q1
  have q2 := tq.1 i (by omega)
  refine ⟨by omega, fun z => ?_⟩
  have := tq.2.1 i k (by omega) hk (by rw [ht]; omega)
  omega
theorem ERL.step {q b e : Nat → Int} {ld : Int} {k t : Nat} (w : WF S) (tq : TOQ S q) (s : ERL S q b e ld k) (hk : (k : Int) < S 13 0 0) (ht : q k = (t : Int)) {v v2 : Int} (hv : (S 9 t 0 ≠ 0 → v = S 10 t 0 ∧ v2 = S 11 t 0) ∧ (S 9 t 0 = 0 → v = fday S b e t ∧ v2 = endS S t v)) : ERL S q (fup b t v) (fup e t v2) (max ld v2) (k + 1) := by
  have wT := w.nT
  have hp := s.pre tq hk ht
  have hqk := tq.1 k hk
  have hne : ∀ i : Nat, i < k → (q i).toNat ≠ t := fun i hi z => by
    have := tq.1 i (by omega)
    have := tq.2.1 i k (by omega) hk (by rw [ht]; omega)
    omega
  have hk0 : (q k).toNat = t := by rw [ht, Int.toNat_natCast]
  have hE : ∀ i : Nat, i < k + 1 → EPt S (fup b t v) (fup e t v2) (q i).toNat := fun i hi => by
    have hpi : ∀ j : Nat, (j : Int) < S 14 0 0 → lT S j = (((q i).toNat : Nat) : Int) → (lF S j).toNat ≠ t := fun j hj hl => by
      by_cases hik : i = k
      · subst hik
        exact (hp j hj (by rw [hl, hk0])).2
      · have q2 := tq.1 i (by omega)
        obtain ⟨i2, i3, i4⟩ := tq.2.2.2 i j (by omega) hj (by rw [hl]; omega)
        rw [← i4]
        exact hne i2 (by omega)
    have hf : fday S (fup b t v) (fup e t v2) (q i).toNat = fday S b e (q i).toNat := fday_cg fun j hj hl => ⟨fupn (hpi j hj hl), fupn (hpi j hj hl)⟩
    by_cases hik : i = k
    · subst hik
      rw [hk0] at hf ⊢
      unfold EPt
      rw [fupe, fupe, hf]
      exact hv
    · have hn := hne i (by omega)
      have q1 := s.1 i (by omega)
      unfold EPt at q1 ⊢
      rw [fupn hn, fupn hn, hf]
      exact q1
  have ok := EPt_OK w (b := fup b t v) (e := fup e t v2) (t := t) (by omega) (by have := hE k (by omega); rw [hk0] at this; exact this) (M := 1000 + 166 * (k : Int)) (by omega) (fun j hj hl => by
    have a := hp j hj hl
    rw [fupn a.2, fupn a.2]
    omega)
  have ok := ok.1
  rw [fupe, fupe] at ok
  obtain ⟨s1, s2, s3, s4, s5⟩ := s
  refine ⟨hE, fun i hi => ?_, fun i hi => ?_, ?_, by omega, by omega⟩
  · by_cases hik : i = k
    · subst hik
      rw [hk0, fupe, fupe]
      omega
    · rw [fupn (hne i (by omega)), fupn (hne i (by omega))]
      exact s2 i (by omega)
  · by_cases hik : i = k
    · subst hik
      rw [hk0, fupe]
      omega
    · rw [fupn (hne i (by omega))]
      have := s3 i (by omega)
      omega
  · by_cases hlv : v2 ≤ ld
    · rw [show max ld v2 = ld by omega]
      rcases s4 with z | ⟨i, i1, i2⟩
      · exact Or.inl z
      · exact Or.inr ⟨i, by omega, by rw [fupn (hne i i1)]; exact i2⟩
    · exact Or.inr ⟨k, by omega, by rw [hk0, fupe]; omega⟩
theorem ERL.end {q b e : Nat → Int} {ld : Int} {k : Nat} (w : WF S) (tq : TOQ S q) (s : ERL S q b e ld k) (hk : (k : Int) = S 13 0 0) : EP S b e ∧ LDY S e ld := by
  have wT := w.nT
  obtain ⟨s1, s2, s3, s4, s5⟩ := s
  have fnd : ∀ t : Nat, (t : Int) < S 13 0 0 → ∃ i : Nat, i < k ∧ (q i).toNat = t := fun t ht => by
    obtain ⟨i, i1, i2⟩ := tq.2.2.1 t (by omega) ht
    exact ⟨i, by omega, by omega⟩
  refine ⟨fun t ht => ?_, fun t ht => ?_, ?_, by omega, by omega⟩
  · obtain ⟨i, i1, i2⟩ := fnd t ht
    rw [← i2]
    exact s1 i i1
  · obtain ⟨i, i1, i2⟩ := fnd t ht
    rw [← i2]
    exact s3 i i1
  · rcases s4 with z | ⟨i, i1, i2⟩
    · exact Or.inl z
    · have := tq.1 i (by omega)
      exact Or.inr ⟨(q i).toNat, by omega, i2⟩
theorem l_layEarly {Q : PQ} {X : PX} {k9 n9 : Nat} {h0 : AH} {M0 : ST} {q : Nat → Int} (w : WF S) (tq : TOQ S q) : ∀ (m : Nat) (k : Nat) (M : ST) (h : AH) (x2 : Option Value), ((S 13 0 0).toNat - k = m) → ((k : Int) ≤ S 13 0 0) → (MP G N M L z h) → (RS S M) → (∀ i, M 18 i 0 = q i) → (ERL S q (M 19 0) (M 19 1) (M 25 0 0) k) → (FRM G h0 h) → (∀ f, f ≠ 19 → f ≠ 25 → M f = M0 f) → (∀ (M' : ST) (h' : AH), MP G N M' L z h' → RS S M' → EP S (M' 19 0) (M' 19 1) → LDY S (M' 19 1) (M' 25 0 0) → FRM G h0 h' → (∀ f, f ≠ 19 → f ≠ 25 → M' f = M0 f) → Q none h' N) → WP G mX11_layEarly Q X k9 n9 h N 7 [some (.ref (cB G + 169)), some (JV (k : Int)), x2] [] := by
  intro m
  induction m with
  | zero =>
    intro k M h x2 hm hk P r hq er fr hM kk
    have wT := w.nT
    refine wp_iload_n dX11_layEarly_7 rfl ?_
    refine wp_aload_n dX11_layEarly_8 rfl ?_
    refine wp_get fkX11_96 dX11_layEarly_9 (P.s0 r) rfl ?_
    refine wp_icmp_ge 125 dX11_layEarly_12 (by decide) ⟨by omega, by omega⟩ ⟨by omega, by omega⟩ (fun c_12 => ?_) (fun c_12 => ?_)
    · refine wp_vret dX11_layEarly_125 rfl ?_
      have ee := er.end w tq (by omega)
      exact kk M h P r ee.1 ee.2 fr hM
    · exact absurd c_12 (by omega)
  | succ m ih =>
    intro k M h x2 hm hk P r hq er fr hM kk
    have wT := w.nT
    refine wp_iload_n dX11_layEarly_7 rfl ?_
    refine wp_aload_n dX11_layEarly_8 rfl ?_
    refine wp_get fkX11_96 dX11_layEarly_9 (P.s0 r) rfl ?_
    refine wp_icmp_ge 125 dX11_layEarly_12 (by decide) ⟨by omega, by omega⟩ ⟨by omega, by omega⟩ (fun c_12 => ?_) (fun c_12 => ?_)
    · exact absurd c_12 (by omega)
    · have hkn : (k : Int) < S 13 0 0 := by omega
      have hqk := tq.1 k hkn
      obtain ⟨t, et⟩ : ∃ t : Nat, q k = (t : Int) := ⟨(q k).toNat, by omega⟩
      have ht24 : t < 24 := by omega
      have ht := ht24
      have wt := w.task ht24
      have ldb := er.2.2.2.2
      refine wp_aload_n dX11_layEarly_15 rfl ?_
      refine wp_get fkX11_52 dX11_layEarly_16 (P.s0 r) rfl ?_
      refine wp_iload_n dX11_layEarly_19 rfl ?_
      refine wp_iaload dX11_layEarly_20 P.c18 (by omega) (by omega) (by omega) ?_
      change WP G mX11_layEarly _ _ _ _ h N 21 [some (.ref (cB G + 169)), some (JV (k : Int)), x2] [JV (M 18 k 0)]
      rw [hq k, et]
      refine wp_istore_n dX11_layEarly_21 (Nat.le_of_ble_eq_true rfl) rfl ?_
      change WP G mX11_layEarly _ _ _ _ h N 22 [some (.ref (cB G + 169)), some (JV (k : Int)), some (JV (t : Int))] []
      refine wp_aload_n dX11_layEarly_22 rfl ?_
      refine wp_get fkX11_55 dX11_layEarly_23 (P.s0 r) rfl ?_
      refine wp_iconst dX11_layEarly_26 ?_
      refine wp_aaload dX11_layEarly_27 P.q19 rfl rfl (by omega) (by omega) (by omega) (if_pos (by omega)) ?_
      change WP G mX11_layEarly _ _ _ _ h N 28 [some (.ref (cB G + 169)), some (JV (k : Int)), some (JV (t : Int))] [.ref (cB G + 255 + 0)]
      refine wp_iload_n dX11_layEarly_28 rfl ?_
      refine wp_aload_n dX11_layEarly_29 rfl ?_
      refine wp_get fkX11_42 dX11_layEarly_30 (P.s0 r) rfl ?_
      refine wp_iload_n dX11_layEarly_33 rfl ?_
      refine wp_zaload dX11_layEarly_34 (P.s12 r) (by omega) (by omega) (by omega) ?_
      change WP G mX11_layEarly _ _ _ _ h N 35 [some (.ref (cB G + 169)), some (JV (k : Int)), some (JV (t : Int))] [JV (S 9 t 0), JV (t : Int), .ref (cB G + 255 + 0)]
      refine wp_if_eq 49 dX11_layEarly_35 (by decide) ⟨by omega, by omega⟩ (fun c_35 => ?_) (fun c_35 => ?_)
      · refine wp_aload_n dX11_layEarly_49 rfl ?_
        refine wp_iload_n dX11_layEarly_50 rfl ?_
        refine wp_aload_n dX11_layEarly_51 rfl ?_
        refine wp_get fkX11_55 dX11_layEarly_52 (P.s0 r) rfl ?_
        have hpre := er.pre tq hkn et
        obtain ⟨y, y1, y2, y3⟩ := fday_LB w ht24 (b := M 19 0) (e := M 19 1) (M := 1000 + 166 * (k : Int)) (by omega) (fun j h1 h2 => by have := (hpre j h1 h2).1; omega)
        have k9 := wkS_WK w (c := (S 6 t 0).toNat) (by omega)
        have ye := EN_r k9 (l := (S 5 t 0).toNat) (b := y) (by omega) (by omega)
        refine wp_v2p (m_byAll (N := N) (B := 1000 + 166 * (k : Int)) P r w P.pl19 ht24 (by omega) (fun j h1 h2 => (hpre j h1 h2).1)) cvX11_136 dX11_layEarly_55 ⟨Nat.le_of_ble_eq_true rfl, Nat.le_of_ble_eq_true rfl⟩ (Nat.le_of_ble_eq_true rfl) (P.s0 r) rfl rfl ?_
        rw [y1]
        refine wp_iastore dX11_layEarly_58 (P.r19 (i := 0) (by omega)) (by omega) (by omega) (by omega) ?_
        obtain ⟨h_1, eh_1⟩ : ∃ hh9 : AH, hh9 = hup h (cB G + 255 + 0) (eI G 24 (fup (fun j9 => M 19 0 j9) t (y : Int))) := ⟨_, rfl⟩
        refine WP.heq eh_1 ?_
        obtain ⟨M_1, eM_1⟩ : ∃ ss9 : ST, ss9 = su M 19 0 t (y : Int) := ⟨_, rfl⟩
        have P_1 : MP G (N) M_1 L z h_1 := by rw [eM_1]; exact P.u2 (q := (19, 254, 2, 24)) (i := 0) (j := t) (v := (y : Int)) (by decide) (show 0 < 2 by omega) eh_1
        have r_1 : RS S M_1 := by rw [eM_1]; exact r.der (by decide)
        refine wp_aload_n dX11_layEarly_59 rfl ?_
        refine wp_get fkX11_55 dX11_layEarly_60 (P_1.s0 r_1) rfl ?_
        refine wp_iconst dX11_layEarly_63 ?_
        refine wp_aaload dX11_layEarly_64 P_1.q19 rfl rfl (by omega) (by omega) (by omega) (if_pos (by omega)) ?_
        change WP G mX11_layEarly _ _ _ _ h_1 N 65 [some (.ref (cB G + 169)), some (JV (k : Int)), some (JV (t : Int))] [.ref (cB G + 255 + 1)]
        refine wp_iload_n dX11_layEarly_65 rfl ?_
        refine wp_aload_n dX11_layEarly_66 rfl ?_
        refine wp_get fkX11_42 dX11_layEarly_67 (P_1.s0 r_1) rfl ?_
        refine wp_iload_n dX11_layEarly_70 rfl ?_
        refine wp_zaload dX11_layEarly_71 (P_1.s12 r_1) (by omega) (by omega) (by omega) ?_
        change WP G mX11_layEarly _ _ _ _ h_1 N 72 [some (.ref (cB G + 169)), some (JV (k : Int)), some (JV (t : Int))] [JV (S 9 t 0), JV (t : Int), .ref (cB G + 255 + 1)]
        refine wp_if_eq 86 dX11_layEarly_72 (by decide) ⟨by omega, by omega⟩ (fun c_72 => ?_) (fun c_72 => ?_)
        · refine wp_aload_n dX11_layEarly_86 rfl ?_
          refine wp_iload_n dX11_layEarly_87 rfl ?_
          refine wp_aload_n dX11_layEarly_88 rfl ?_
          refine wp_get fkX11_55 dX11_layEarly_89 (P_1.s0 r_1) rfl ?_
          refine wp_iconst dX11_layEarly_92 ?_
          refine wp_aaload dX11_layEarly_93 P_1.q19 rfl rfl (by omega) (by omega) (by omega) (if_pos (by omega)) ?_
          change WP G mX11_layEarly _ _ _ _ h_1 N 94 [some (.ref (cB G + 169)), some (JV (k : Int)), some (JV (t : Int))] [.ref (cB G + 255 + 0), JV (t : Int), .ref (cB G + 169), JV (t : Int), .ref (cB G + 255 + 1)]
          refine wp_iload_n dX11_layEarly_94 rfl ?_
          refine wp_iaload dX11_layEarly_95 (P_1.r19 (i := 0) (by omega)) (by omega) (by omega) (by omega) ?_
          change WP G mX11_layEarly _ _ _ _ h_1 N 96 [some (.ref (cB G + 169)), some (JV (k : Int)), some (JV (t : Int))] [JV (M_1 19 0 t), JV (t : Int), .ref (cB G + 169), JV (t : Int), .ref (cB G + 255 + 1)]
          rw [show M_1 19 0 t = (y : Int) by rw [eM_1]; exact su_s]
          refine wp_v2p (m_endOf (N := N) P_1 r_1 w (t := t) (b := y) ht (by omega)) cvX11_113 dX11_layEarly_96 ⟨Nat.le_of_ble_eq_true rfl, Nat.le_of_ble_eq_true rfl⟩ (Nat.le_of_ble_eq_true rfl) (P_1.s0 r_1) rfl rfl ?_
          refine wp_iastore dX11_layEarly_99 (P_1.r19 (i := 1) (by omega)) (by omega) (by omega) (by omega) ?_
          obtain ⟨h_2, eh_2⟩ : ∃ hh9 : AH, hh9 = hup h_1 (cB G + 255 + 1) (eI G 24 (fup (fun j9 => M_1 19 1 j9) t ((EN (wkS S (S 6 t 0).toNat) (S 5 t 0).toNat y : Nat) : Int))) := ⟨_, rfl⟩
          refine WP.heq eh_2 ?_
          obtain ⟨M_2, eM_2⟩ : ∃ ss9 : ST, ss9 = su M_1 19 1 t ((EN (wkS S (S 6 t 0).toNat) (S 5 t 0).toNat y : Nat) : Int) := ⟨_, rfl⟩
          have P_2 : MP G (N) M_2 L z h_2 := by rw [eM_2]; exact P_1.u2 (q := (19, 254, 2, 24)) (i := 1) (j := t) (v := ((EN (wkS S (S 6 t 0).toNat) (S 5 t 0).toNat y : Nat) : Int)) (by decide) (show 1 < 2 by omega) eh_2
          have r_2 : RS S M_2 := by rw [eM_2]; exact r_1.der (by decide)
          refine wp_aload_n dX11_layEarly_100 rfl ?_
          refine wp_aload_n dX11_layEarly_101 rfl ?_
          refine wp_get fkX11_133 dX11_layEarly_102 (P_2.s0 r_2) rfl ?_
          refine wp_aload_n dX11_layEarly_105 rfl ?_
          refine wp_get fkX11_55 dX11_layEarly_106 (P_2.s0 r_2) rfl ?_
          refine wp_iconst dX11_layEarly_109 ?_
          refine wp_aaload dX11_layEarly_110 P_2.q19 rfl rfl (by omega) (by omega) (by omega) (if_pos (by omega)) ?_
          change WP G mX11_layEarly _ _ _ _ h_2 N 111 [some (.ref (cB G + 169)), some (JV (k : Int)), some (JV (t : Int))] [.ref (cB G + 255 + 1), JV (M_2 25 0 0), .ref (cB G + 169)]
          refine wp_iload_n dX11_layEarly_111 rfl ?_
          refine wp_iaload dX11_layEarly_112 (P_2.r19 (i := 1) (by omega)) (by omega) (by omega) (by omega) ?_
          change WP G mX11_layEarly _ _ _ _ h_2 N 113 [some (.ref (cB G + 169)), some (JV (k : Int)), some (JV (t : Int))] [JV (M_2 19 1 t), JV (M_2 25 0 0), .ref (cB G + 169)]
          rw [show M_2 25 0 0 = M 25 0 0 by rw [eM_2, su_f (by decide), eM_1, su_f (by decide)], show M_2 19 1 t = ((EN (wkS S (S 6 t 0).toNat) (S 5 t 0).toNat y : Nat) : Int) by rw [eM_2]; exact su_s]
          have sv := er.step w tq hkn et (v := (y : Int)) (v2 := ((EN (wkS S (S 6 t 0).toNat) (S 5 t 0).toNat y : Nat) : Int)) (⟨fun q9 => absurd c_35 q9, fun _ => ⟨y1.symm, (endS_EN (by omega)).symm⟩⟩)
          have svb := sv.2.2.2.2
          refine wp_max dX11_layEarly_113 maX11_116 w_max (Nat.le_of_ble_eq_true rfl) (Nat.le_of_ble_eq_true rfl) ⟨by omega, by omega⟩ ⟨by omega, by omega⟩ ?_
          refine wp_put fkX11_133 dX11_layEarly_116 (P_2.s0 r_2) rfl rfl (Nat.le_of_ble_eq_true rfl) ?_
          obtain ⟨h_3, eh_3⟩ : ∃ hh9 : AH, hh9 = hup h_2 (cB G + 169) (eO 11 [JV (M_2 0 0 0), .ref (cB G + 170), .ref (cB G + 171), .ref (cB G + 172), .ref (cB G + 177), .ref (cB G + 178), JV (S 13 0 0), .ref (cB G + 179), .ref (cB G + 180), .ref (cB G + 181), .ref (cB G + 182), .ref (cB G + 183), .ref (cB G + 208), .ref (cB G + 209), JV (S 14 0 0), .ref (cB G + 212), JV (S 15 0 0), JV (M_2 17 0 0), .ref (cB G + 253), .ref (cB G + 254), .ref (cB G + 257), .ref (cB G + 260), .ref (cB G + 261), .ref (cB G + 264), JV (M_2 24 0 0), JV (max (M 25 0 0) ((EN (wkS S (S 6 t 0).toNat) (S 5 t 0).toNat y : Nat) : Int)), JV (M_2 26 0 0), .ref (cB G + 265), JV (M_2 28 0 0), .ref (cB G + 270), .ref (cB G + 273), .ref (cB G + 274), .ref (cB G + 275), .ref (cB G + 276), .long z]) := ⟨_, rfl⟩
          refine WP.heq eh_3 ?_
          obtain ⟨M_3, eM_3⟩ : ∃ ss9 : ST, ss9 = su M_2 25 0 0 (max (M 25 0 0) ((EN (wkS S (S 6 t 0).toNat) (S 5 t 0).toNat y : Nat) : Int)) := ⟨_, rfl⟩
          have P_3 : MP G (N) M_3 L z h_3 := by rw [eM_3]; exact P_2.sc (f := 25) (v := max (M 25 0 0) ((EN (wkS S (S 6 t 0).toNat) (S 5 t 0).toNat y : Nat) : Int)) (by decide) (eh_3.trans (by simp [cMod, su, r_2.2.2.1.1, r_2.2.2.1.2.1, r_2.2.2.1.2.2]))
          have r_3 : RS S M_3 := by rw [eM_3]; exact r_2.der (by decide)
          refine wp_iinc dX11_layEarly_119 rfl (Nat.le_of_ble_eq_true rfl) rfl ?_
          change WP G mX11_layEarly _ _ _ _ h_3 N 122 [some (.ref (cB G + 169)), some (JV ((k : Int) + 1)), some (JV (t : Int))] []
          refine wp_goto 7 dX11_layEarly_122 (by decide) ?_
          have e1 : M_3 19 0 = fup (M 19 0) t ((y : Int)) := by rw [eM_3, su_f (by decide), eM_2, su_rown (by decide), eM_1]; exact su_row
          have e2 : M_3 19 1 = fup (M 19 1) t (((EN (wkS S (S 6 t 0).toNat) (S 5 t 0).toNat y : Nat) : Int)) := by rw [eM_3, su_f (by decide), eM_2, su_row, eM_1, su_rown (by decide)]
          have e3 : M_3 25 0 0 = max (M 25 0 0) (((EN (wkS S (S 6 t 0).toNat) (S 5 t 0).toNat y : Nat) : Int)) := by rw [eM_3]; exact su_s
          refine ih (k + 1) M_3 h_3 _ (by omega) (by omega) P_3 r_3 (fun i => by rw [eM_3, su_f (by decide), eM_2, su_f (by decide), eM_1, su_f (by decide)]; exact hq i) (by rw [e1, e2, e3]; exact sv) (((fr.up eh_1 (by omega)).up eh_2 (by omega)).up eh_3 (by omega)) (fun f h1 h2 => by rw [eM_3, su_f h2, eM_2, su_f h1, eM_1, su_f h1]; exact hM f h1 h2) kk
        · exact absurd c_35 c_72
      · refine wp_aload_n dX11_layEarly_38 rfl ?_
        refine wp_get fkX11_46 dX11_layEarly_39 (P.s0 r) rfl ?_
        refine wp_iconst dX11_layEarly_42 ?_
        refine wp_aaload dX11_layEarly_43 P.q13 rfl rfl (by omega) (by omega) (by omega) (if_pos (by omega)) ?_
        change WP G mX11_layEarly _ _ _ _ h N 44 [some (.ref (cB G + 169)), some (JV (k : Int)), some (JV (t : Int))] [.ref (cB G + 210 + 0), JV (t : Int), .ref (cB G + 255 + 0)]
        refine wp_iload_n dX11_layEarly_44 rfl ?_
        refine wp_iaload dX11_layEarly_45 (P.s13a r) (by omega) (by omega) (by omega) ?_
        change WP G mX11_layEarly _ _ _ _ h N 46 [some (.ref (cB G + 169)), some (JV (k : Int)), some (JV (t : Int))] [JV (S 10 t 0), JV (t : Int), .ref (cB G + 255 + 0)]
        refine wp_goto 58 dX11_layEarly_46 (by decide) ?_
        refine wp_iastore dX11_layEarly_58 (P.r19 (i := 0) (by omega)) (by omega) (by omega) (by omega) ?_
        obtain ⟨h_1, eh_1⟩ : ∃ hh9 : AH, hh9 = hup h (cB G + 255 + 0) (eI G 24 (fup (fun j9 => M 19 0 j9) t (S 10 t 0))) := ⟨_, rfl⟩
        refine WP.heq eh_1 ?_
        obtain ⟨M_1, eM_1⟩ : ∃ ss9 : ST, ss9 = su M 19 0 t (S 10 t 0) := ⟨_, rfl⟩
        have P_1 : MP G (N) M_1 L z h_1 := by rw [eM_1]; exact P.u2 (q := (19, 254, 2, 24)) (i := 0) (j := t) (v := S 10 t 0) (by decide) (show 0 < 2 by omega) eh_1
        have r_1 : RS S M_1 := by rw [eM_1]; exact r.der (by decide)
        refine wp_aload_n dX11_layEarly_59 rfl ?_
        refine wp_get fkX11_55 dX11_layEarly_60 (P_1.s0 r_1) rfl ?_
        refine wp_iconst dX11_layEarly_63 ?_
        refine wp_aaload dX11_layEarly_64 P_1.q19 rfl rfl (by omega) (by omega) (by omega) (if_pos (by omega)) ?_
        change WP G mX11_layEarly _ _ _ _ h_1 N 65 [some (.ref (cB G + 169)), some (JV (k : Int)), some (JV (t : Int))] [.ref (cB G + 255 + 1)]
        refine wp_iload_n dX11_layEarly_65 rfl ?_
        refine wp_aload_n dX11_layEarly_66 rfl ?_
        refine wp_get fkX11_42 dX11_layEarly_67 (P_1.s0 r_1) rfl ?_
        refine wp_iload_n dX11_layEarly_70 rfl ?_
        refine wp_zaload dX11_layEarly_71 (P_1.s12 r_1) (by omega) (by omega) (by omega) ?_
        change WP G mX11_layEarly _ _ _ _ h_1 N 72 [some (.ref (cB G + 169)), some (JV (k : Int)), some (JV (t : Int))] [JV (S 9 t 0), JV (t : Int), .ref (cB G + 255 + 1)]
        refine wp_if_eq 86 dX11_layEarly_72 (by decide) ⟨by omega, by omega⟩ (fun c_72 => ?_) (fun c_72 => ?_)
        · exact absurd c_72 c_35
        · refine wp_aload_n dX11_layEarly_75 rfl ?_
          refine wp_get fkX11_46 dX11_layEarly_76 (P_1.s0 r_1) rfl ?_
          refine wp_iconst dX11_layEarly_79 ?_
          refine wp_aaload dX11_layEarly_80 P_1.q13 rfl rfl (by omega) (by omega) (by omega) (if_pos (by omega)) ?_
          change WP G mX11_layEarly _ _ _ _ h_1 N 81 [some (.ref (cB G + 169)), some (JV (k : Int)), some (JV (t : Int))] [.ref (cB G + 210 + 1), JV (t : Int), .ref (cB G + 255 + 1)]
          refine wp_iload_n dX11_layEarly_81 rfl ?_
          refine wp_iaload dX11_layEarly_82 (P_1.s13b r_1) (by omega) (by omega) (by omega) ?_
          change WP G mX11_layEarly _ _ _ _ h_1 N 83 [some (.ref (cB G + 169)), some (JV (k : Int)), some (JV (t : Int))] [JV (S 11 t 0), JV (t : Int), .ref (cB G + 255 + 1)]
          refine wp_goto 99 dX11_layEarly_83 (by decide) ?_
          refine wp_iastore dX11_layEarly_99 (P_1.r19 (i := 1) (by omega)) (by omega) (by omega) (by omega) ?_
          obtain ⟨h_2, eh_2⟩ : ∃ hh9 : AH, hh9 = hup h_1 (cB G + 255 + 1) (eI G 24 (fup (fun j9 => M_1 19 1 j9) t (S 11 t 0))) := ⟨_, rfl⟩
          refine WP.heq eh_2 ?_
          obtain ⟨M_2, eM_2⟩ : ∃ ss9 : ST, ss9 = su M_1 19 1 t (S 11 t 0) := ⟨_, rfl⟩
          have P_2 : MP G (N) M_2 L z h_2 := by rw [eM_2]; exact P_1.u2 (q := (19, 254, 2, 24)) (i := 1) (j := t) (v := S 11 t 0) (by decide) (show 1 < 2 by omega) eh_2
          have r_2 : RS S M_2 := by rw [eM_2]; exact r_1.der (by decide)
          refine wp_aload_n dX11_layEarly_100 rfl ?_
          refine wp_aload_n dX11_layEarly_101 rfl ?_
          refine wp_get fkX11_133 dX11_layEarly_102 (P_2.s0 r_2) rfl ?_
          refine wp_aload_n dX11_layEarly_105 rfl ?_
          refine wp_get fkX11_55 dX11_layEarly_106 (P_2.s0 r_2) rfl ?_
          refine wp_iconst dX11_layEarly_109 ?_
          refine wp_aaload dX11_layEarly_110 P_2.q19 rfl rfl (by omega) (by omega) (by omega) (if_pos (by omega)) ?_
          change WP G mX11_layEarly _ _ _ _ h_2 N 111 [some (.ref (cB G + 169)), some (JV (k : Int)), some (JV (t : Int))] [.ref (cB G + 255 + 1), JV (M_2 25 0 0), .ref (cB G + 169)]
          refine wp_iload_n dX11_layEarly_111 rfl ?_
          refine wp_iaload dX11_layEarly_112 (P_2.r19 (i := 1) (by omega)) (by omega) (by omega) (by omega) ?_
          change WP G mX11_layEarly _ _ _ _ h_2 N 113 [some (.ref (cB G + 169)), some (JV (k : Int)), some (JV (t : Int))] [JV (M_2 19 1 t), JV (M_2 25 0 0), .ref (cB G + 169)]
          rw [show M_2 25 0 0 = M 25 0 0 by rw [eM_2, su_f (by decide), eM_1, su_f (by decide)], show M_2 19 1 t = S 11 t 0 by rw [eM_2]; exact su_s]
          have sv := er.step w tq hkn et (v := S 10 t 0) (v2 := S 11 t 0) (⟨fun _ => ⟨rfl, rfl⟩, fun q9 => absurd q9 c_35⟩)
          have svb := sv.2.2.2.2
          refine wp_max dX11_layEarly_113 maX11_116 w_max (Nat.le_of_ble_eq_true rfl) (Nat.le_of_ble_eq_true rfl) ⟨by omega, by omega⟩ ⟨by omega, by omega⟩ ?_
          refine wp_put fkX11_133 dX11_layEarly_116 (P_2.s0 r_2) rfl rfl (Nat.le_of_ble_eq_true rfl) ?_
          obtain ⟨h_3, eh_3⟩ : ∃ hh9 : AH, hh9 = hup h_2 (cB G + 169) (eO 11 [JV (M_2 0 0 0), .ref (cB G + 170), .ref (cB G + 171), .ref (cB G + 172), .ref (cB G + 177), .ref (cB G + 178), JV (S 13 0 0), .ref (cB G + 179), .ref (cB G + 180), .ref (cB G + 181), .ref (cB G + 182), .ref (cB G + 183), .ref (cB G + 208), .ref (cB G + 209), JV (S 14 0 0), .ref (cB G + 212), JV (S 15 0 0), JV (M_2 17 0 0), .ref (cB G + 253), .ref (cB G + 254), .ref (cB G + 257), .ref (cB G + 260), .ref (cB G + 261), .ref (cB G + 264), JV (M_2 24 0 0), JV (max (M 25 0 0) (S 11 t 0)), JV (M_2 26 0 0), .ref (cB G + 265), JV (M_2 28 0 0), .ref (cB G + 270), .ref (cB G + 273), .ref (cB G + 274), .ref (cB G + 275), .ref (cB G + 276), .long z]) := ⟨_, rfl⟩
          refine WP.heq eh_3 ?_
          obtain ⟨M_3, eM_3⟩ : ∃ ss9 : ST, ss9 = su M_2 25 0 0 (max (M 25 0 0) (S 11 t 0)) := ⟨_, rfl⟩
          have P_3 : MP G (N) M_3 L z h_3 := by rw [eM_3]; exact P_2.sc (f := 25) (v := max (M 25 0 0) (S 11 t 0)) (by decide) (eh_3.trans (by simp [cMod, su, r_2.2.2.1.1, r_2.2.2.1.2.1, r_2.2.2.1.2.2]))
          have r_3 : RS S M_3 := by rw [eM_3]; exact r_2.der (by decide)
          refine wp_iinc dX11_layEarly_119 rfl (Nat.le_of_ble_eq_true rfl) rfl ?_
          change WP G mX11_layEarly _ _ _ _ h_3 N 122 [some (.ref (cB G + 169)), some (JV ((k : Int) + 1)), some (JV (t : Int))] []
          refine wp_goto 7 dX11_layEarly_122 (by decide) ?_
          have e1 : M_3 19 0 = fup (M 19 0) t (S 10 t 0) := by rw [eM_3, su_f (by decide), eM_2, su_rown (by decide), eM_1]; exact su_row
          have e2 : M_3 19 1 = fup (M 19 1) t (S 11 t 0) := by rw [eM_3, su_f (by decide), eM_2, su_row, eM_1, su_rown (by decide)]
          have e3 : M_3 25 0 0 = max (M 25 0 0) (S 11 t 0) := by rw [eM_3]; exact su_s
          refine ih (k + 1) M_3 h_3 _ (by omega) (by omega) P_3 r_3 (fun i => by rw [eM_3, su_f (by decide), eM_2, su_f (by decide), eM_1, su_f (by decide)]; exact hq i) (by rw [e1, e2, e3]; exact sv) (((fr.up eh_1 (by omega)).up eh_2 (by omega)).up eh_3 (by omega)) (fun f h1 h2 => by rw [eM_3, su_f h2, eM_2, su_f h1, eM_1, su_f h1]; exact hM f h1 h2) kk

theorem m_layEarly (P : MP G N M L z h) (r : RS S M) (w : WF S) (tq : TOQ S (fun i => M 18 i 0)) : CT G mX11_layEarly [.ref (cB G + 169)] h N 0 0 (fun r h' N' => r = none ∧ N' = N ∧ ∃ M', MP G N M' L z h' ∧ RS S M' ∧ EP S (M' 19 0) (M' 19 1) ∧ LDY S (M' 19 1) (M' 25 0 0) ∧ (∀ f, f ≠ 19 → f ≠ 25 → M' f = M f) ∧ FRM G h h') := by
  refine CT_of (by decide +kernel) rfl (by simp [Value.category]) (Nat.le_of_ble_eq_true rfl) ?_
  change WP G mX11_layEarly _ noX _ _ h N 0 [some (.ref (cB G + 169)), none, none] []
  refine wp_aload_n dX11_layEarly_0 rfl ?_
  refine wp_iconst dX11_layEarly_1 ?_
  refine wp_put fkX11_133 dX11_layEarly_2 (P.s0 r) rfl rfl (Nat.le_of_ble_eq_true rfl) ?_
  obtain ⟨h_1, eh_1⟩ : ∃ hh9 : AH, hh9 = hup h (cB G + 169) (eO 11 [JV (M 0 0 0), .ref (cB G + 170), .ref (cB G + 171), .ref (cB G + 172), .ref (cB G + 177), .ref (cB G + 178), JV (S 13 0 0), .ref (cB G + 179), .ref (cB G + 180), .ref (cB G + 181), .ref (cB G + 182), .ref (cB G + 183), .ref (cB G + 208), .ref (cB G + 209), JV (S 14 0 0), .ref (cB G + 212), JV (S 15 0 0), JV (M 17 0 0), .ref (cB G + 253), .ref (cB G + 254), .ref (cB G + 257), .ref (cB G + 260), .ref (cB G + 261), .ref (cB G + 264), JV (M 24 0 0), JV 0, JV (M 26 0 0), .ref (cB G + 265), JV (M 28 0 0), .ref (cB G + 270), .ref (cB G + 273), .ref (cB G + 274), .ref (cB G + 275), .ref (cB G + 276), .long z]) := ⟨_, rfl⟩
  refine WP.heq eh_1 ?_
  obtain ⟨M_1, eM_1⟩ : ∃ ss9 : ST, ss9 = su M 25 0 0 0 := ⟨_, rfl⟩
  have P_1 : MP G (N) M_1 L z h_1 := by rw [eM_1]; exact P.sc (f := 25) (v := 0) (by decide) (eh_1.trans (by simp [cMod, su, r.2.2.1.1, r.2.2.1.2.1, r.2.2.1.2.2]))
  have r_1 : RS S M_1 := by rw [eM_1]; exact r.der (by decide)
  refine wp_iconst dX11_layEarly_5 ?_
  refine wp_istore_n dX11_layEarly_6 (Nat.le_of_ble_eq_true rfl) rfl ?_
  change WP G mX11_layEarly _ _ _ _ h_1 N 7 [some (.ref (cB G + 169)), some (JV 0), none] []
  refine l_layEarly (h0 := h) (M0 := M) w tq _ 0 M_1 h_1 _ rfl (by have := w.nT; omega) P_1 r_1 (fun i => by rw [eM_1, su_f (by decide)]) ⟨fun i hi => absurd hi (by omega), fun i hi => absurd hi (by omega), fun i hi => absurd hi (by omega), Or.inl (by rw [eM_1]; exact su_s), by rw [eM_1, su_s]; omega⟩ (FRM.rf.up eh_1 (by omega)) (fun f h1 h2 => by rw [eM_1, su_f h2]) (fun M2 h2 P2 r2 ep ldy f2 m2 => ⟨rfl, rfl, M2, P2, r2, ep, ldy, m2, f2⟩)

end Me

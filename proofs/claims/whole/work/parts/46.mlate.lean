/-! ===== the reference: LATE ===== -/
section Mt
variable {G : Ctx} {h : AH} {N : Nat} {S M : ST} {L : Nat → Nat} {z : Int64}
def cbl (S : ST) (lb le : Nat → Int) (t : Nat) (x en : Int) : Nat → Nat → Bool
  | 0, _ => true
  | m + 1, i => if S 19 (S 18 i 0).toNat 0 = (t : Int) ∧ S 9 (S 20 (S 18 i 0).toNat 0).toNat 0 = 0 ∧ ¬ ((if S 21 (S 18 i 0).toNat 0 = 1 then x else en) + S 22 (S 18 i 0).toNat 0 ≤ (if S 21 (S 18 i 0).toNat 0 ≤ 1 then lb (S 20 (S 18 i 0).toNat 0).toNat else le (S 20 (S 18 i 0).toNat 0).toNat)) then false else cbl S lb le t x en m (i + 1)
theorem cbl_iff {lb le : Nat → Int} {t : Nat} {x en : Int} : ∀ (m i : Nat), cbl S lb le t x en m i = true ↔ ∀ j, i ≤ j → j < i + m → lF S j = (t : Int) → S 9 (lT S j).toNat 0 = 0 → (if lK S j = 1 then x else en) + lG S j ≤ (if lK S j ≤ 1 then lb (lT S j).toNat else le (lT S j).toNat)
  | 0, i => ⟨fun _ j h1 h2 => by omega, fun _ => rfl⟩
  | m + 1, i => by
    rw [cbl]
    by_cases h : S 19 (S 18 i 0).toNat 0 = (t : Int) ∧ S 9 (S 20 (S 18 i 0).toNat 0).toNat 0 = 0 ∧ ¬ ((if S 21 (S 18 i 0).toNat 0 = 1 then x else en) + S 22 (S 18 i 0).toNat 0 ≤ (if S 21 (S 18 i 0).toNat 0 ≤ 1 then lb (S 20 (S 18 i 0).toNat 0).toNat else le (S 20 (S 18 i 0).toNat 0).toNat))
    · rw [if_pos h]
      exact ⟨fun q => (by cases q), fun q => absurd (q i (Nat.le_refl _) (by omega) h.1 h.2.1) h.2.2⟩
    · rw [if_neg h, cbl_iff m (i + 1)]
      constructor
      · intro q j h1 h2 h3 h4
        by_cases hj : j = i
        · subst hj
          exact Classical.byContradiction fun c => h ⟨h3, h4, c⟩
        · exact q j (by omega) (by omega) h3 h4
      · intro q j h1 h2
        exact q j (by omega) (by omega)
def canB (S : ST) (lb le : Nat → Int) (ld : Int) (t x : Nat) : Bool := (decide (S 5 t 0 = 0) || wkS S (S 6 t 0).toNat x) && (decide ((EN (wkS S (S 6 t 0).toNat) (S 5 t 0).toNat x : Int) ≤ ld) && cbl S lb le t (x : Int) (EN (wkS S (S 6 t 0).toNat) (S 5 t 0).toNat x : Int) (S 14 0 0).toNat 0)
theorem canB_iff (w : WF S) {lb le : Nat → Int} {ld : Int} {t x : Nat} (ht : t < 24) : canB S lb le ld t x = true ↔ ((S 5 t 0).toNat = 0 ∨ wkS S (S 6 t 0).toNat x = true) ∧ LTP S lb le ld t x := by
  have wt := w.task ht
  have wL := w.nL
  unfold canB LTP
  rw [Bool.and_eq_true, Bool.or_eq_true, Bool.and_eq_true, decide_eq_true_eq, decide_eq_true_eq, cbl_iff]
  have e : S 5 t 0 = 0 ↔ (S 5 t 0).toNat = 0 := by omega
  rw [e]
  refine and_congr_right fun _ => and_congr_right fun _ => ⟨fun q j h1 h2 h3 => q j (Nat.zero_le _) (by omega) h2 h3, fun q j _ h1 h2 h3 => q j (by omega) h2 h3⟩
theorem l_canBeLate {Q : PQ} {X : PX} {k9 n9 : Nat} (P : MP G N M L z h) (r : RS S M) (w : WF S) {t b : Nat} (ht : t < 24) (hb : b ≤ 6000) (hld : 0 ≤ M 25 0 0 ∧ M 25 0 0 ≤ 6000) (hs : ∀ j : Nat, (j : Int) < S 14 0 0 → lF S j = (t : Int) → S 9 (lT S j).toNat 0 = 0 → (0 ≤ M 20 0 (lT S j).toNat ∧ M 20 0 (lT S j).toNat ≤ 6000) ∧ 0 ≤ M 20 1 (lT S j).toNat ∧ M 20 1 (lT S j).toNat ≤ 6000) : ∀ (m : Nat) (i : Nat) (x5 x6 : Option Value), ((S 14 0 0).toNat - i = m) → (i ≤ 40) → (Q (some (JV (bI (cbl S (M 20 0) (M 20 1) t (b : Int) (EN (wkS S (S 6 t 0).toNat) (S 5 t 0).toNat b : Int) m i)))) h N) → WP G mX11_canBeLate Q X k9 n9 h N 45 [some (.ref (cB G + 169)), some (JV (t : Int)), some (JV (b : Int)), some (JV ((EN (wkS S (S 6 t 0).toNat) (S 5 t 0).toNat b : Nat) : Int)), some (JV (i : Int)), x5, x6] [] := by
  intro m
  induction m with
  | zero =>
    intro i x5 x6 hm hi kk
    have wL := w.nL
    have wt := w.task ht
    have k9 := wkS_WK w (c := (S 6 t 0).toNat) (by omega)
    have eb := EN_r k9 (l := (S 5 t 0).toNat) (b := b) (by omega) (by omega)
    refine wp_iload dX11_canBeLate_45 rfl ?_
    refine wp_aload_n dX11_canBeLate_47 rfl ?_
    refine wp_get fkX11_99 dX11_canBeLate_48 (P.s0 r) rfl ?_
    refine wp_icmp_ge 168 dX11_canBeLate_51 (by decide) ⟨by omega, by omega⟩ ⟨by omega, by omega⟩ (fun c_51 => ?_) (fun c_51 => ?_)
    · refine wp_iconst dX11_canBeLate_168 ?_
      refine wp_zret dX11_canBeLate_169 rfl (by omega) ?_
      exact kk
    · exact absurd c_51 (by omega)
  | succ m ih =>
    intro i x5 x6 hm hi kk
    have wL := w.nL
    have wt := w.task ht
    have k9 := wkS_WK w (c := (S 6 t 0).toNat) (by omega)
    have eb := EN_r k9 (l := (S 5 t 0).toNat) (b := b) (by omega) (by omega)
    refine wp_iload dX11_canBeLate_45 rfl ?_
    refine wp_aload_n dX11_canBeLate_47 rfl ?_
    refine wp_get fkX11_99 dX11_canBeLate_48 (P.s0 r) rfl ?_
    refine wp_icmp_ge 168 dX11_canBeLate_51 (by decide) ⟨by omega, by omega⟩ ⟨by omega, by omega⟩ (fun c_51 => ?_) (fun c_51 => ?_)
    · exact absurd c_51 (by omega)
    · have wi := w.at (i := i) (by omega)
      have w9 := w.task (t := (S 20 (S 18 i 0).toNat 0).toNat) (by omega)
      refine wp_aload_n dX11_canBeLate_54 rfl ?_
      refine wp_get fkX11_49 dX11_canBeLate_55 (P.s0 r) rfl ?_
      refine wp_iload dX11_canBeLate_58 rfl ?_
      refine wp_aaload dX11_canBeLate_60 P.qL rfl rfl (by omega) (by omega) (by omega) (if_pos (by omega)) ?_
      change WP G mX11_canBeLate _ _ _ _ h N 61 [some (.ref (cB G + 169)), some (JV (t : Int)), some (JV (b : Int)), some (JV ((EN (wkS S (S 6 t 0).toNat) (S 5 t 0).toNat b : Nat) : Int)), some (JV (i : Int)), x5, x6] [.ref (L i)]
      refine wp_iconst dX11_canBeLate_61 ?_
      refine wp_iaload dX11_canBeLate_62 (P.rL (i := i) (by omega)) (by omega) (by omega) (by omega) ?_
      change WP G mX11_canBeLate _ _ _ _ h N 63 [some (.ref (cB G + 169)), some (JV (t : Int)), some (JV (b : Int)), some (JV ((EN (wkS S (S 6 t 0).toNat) (S 5 t 0).toNat b : Nat) : Int)), some (JV (i : Int)), x5, x6] [JV (M 15 i 1)]
      rw [r.lT (by omega)]
      refine wp_istore dX11_canBeLate_63 (Nat.le_of_ble_eq_true rfl) rfl ?_
      change WP G mX11_canBeLate _ _ _ _ h N 65 [some (.ref (cB G + 169)), some (JV (t : Int)), some (JV (b : Int)), some (JV ((EN (wkS S (S 6 t 0).toNat) (S 5 t 0).toNat b : Nat) : Int)), some (JV (i : Int)), some (JV (S 20 (S 18 i 0).toNat 0)), x6] []
      refine wp_aload_n dX11_canBeLate_65 rfl ?_
      refine wp_get fkX11_49 dX11_canBeLate_66 (P.s0 r) rfl ?_
      refine wp_iload dX11_canBeLate_69 rfl ?_
      refine wp_aaload dX11_canBeLate_71 P.qL rfl rfl (by omega) (by omega) (by omega) (if_pos (by omega)) ?_
      change WP G mX11_canBeLate _ _ _ _ h N 72 [some (.ref (cB G + 169)), some (JV (t : Int)), some (JV (b : Int)), some (JV ((EN (wkS S (S 6 t 0).toNat) (S 5 t 0).toNat b : Nat) : Int)), some (JV (i : Int)), some (JV (S 20 (S 18 i 0).toNat 0)), x6] [.ref (L i)]
      refine wp_iconst dX11_canBeLate_72 ?_
      refine wp_iaload dX11_canBeLate_73 (P.rL (i := i) (by omega)) (by omega) (by omega) (by omega) ?_
      change WP G mX11_canBeLate _ _ _ _ h N 74 [some (.ref (cB G + 169)), some (JV (t : Int)), some (JV (b : Int)), some (JV ((EN (wkS S (S 6 t 0).toNat) (S 5 t 0).toNat b : Nat) : Int)), some (JV (i : Int)), some (JV (S 20 (S 18 i 0).toNat 0)), x6] [JV (M 15 i 0)]
      rw [r.lF (by omega)]
      refine wp_iload_n dX11_canBeLate_74 rfl ?_
      refine wp_icmp_ne 162 dX11_canBeLate_75 (by decide) ⟨by omega, by omega⟩ ⟨by omega, by omega⟩ (fun c_75 => ?_) (fun c_75 => ?_)
      · refine wp_iinc dX11_canBeLate_162 rfl (Nat.le_of_ble_eq_true rfl) rfl ?_
        change WP G mX11_canBeLate _ _ _ _ h N 165 [some (.ref (cB G + 169)), some (JV (t : Int)), some (JV (b : Int)), some (JV ((EN (wkS S (S 6 t 0).toNat) (S 5 t 0).toNat b : Nat) : Int)), some (JV ((i : Int) + 1)), some (JV (S 20 (S 18 i 0).toNat 0)), x6] []
        refine wp_goto 45 dX11_canBeLate_165 (by decide) ?_
        rw [cbl, if_neg (fun q => c_75 q.1)] at kk
        exact ih (i + 1) _ _ (by omega) (by omega) kk
      · refine wp_aload_n dX11_canBeLate_78 rfl ?_
        refine wp_get fkX11_42 dX11_canBeLate_79 (P.s0 r) rfl ?_
        refine wp_iload dX11_canBeLate_82 rfl ?_
        refine wp_zaload dX11_canBeLate_84 (P.s12 r) (by omega) (by omega) (by omega) ?_
        refine wp_if_eq 91 dX11_canBeLate_85 (by decide) ⟨by omega, by omega⟩ (fun c_85 => ?_) (fun c_85 => ?_)
        · have hsi : (0 ≤ M 20 0 (S 20 (S 18 i 0).toNat 0).toNat ∧ M 20 0 (S 20 (S 18 i 0).toNat 0).toNat ≤ 6000) ∧ 0 ≤ M 20 1 (S 20 (S 18 i 0).toNat 0).toNat ∧ M 20 1 (S 20 (S 18 i 0).toNat 0).toNat ≤ 6000 := hs i (by omega) c_75 c_85
          refine wp_aload_n dX11_canBeLate_91 rfl ?_
          refine wp_get fkX11_49 dX11_canBeLate_92 (P.s0 r) rfl ?_
          refine wp_iload dX11_canBeLate_95 rfl ?_
          refine wp_aaload dX11_canBeLate_97 P.qL rfl rfl (by omega) (by omega) (by omega) (if_pos (by omega)) ?_
          change WP G mX11_canBeLate _ _ _ _ h N 98 [some (.ref (cB G + 169)), some (JV (t : Int)), some (JV (b : Int)), some (JV ((EN (wkS S (S 6 t 0).toNat) (S 5 t 0).toNat b : Nat) : Int)), some (JV (i : Int)), some (JV (S 20 (S 18 i 0).toNat 0)), x6] [.ref (L i)]
          refine wp_iconst dX11_canBeLate_98 ?_
          refine wp_iaload dX11_canBeLate_99 (P.rL (i := i) (by omega)) (by omega) (by omega) (by omega) ?_
          change WP G mX11_canBeLate _ _ _ _ h N 100 [some (.ref (cB G + 169)), some (JV (t : Int)), some (JV (b : Int)), some (JV ((EN (wkS S (S 6 t 0).toNat) (S 5 t 0).toNat b : Nat) : Int)), some (JV (i : Int)), some (JV (S 20 (S 18 i 0).toNat 0)), x6] [JV (M 15 i 3)]
          rw [r.lG (by omega)]
          refine wp_aload_n dX11_canBeLate_100 rfl ?_
          refine wp_get fkX11_49 dX11_canBeLate_101 (P.s0 r) rfl ?_
          refine wp_iload dX11_canBeLate_104 rfl ?_
          refine wp_aaload dX11_canBeLate_106 P.qL rfl rfl (by omega) (by omega) (by omega) (if_pos (by omega)) ?_
          change WP G mX11_canBeLate _ _ _ _ h N 107 [some (.ref (cB G + 169)), some (JV (t : Int)), some (JV (b : Int)), some (JV ((EN (wkS S (S 6 t 0).toNat) (S 5 t 0).toNat b : Nat) : Int)), some (JV (i : Int)), some (JV (S 20 (S 18 i 0).toNat 0)), x6] [.ref (L i), JV (S 22 (S 18 i 0).toNat 0)]
          refine wp_iconst dX11_canBeLate_107 ?_
          refine wp_iaload dX11_canBeLate_108 (P.rL (i := i) (by omega)) (by omega) (by omega) (by omega) ?_
          change WP G mX11_canBeLate _ _ _ _ h N 109 [some (.ref (cB G + 169)), some (JV (t : Int)), some (JV (b : Int)), some (JV ((EN (wkS S (S 6 t 0).toNat) (S 5 t 0).toNat b : Nat) : Int)), some (JV (i : Int)), some (JV (S 20 (S 18 i 0).toNat 0)), x6] [JV (M 15 i 2), JV (S 22 (S 18 i 0).toNat 0)]
          rw [r.lK (by omega)]
          refine wp_iconst dX11_canBeLate_109 ?_
          refine wp_icmp_ne 117 dX11_canBeLate_110 (by decide) ⟨by omega, by omega⟩ ⟨by omega, by omega⟩ (fun c_110 => ?_) (fun c_110 => ?_)
          · refine wp_iload_n dX11_canBeLate_117 rfl ?_
            refine wp_iadd dX11_canBeLate_118 ?_
            refine wp_istore dX11_canBeLate_119 (Nat.le_of_ble_eq_true rfl) rfl ?_
            change WP G mX11_canBeLate _ _ _ _ h N 121 [some (.ref (cB G + 169)), some (JV (t : Int)), some (JV (b : Int)), some (JV ((EN (wkS S (S 6 t 0).toNat) (S 5 t 0).toNat b : Nat) : Int)), some (JV (i : Int)), some (JV (S 20 (S 18 i 0).toNat 0)), some (JV ((S 22 (S 18 i 0).toNat 0) + ((EN (wkS S (S 6 t 0).toNat) (S 5 t 0).toNat b : Nat) : Int)))] []
            refine wp_iload dX11_canBeLate_121 rfl ?_
            refine wp_aload_n dX11_canBeLate_123 rfl ?_
            refine wp_get fkX11_49 dX11_canBeLate_124 (P.s0 r) rfl ?_
            refine wp_iload dX11_canBeLate_127 rfl ?_
            refine wp_aaload dX11_canBeLate_129 P.qL rfl rfl (by omega) (by omega) (by omega) (if_pos (by omega)) ?_
            change WP G mX11_canBeLate _ _ _ _ h N 130 [some (.ref (cB G + 169)), some (JV (t : Int)), some (JV (b : Int)), some (JV ((EN (wkS S (S 6 t 0).toNat) (S 5 t 0).toNat b : Nat) : Int)), some (JV (i : Int)), some (JV (S 20 (S 18 i 0).toNat 0)), some (JV ((S 22 (S 18 i 0).toNat 0) + ((EN (wkS S (S 6 t 0).toNat) (S 5 t 0).toNat b : Nat) : Int)))] [.ref (L i), JV ((S 22 (S 18 i 0).toNat 0) + ((EN (wkS S (S 6 t 0).toNat) (S 5 t 0).toNat b : Nat) : Int))]
            refine wp_iconst dX11_canBeLate_130 ?_
            refine wp_iaload dX11_canBeLate_131 (P.rL (i := i) (by omega)) (by omega) (by omega) (by omega) ?_
            change WP G mX11_canBeLate _ _ _ _ h N 132 [some (.ref (cB G + 169)), some (JV (t : Int)), some (JV (b : Int)), some (JV ((EN (wkS S (S 6 t 0).toNat) (S 5 t 0).toNat b : Nat) : Int)), some (JV (i : Int)), some (JV (S 20 (S 18 i 0).toNat 0)), some (JV ((S 22 (S 18 i 0).toNat 0) + ((EN (wkS S (S 6 t 0).toNat) (S 5 t 0).toNat b : Nat) : Int)))] [JV (M 15 i 2), JV ((S 22 (S 18 i 0).toNat 0) + ((EN (wkS S (S 6 t 0).toNat) (S 5 t 0).toNat b : Nat) : Int))]
            rw [r.lK (by omega)]
            refine wp_iconst dX11_canBeLate_132 ?_
            refine wp_icmp_gt 148 dX11_canBeLate_133 (by decide) ⟨by omega, by omega⟩ ⟨by omega, by omega⟩ (fun c_133 => ?_) (fun c_133 => ?_)
            · refine wp_aload_n dX11_canBeLate_148 rfl ?_
              refine wp_get fkX11_58 dX11_canBeLate_149 (P.s0 r) rfl ?_
              refine wp_iconst dX11_canBeLate_152 ?_
              refine wp_aaload dX11_canBeLate_153 P.q20 rfl rfl (by omega) (by omega) (by omega) (if_pos (by omega)) ?_
              change WP G mX11_canBeLate _ _ _ _ h N 154 [some (.ref (cB G + 169)), some (JV (t : Int)), some (JV (b : Int)), some (JV ((EN (wkS S (S 6 t 0).toNat) (S 5 t 0).toNat b : Nat) : Int)), some (JV (i : Int)), some (JV (S 20 (S 18 i 0).toNat 0)), some (JV ((S 22 (S 18 i 0).toNat 0) + ((EN (wkS S (S 6 t 0).toNat) (S 5 t 0).toNat b : Nat) : Int)))] [.ref (cB G + 258 + 1), JV ((S 22 (S 18 i 0).toNat 0) + ((EN (wkS S (S 6 t 0).toNat) (S 5 t 0).toNat b : Nat) : Int))]
              refine wp_iload dX11_canBeLate_154 rfl ?_
              refine wp_iaload dX11_canBeLate_156 (P.r20 (i := 1) (by omega)) (by omega) (by omega) (by omega) ?_
              refine wp_icmp_le 162 dX11_canBeLate_157 (by decide) ⟨by omega, by omega⟩ ⟨by omega, by omega⟩ (fun c_157 => ?_) (fun c_157 => ?_)
              · refine wp_iinc dX11_canBeLate_162 rfl (Nat.le_of_ble_eq_true rfl) rfl ?_
                change WP G mX11_canBeLate _ _ _ _ h N 165 [some (.ref (cB G + 169)), some (JV (t : Int)), some (JV (b : Int)), some (JV ((EN (wkS S (S 6 t 0).toNat) (S 5 t 0).toNat b : Nat) : Int)), some (JV ((i : Int) + 1)), some (JV (S 20 (S 18 i 0).toNat 0)), some (JV ((S 22 (S 18 i 0).toNat 0) + ((EN (wkS S (S 6 t 0).toNat) (S 5 t 0).toNat b : Nat) : Int)))] []
                refine wp_goto 45 dX11_canBeLate_165 (by decide) ?_
                rw [cbl, if_neg (fun q => q.2.2 (by rw [if_neg (by omega), if_neg (by omega)]; omega))] at kk
                exact ih (i + 1) _ _ (by omega) (by omega) kk
              · rw [cbl, if_pos ⟨c_75, c_85, fun q => by rw [if_neg (by omega), if_neg (by omega)] at q; omega⟩] at kk
                refine wp_iconst dX11_canBeLate_160 ?_
                refine wp_zret dX11_canBeLate_161 rfl (by omega) ?_
                exact kk
            · refine wp_aload_n dX11_canBeLate_136 rfl ?_
              refine wp_get fkX11_58 dX11_canBeLate_137 (P.s0 r) rfl ?_
              refine wp_iconst dX11_canBeLate_140 ?_
              refine wp_aaload dX11_canBeLate_141 P.q20 rfl rfl (by omega) (by omega) (by omega) (if_pos (by omega)) ?_
              change WP G mX11_canBeLate _ _ _ _ h N 142 [some (.ref (cB G + 169)), some (JV (t : Int)), some (JV (b : Int)), some (JV ((EN (wkS S (S 6 t 0).toNat) (S 5 t 0).toNat b : Nat) : Int)), some (JV (i : Int)), some (JV (S 20 (S 18 i 0).toNat 0)), some (JV ((S 22 (S 18 i 0).toNat 0) + ((EN (wkS S (S 6 t 0).toNat) (S 5 t 0).toNat b : Nat) : Int)))] [.ref (cB G + 258 + 0), JV ((S 22 (S 18 i 0).toNat 0) + ((EN (wkS S (S 6 t 0).toNat) (S 5 t 0).toNat b : Nat) : Int))]
              refine wp_iload dX11_canBeLate_142 rfl ?_
              refine wp_iaload dX11_canBeLate_144 (P.r20 (i := 0) (by omega)) (by omega) (by omega) (by omega) ?_
              refine wp_goto 157 dX11_canBeLate_145 (by decide) ?_
              refine wp_icmp_le 162 dX11_canBeLate_157 (by decide) ⟨by omega, by omega⟩ ⟨by omega, by omega⟩ (fun c_157 => ?_) (fun c_157 => ?_)
              · refine wp_iinc dX11_canBeLate_162 rfl (Nat.le_of_ble_eq_true rfl) rfl ?_
                change WP G mX11_canBeLate _ _ _ _ h N 165 [some (.ref (cB G + 169)), some (JV (t : Int)), some (JV (b : Int)), some (JV ((EN (wkS S (S 6 t 0).toNat) (S 5 t 0).toNat b : Nat) : Int)), some (JV ((i : Int) + 1)), some (JV (S 20 (S 18 i 0).toNat 0)), some (JV ((S 22 (S 18 i 0).toNat 0) + ((EN (wkS S (S 6 t 0).toNat) (S 5 t 0).toNat b : Nat) : Int)))] []
                refine wp_goto 45 dX11_canBeLate_165 (by decide) ?_
                rw [cbl, if_neg (fun q => q.2.2 (by rw [if_neg (by omega), if_pos (by omega)]; omega))] at kk
                exact ih (i + 1) _ _ (by omega) (by omega) kk
              · rw [cbl, if_pos ⟨c_75, c_85, fun q => by rw [if_neg (by omega), if_pos (by omega)] at q; omega⟩] at kk
                refine wp_iconst dX11_canBeLate_160 ?_
                refine wp_zret dX11_canBeLate_161 rfl (by omega) ?_
                exact kk
          · refine wp_iload_n dX11_canBeLate_113 rfl ?_
            refine wp_goto 118 dX11_canBeLate_114 (by decide) ?_
            refine wp_iadd dX11_canBeLate_118 ?_
            refine wp_istore dX11_canBeLate_119 (Nat.le_of_ble_eq_true rfl) rfl ?_
            change WP G mX11_canBeLate _ _ _ _ h N 121 [some (.ref (cB G + 169)), some (JV (t : Int)), some (JV (b : Int)), some (JV ((EN (wkS S (S 6 t 0).toNat) (S 5 t 0).toNat b : Nat) : Int)), some (JV (i : Int)), some (JV (S 20 (S 18 i 0).toNat 0)), some (JV ((S 22 (S 18 i 0).toNat 0) + (b : Int)))] []
            refine wp_iload dX11_canBeLate_121 rfl ?_
            refine wp_aload_n dX11_canBeLate_123 rfl ?_
            refine wp_get fkX11_49 dX11_canBeLate_124 (P.s0 r) rfl ?_
            refine wp_iload dX11_canBeLate_127 rfl ?_
            refine wp_aaload dX11_canBeLate_129 P.qL rfl rfl (by omega) (by omega) (by omega) (if_pos (by omega)) ?_
            change WP G mX11_canBeLate _ _ _ _ h N 130 [some (.ref (cB G + 169)), some (JV (t : Int)), some (JV (b : Int)), some (JV ((EN (wkS S (S 6 t 0).toNat) (S 5 t 0).toNat b : Nat) : Int)), some (JV (i : Int)), some (JV (S 20 (S 18 i 0).toNat 0)), some (JV ((S 22 (S 18 i 0).toNat 0) + (b : Int)))] [.ref (L i), JV ((S 22 (S 18 i 0).toNat 0) + (b : Int))]
            refine wp_iconst dX11_canBeLate_130 ?_
            refine wp_iaload dX11_canBeLate_131 (P.rL (i := i) (by omega)) (by omega) (by omega) (by omega) ?_
            change WP G mX11_canBeLate _ _ _ _ h N 132 [some (.ref (cB G + 169)), some (JV (t : Int)), some (JV (b : Int)), some (JV ((EN (wkS S (S 6 t 0).toNat) (S 5 t 0).toNat b : Nat) : Int)), some (JV (i : Int)), some (JV (S 20 (S 18 i 0).toNat 0)), some (JV ((S 22 (S 18 i 0).toNat 0) + (b : Int)))] [JV (M 15 i 2), JV ((S 22 (S 18 i 0).toNat 0) + (b : Int))]
            rw [r.lK (by omega)]
            refine wp_iconst dX11_canBeLate_132 ?_
            refine wp_icmp_gt 148 dX11_canBeLate_133 (by decide) ⟨by omega, by omega⟩ ⟨by omega, by omega⟩ (fun c_133 => ?_) (fun c_133 => ?_)
            · refine wp_aload_n dX11_canBeLate_148 rfl ?_
              refine wp_get fkX11_58 dX11_canBeLate_149 (P.s0 r) rfl ?_
              refine wp_iconst dX11_canBeLate_152 ?_
              refine wp_aaload dX11_canBeLate_153 P.q20 rfl rfl (by omega) (by omega) (by omega) (if_pos (by omega)) ?_
              change WP G mX11_canBeLate _ _ _ _ h N 154 [some (.ref (cB G + 169)), some (JV (t : Int)), some (JV (b : Int)), some (JV ((EN (wkS S (S 6 t 0).toNat) (S 5 t 0).toNat b : Nat) : Int)), some (JV (i : Int)), some (JV (S 20 (S 18 i 0).toNat 0)), some (JV ((S 22 (S 18 i 0).toNat 0) + (b : Int)))] [.ref (cB G + 258 + 1), JV ((S 22 (S 18 i 0).toNat 0) + (b : Int))]
              refine wp_iload dX11_canBeLate_154 rfl ?_
              refine wp_iaload dX11_canBeLate_156 (P.r20 (i := 1) (by omega)) (by omega) (by omega) (by omega) ?_
              refine wp_icmp_le 162 dX11_canBeLate_157 (by decide) ⟨by omega, by omega⟩ ⟨by omega, by omega⟩ (fun c_157 => ?_) (fun c_157 => ?_)
              · refine wp_iinc dX11_canBeLate_162 rfl (Nat.le_of_ble_eq_true rfl) rfl ?_
                change WP G mX11_canBeLate _ _ _ _ h N 165 [some (.ref (cB G + 169)), some (JV (t : Int)), some (JV (b : Int)), some (JV ((EN (wkS S (S 6 t 0).toNat) (S 5 t 0).toNat b : Nat) : Int)), some (JV ((i : Int) + 1)), some (JV (S 20 (S 18 i 0).toNat 0)), some (JV ((S 22 (S 18 i 0).toNat 0) + (b : Int)))] []
                refine wp_goto 45 dX11_canBeLate_165 (by decide) ?_
                rw [cbl, if_neg (fun q => q.2.2 (by rw [if_pos (by omega), if_neg (by omega)]; omega))] at kk
                exact ih (i + 1) _ _ (by omega) (by omega) kk
              · rw [cbl, if_pos ⟨c_75, c_85, fun q => by rw [if_pos (by omega), if_neg (by omega)] at q; omega⟩] at kk
                refine wp_iconst dX11_canBeLate_160 ?_
                refine wp_zret dX11_canBeLate_161 rfl (by omega) ?_
                exact kk
            · refine wp_aload_n dX11_canBeLate_136 rfl ?_
              refine wp_get fkX11_58 dX11_canBeLate_137 (P.s0 r) rfl ?_
              refine wp_iconst dX11_canBeLate_140 ?_
              refine wp_aaload dX11_canBeLate_141 P.q20 rfl rfl (by omega) (by omega) (by omega) (if_pos (by omega)) ?_
              change WP G mX11_canBeLate _ _ _ _ h N 142 [some (.ref (cB G + 169)), some (JV (t : Int)), some (JV (b : Int)), some (JV ((EN (wkS S (S 6 t 0).toNat) (S 5 t 0).toNat b : Nat) : Int)), some (JV (i : Int)), some (JV (S 20 (S 18 i 0).toNat 0)), some (JV ((S 22 (S 18 i 0).toNat 0) + (b : Int)))] [.ref (cB G + 258 + 0), JV ((S 22 (S 18 i 0).toNat 0) + (b : Int))]
              refine wp_iload dX11_canBeLate_142 rfl ?_
              refine wp_iaload dX11_canBeLate_144 (P.r20 (i := 0) (by omega)) (by omega) (by omega) (by omega) ?_
              refine wp_goto 157 dX11_canBeLate_145 (by decide) ?_
              refine wp_icmp_le 162 dX11_canBeLate_157 (by decide) ⟨by omega, by omega⟩ ⟨by omega, by omega⟩ (fun c_157 => ?_) (fun c_157 => ?_)
              · refine wp_iinc dX11_canBeLate_162 rfl (Nat.le_of_ble_eq_true rfl) rfl ?_
                change WP G mX11_canBeLate _ _ _ _ h N 165 [some (.ref (cB G + 169)), some (JV (t : Int)), some (JV (b : Int)), some (JV ((EN (wkS S (S 6 t 0).toNat) (S 5 t 0).toNat b : Nat) : Int)), some (JV ((i : Int) + 1)), some (JV (S 20 (S 18 i 0).toNat 0)), some (JV ((S 22 (S 18 i 0).toNat 0) + (b : Int)))] []
                refine wp_goto 45 dX11_canBeLate_165 (by decide) ?_
                rw [cbl, if_neg (fun q => q.2.2 (by rw [if_pos (by omega), if_pos (by omega)]; omega))] at kk
                exact ih (i + 1) _ _ (by omega) (by omega) kk
              · rw [cbl, if_pos ⟨c_75, c_85, fun q => by rw [if_pos (by omega), if_pos (by omega)] at q; omega⟩] at kk
                refine wp_iconst dX11_canBeLate_160 ?_
                refine wp_zret dX11_canBeLate_161 rfl (by omega) ?_
                exact kk
        · refine wp_goto 162 dX11_canBeLate_88 (by decide) ?_
          refine wp_iinc dX11_canBeLate_162 rfl (Nat.le_of_ble_eq_true rfl) rfl ?_
          change WP G mX11_canBeLate _ _ _ _ h N 165 [some (.ref (cB G + 169)), some (JV (t : Int)), some (JV (b : Int)), some (JV ((EN (wkS S (S 6 t 0).toNat) (S 5 t 0).toNat b : Nat) : Int)), some (JV ((i : Int) + 1)), some (JV (S 20 (S 18 i 0).toNat 0)), x6] []
          refine wp_goto 45 dX11_canBeLate_165 (by decide) ?_
          rw [cbl, if_neg (fun q => c_85 q.2.1)] at kk
          exact ih (i + 1) _ _ (by omega) (by omega) kk

theorem m_canBeLate (P : MP G N M L z h) (r : RS S M) (w : WF S) {t b : Nat} (ht : t < 24) (hb : b ≤ 6000) (hld : 0 ≤ M 25 0 0 ∧ M 25 0 0 ≤ 6000) (hs : ∀ j : Nat, (j : Int) < S 14 0 0 → lF S j = (t : Int) → S 9 (lT S j).toNat 0 = 0 → (0 ≤ M 20 0 (lT S j).toNat ∧ M 20 0 (lT S j).toNat ≤ 6000) ∧ 0 ≤ M 20 1 (lT S j).toNat ∧ M 20 1 (lT S j).toNat ≤ 6000) : CT G mX11_canBeLate [.ref (cB G + 169), JV (t : Int), JV (b : Int)] h N 0 0 (PV (JV (bI (canB S (M 20 0) (M 20 1) (M 25 0 0) t b))) h N) := by
  refine CT_of (by decide +kernel) rfl (by simp [Value.category]) (Nat.le_of_ble_eq_true rfl) ?_
  change WP G mX11_canBeLate _ noX _ _ h N 0 [some (.ref (cB G + 169)), some (JV (t : Int)), some (JV (b : Int)), none, none, none, none] []
  have wL := w.nL
  have wt := w.task ht
  have k9 := wkS_WK w (c := (S 6 t 0).toNat) (by omega)
  have eb := EN_r k9 (l := (S 5 t 0).toNat) (b := b) (by omega) (by omega)
  refine wp_aload_n dX11_canBeLate_0 rfl ?_
  refine wp_get fkX11_27 dX11_canBeLate_1 (P.s0 r) rfl ?_
  refine wp_iload_n dX11_canBeLate_4 rfl ?_
  refine wp_iaload dX11_canBeLate_5 (P.s7 r) (by omega) (by omega) (by omega) ?_
  change WP G mX11_canBeLate _ _ _ _ h N 6 [some (.ref (cB G + 169)), some (JV (t : Int)), some (JV (b : Int)), none, none, none, none] [JV (S 5 t 0)]
  refine wp_if_le 25 dX11_canBeLate_6 (by decide) ⟨by omega, by omega⟩ (fun c_6 => ?_) (fun c_6 => ?_)
  · refine wp_aload_n dX11_canBeLate_25 rfl ?_
    refine wp_iload_n dX11_canBeLate_26 rfl ?_
    refine wp_iload_n dX11_canBeLate_27 rfl ?_
    refine wp_v2p (m_endOf (N := N) P r w (t := t) (b := b) ht (by omega)) cvX11_113 dX11_canBeLate_28 ⟨Nat.le_of_ble_eq_true rfl, Nat.le_of_ble_eq_true rfl⟩ (Nat.le_of_ble_eq_true rfl) (P.s0 r) rfl rfl ?_
    refine wp_istore_n dX11_canBeLate_31 (Nat.le_of_ble_eq_true rfl) rfl ?_
    change WP G mX11_canBeLate _ _ _ _ h N 32 [some (.ref (cB G + 169)), some (JV (t : Int)), some (JV (b : Int)), some (JV ((EN (wkS S (S 6 t 0).toNat) (S 5 t 0).toNat b : Nat) : Int)), none, none, none] []
    refine wp_iload_n dX11_canBeLate_32 rfl ?_
    refine wp_aload_n dX11_canBeLate_33 rfl ?_
    refine wp_get fkX11_133 dX11_canBeLate_34 (P.s0 r) rfl ?_
    refine wp_icmp_le 42 dX11_canBeLate_37 (by decide) ⟨by omega, by omega⟩ ⟨by omega, by omega⟩ (fun c_37 => ?_) (fun c_37 => ?_)
    · refine wp_iconst dX11_canBeLate_42 ?_
      refine wp_istore dX11_canBeLate_43 (Nat.le_of_ble_eq_true rfl) rfl ?_
      change WP G mX11_canBeLate _ _ _ _ h N 45 [some (.ref (cB G + 169)), some (JV (t : Int)), some (JV (b : Int)), some (JV ((EN (wkS S (S 6 t 0).toNat) (S 5 t 0).toNat b : Nat) : Int)), some (JV 0), none, none] []
      refine l_canBeLate P r w ht hb hld hs _ 0 _ _ rfl (by omega) ⟨?_, rfl, rfl⟩
      unfold canB
      rw [decide_eq_true (show S 5 t 0 = 0 by omega), Bool.true_or, Bool.true_and]
      rw [decide_eq_true (show (EN (wkS S (S 6 t 0).toNat) (S 5 t 0).toNat b : Int) ≤ M 25 0 0 by omega), Bool.true_and]
      rfl
    · refine wp_iconst dX11_canBeLate_40 ?_
      refine wp_zret dX11_canBeLate_41 rfl (by omega) ?_
      refine ⟨?_, rfl, rfl⟩
      unfold canB
      rw [decide_eq_false (show ¬ (EN (wkS S (S 6 t 0).toNat) (S 5 t 0).toNat b : Int) ≤ M 25 0 0 by omega), Bool.false_and, Bool.and_false]
      rfl
  · refine wp_aload_n dX11_canBeLate_9 rfl ?_
    refine wp_aload_n dX11_canBeLate_10 rfl ?_
    refine wp_get fkX11_30 dX11_canBeLate_11 (P.s0 r) rfl ?_
    refine wp_iload_n dX11_canBeLate_14 rfl ?_
    refine wp_iaload dX11_canBeLate_15 (P.s8 r) (by omega) (by omega) (by omega) ?_
    change WP G mX11_canBeLate _ _ _ _ h N 16 [some (.ref (cB G + 169)), some (JV (t : Int)), some (JV (b : Int)), none, none, none, none] [JV (S 6 t 0), .ref (cB G + 169)]
    refine wp_iload_n dX11_canBeLate_16 rfl ?_
    have won_17 := m_worksOn (N := N) (G := G) P r w (c := (S 6 t 0).toNat) (d := b) (by omega) (by omega)
    rw [show (((S 6 t 0).toNat : Nat) : Int) = S 6 t 0 by omega] at won_17
    refine wp_v2p won_17 cvX11_106 dX11_canBeLate_17 ⟨Nat.le_of_ble_eq_true rfl, Nat.le_of_ble_eq_true rfl⟩ (Nat.le_of_ble_eq_true rfl) (P.s0 r) rfl rfl ?_
    refine wp_if_ne 25 dX11_canBeLate_20 (by decide) (bI_r _) (fun c_20 => ?_) (fun c_20 => ?_)
    · refine wp_aload_n dX11_canBeLate_25 rfl ?_
      refine wp_iload_n dX11_canBeLate_26 rfl ?_
      refine wp_iload_n dX11_canBeLate_27 rfl ?_
      refine wp_v2p (m_endOf (N := N) P r w (t := t) (b := b) ht (by omega)) cvX11_113 dX11_canBeLate_28 ⟨Nat.le_of_ble_eq_true rfl, Nat.le_of_ble_eq_true rfl⟩ (Nat.le_of_ble_eq_true rfl) (P.s0 r) rfl rfl ?_
      refine wp_istore_n dX11_canBeLate_31 (Nat.le_of_ble_eq_true rfl) rfl ?_
      change WP G mX11_canBeLate _ _ _ _ h N 32 [some (.ref (cB G + 169)), some (JV (t : Int)), some (JV (b : Int)), some (JV ((EN (wkS S (S 6 t 0).toNat) (S 5 t 0).toNat b : Nat) : Int)), none, none, none] []
      refine wp_iload_n dX11_canBeLate_32 rfl ?_
      refine wp_aload_n dX11_canBeLate_33 rfl ?_
      refine wp_get fkX11_133 dX11_canBeLate_34 (P.s0 r) rfl ?_
      refine wp_icmp_le 42 dX11_canBeLate_37 (by decide) ⟨by omega, by omega⟩ ⟨by omega, by omega⟩ (fun c_37 => ?_) (fun c_37 => ?_)
      · refine wp_iconst dX11_canBeLate_42 ?_
        refine wp_istore dX11_canBeLate_43 (Nat.le_of_ble_eq_true rfl) rfl ?_
        change WP G mX11_canBeLate _ _ _ _ h N 45 [some (.ref (cB G + 169)), some (JV (t : Int)), some (JV (b : Int)), some (JV ((EN (wkS S (S 6 t 0).toNat) (S 5 t 0).toNat b : Nat) : Int)), some (JV 0), none, none] []
        refine l_canBeLate P r w ht hb hld hs _ 0 _ _ rfl (by omega) ⟨?_, rfl, rfl⟩
        unfold canB
        rw [bI_ne c_20, Bool.or_true, Bool.true_and]
        rw [decide_eq_true (show (EN (wkS S (S 6 t 0).toNat) (S 5 t 0).toNat b : Int) ≤ M 25 0 0 by omega), Bool.true_and]
        rfl
      · refine wp_iconst dX11_canBeLate_40 ?_
        refine wp_zret dX11_canBeLate_41 rfl (by omega) ?_
        refine ⟨?_, rfl, rfl⟩
        unfold canB
        rw [decide_eq_false (show ¬ (EN (wkS S (S 6 t 0).toNat) (S 5 t 0).toNat b : Int) ≤ M 25 0 0 by omega), Bool.false_and, Bool.and_false]
        rfl
    · refine wp_iconst dX11_canBeLate_23 ?_
      refine wp_zret dX11_canBeLate_24 rfl (by omega) ?_
      refine ⟨?_, rfl, rfl⟩
      unfold canB
      rw [decide_eq_false (show ¬ S 5 t 0 = 0 by omega), bI_eq c_20, Bool.or_false, Bool.false_and]
      rfl

/-- LATE in the making: from the place k of the order q on -/
def LTL (S : ST) (q eb lb le rm : Nat → Int) (ld : Int) (k : Nat) : Prop := (∀ i : Nat, k ≤ i → (i : Int) < S 13 0 0 → LPt S eb lb le rm ld (q i).toNat) ∧ ∀ i : Nat, k ≤ i → (i : Int) < S 13 0 0 → (0 ≤ lb (q i).toNat ∧ lb (q i).toNat ≤ 6000) ∧ 0 ≤ le (q i).toNat ∧ le (q i).toNat ≤ 6000
theorem TOQ.suc {q : Nat → Int} (tp : TOP S) (tq : TOQ S q) {i j : Nat} (hi : (i : Int) < S 13 0 0) (hj : (j : Int) < S 14 0 0) (hl : lF S j = q i) : ∃ p : Nat, i + 1 ≤ p ∧ (p : Int) < S 13 0 0 ∧ q p = lT S j := by
  have r1 := tp.1 j hj
  obtain ⟨p, p1, p2⟩ := tq.2.2.1 (lT S j) r1.2.1 r1.2.2
  obtain ⟨i9, j1, j2⟩ := tq.2.2.2 p j p1 hj p2.symm
  have r2 := tq.2.1 i9 i (by omega) hi (by rw [j2, hl])
  exact ⟨p, by omega, p1, p2⟩
theorem LTL.step {q eb lb le rm : Nat → Int} {ld : Int} {k t : Nat} (tp : TOP S) (tq : TOQ S q) (s : LTL S q eb lb le rm ld (k + 1)) (hk : (k : Int) < S 13 0 0) (ht : q k = (t : Int)) {v v2 v3 : Int} (hb : (0 ≤ v ∧ v ≤ 6000) ∧ 0 ≤ v2 ∧ v2 ≤ 6000)
    (hv : (S 9 t 0 ≠ 0 → v = S 10 t 0 ∧ v2 = S 11 t 0 ∧ v3 = 0) ∧ (S 9 t 0 = 0 → v = lday S eb lb le ld t ∧ v2 = endS S t v ∧ v3 = roomF S eb t v)) : LTL S q eb (fup lb t v) (fup le t v2) (fup rm t v3) ld k := by
  have hqk := tq.1 k hk
  have hk0 : (q k).toNat = t := by rw [ht, Int.toNat_natCast]
  have hne : ∀ i : Nat, k + 1 ≤ i → (i : Int) < S 13 0 0 → (q i).toNat ≠ t := fun i hi h2 z => by
    have := tq.1 i h2
    have := tq.2.1 i k h2 hk (by rw [ht]; omega)
    omega
  have hl : ∀ i : Nat, k ≤ i → (i : Int) < S 13 0 0 → lday S eb (fup lb t v) (fup le t v2) ld (q i).toNat = lday S eb lb le ld (q i).toNat := fun i h1 h2 => by
    unfold lday
    rw [askU_cg (S := S) (b := fup lb t v) (e := fup le t v2) (b' := lb) (e' := le) (t := (q i).toNat) (S 14 0 0).toNat 0 ld ld (fun j _ h4 h5 => by
      obtain ⟨p, p1, p2, p3⟩ := tq.suc tp h2 (j := j) (by omega) (by rw [h5]; have := tq.1 i h2; omega)
      rw [← p3, fupn (hne p (by omega) p2), fupn (hne p (by omega) p2)]
      exact ⟨rfl, rfl⟩)]
  refine ⟨fun i h1 h2 => ?_, fun i h1 h2 => ?_⟩
  · have hl9 := hl i h1 h2
    by_cases hik : i = k
    · subst hik
      rw [hk0] at hl9 ⊢
      unfold LPt
      rw [fupe, fupe, fupe, hl9]
      exact hv
    · have hn := hne i (by omega) h2
      have q1 := s.1 i (by omega) h2
      unfold LPt at q1 ⊢
      rw [fupn hn, fupn hn, fupn hn, hl9]
      exact q1
  · by_cases hik : i = k
    · subst hik
      rw [hk0, fupe, fupe]
      exact hb
    · rw [fupn (hne i (by omega) h2), fupn (hne i (by omega) h2)]
      exact s.2 i (by omega) h2
theorem LTL.end {q eb lb le rm : Nat → Int} {ld : Int} (tq : TOQ S q) (s : LTL S q eb lb le rm ld 0) : LATE S eb lb le rm ld := fun t ht => by
  obtain ⟨i, i1, i2⟩ := tq.2.2.1 t (by omega) ht
  have := s.1 i (by omega) i1
  rw [i2, Int.toNat_natCast] at this
  exact this
/-- what the late day of a task is, with its end -/
theorem lday_val (w : WF S) (tp : TOP S) {eb ee lb le : Nat → Int} {ld : Int} (ep : EP S eb ee) (ldy : LDY S ee ld) {t : Nat} (ht : (t : Int) < S 13 0 0) (h9 : S 9 t 0 = 0) : ld ≤ 4984 ∧ eb t ≤ ld ∧ ∃ y : Nat, lday S eb lb le ld t = (y : Int) ∧ eb t ≤ (y : Int) ∧ (y : Int) ≤ ld ∧ EN (wkS S (S 6 t 0).toNat) (S 5 t 0).toNat y ≤ 4984 ∧ (eb t < (y : Int) → canB S lb le ld t y = true) ∧ ∀ x : Nat, x < 20000 → (y : Int) < (x : Int) → canB S lb le ld t x = false := by
  have wT := w.nT
  have ok := EP_all w tp ep ht
  have hld : ld ≤ 4984 := by
    rcases ldy.2.1 with z | ⟨u, u1, u2⟩
    · omega
    · have := (EP_all w tp ep u1).1
      omega
  obtain ⟨x, x1, x2, x3⟩ := ok.2 h9
  have g := EN_ge (wk := wkS S (S 6 t 0).toNat) (l := (S 5 t 0).toNat) (b := x)
  have hel := ldy.1 t ht
  have hno : ∀ y : Int, lday S eb lb le ld t = y → ∀ x : Nat, x < 20000 → y < (x : Int) → canB S lb le ld t x = false := fun y hy x h1 h2 => by
    cases hc : canB S lb le ld t x with
    | false => rfl
    | true =>
      have q := (canB_iff w (by omega)).mp hc
      have := (lday_iff w (eb := eb) (lb := lb) (le := le) (ld := ld) (t := t) (by omega) (by omega) h1 q.1).mpr (Or.inr q.2)
      omega
  refine ⟨hld, by omega, ?_⟩
  rcases lday_w w (eb := eb) (lb := lb) (le := le) (ld := ld) (t := t) (by omega) ok.1.1 with u | ⟨y, y1, y2, y3⟩
  · exact ⟨x, by rw [u, x1], by omega, by omega, by have := ok.1; omega, fun h => by omega, hno _ (by rw [u, x1])⟩
  · by_cases hy2 : y < 20000
    · have q := (lday_iff w (eb := eb) (lb := lb) (le := le) (ld := ld) (t := t) (by omega) (by omega) hy2 y3).mp (by omega)
      rcases q with q | q
      · omega
      · have gy := EN_ge (wk := wkS S (S 6 t 0).toNat) (l := (S 5 t 0).toNat) (b := y)
        have := q.1
        exact ⟨y, y1, by omega, by omega, by omega, fun _ => (canB_iff w (by omega)).mpr ⟨y3, q⟩, hno _ y1⟩
    · exfalso
      have r := lday_r (S := S) (eb := eb) (lb := lb) (le := le) (ld := ld) (t := t) (M := 5500) ldy.2.2 (by omega)
      omega
theorem l_layLate1 {Q : PQ} {X : PX} {k9 n9 : Nat} (P : MP G N M L z h) (r : RS S M) (w : WF S) {t y : Nat} (ht : t < 24) (h9 : S 9 t 0 = 0) (hld : 0 ≤ M 25 0 0 ∧ M 25 0 0 ≤ 5000) (hs : ∀ j : Nat, (j : Int) < S 14 0 0 → lF S j = (t : Int) → S 9 (lT S j).toNat 0 = 0 → (0 ≤ M 20 0 (lT S j).toNat ∧ M 20 0 (lT S j).toNat ≤ 6000) ∧ 0 ≤ M 20 1 (lT S j).toNat ∧ M 20 1 (lT S j).toNat ≤ 6000) (hey : 0 ≤ M 19 0 t ∧ M 19 0 t ≤ (y : Int)) (h1 : M 19 0 t < (y : Int) → canB S (M 20 0) (M 20 1) (M 25 0 0) t y = true) (h2 : ∀ x : Nat, x < 20000 → (y : Int) < (x : Int) → canB S (M 20 0) (M 20 1) (M 25 0 0) t x = false) {xn x4 : Option Value} : ∀ (m : Nat) (b : Nat), (b = y + m) → (b ≤ 5000) → (WP G mX11_layLate Q X k9 n9 h N 59 [some (.ref (cB G + 169)), xn, some (JV (t : Int)), some (JV (y : Int)), x4] []) → WP G mX11_layLate Q X k9 n9 h N 23 [some (.ref (cB G + 169)), xn, some (JV (t : Int)), some (JV (b : Int)), x4] [] := by
  intro m
  induction m with
  | zero =>
    intro b hm hb kk
    have hby : b = y := by omega
    subst hby
    refine wp_aload_n dX11_layLate_23 rfl ?_
    refine wp_get fkX11_42 dX11_layLate_24 (P.s0 r) rfl ?_
    refine wp_iload_n dX11_layLate_27 rfl ?_
    refine wp_zaload dX11_layLate_28 (P.s12 r) (by omega) (by omega) (by omega) ?_
    change WP G mX11_layLate _ _ _ _ h N 29 [some (.ref (cB G + 169)), xn, some (JV (t : Int)), some (JV (b : Int)), x4] [JV (S 9 t 0)]
    refine wp_if_ne 59 dX11_layLate_29 (by decide) ⟨by omega, by omega⟩ (fun c_29 => ?_) (fun c_29 => ?_)
    · exact absurd h9 c_29
    · refine wp_iload_n dX11_layLate_32 rfl ?_
      refine wp_aload_n dX11_layLate_33 rfl ?_
      refine wp_get fkX11_55 dX11_layLate_34 (P.s0 r) rfl ?_
      refine wp_iconst dX11_layLate_37 ?_
      refine wp_aaload dX11_layLate_38 P.q19 rfl rfl (by omega) (by omega) (by omega) (if_pos (by omega)) ?_
      change WP G mX11_layLate _ _ _ _ h N 39 [some (.ref (cB G + 169)), xn, some (JV (t : Int)), some (JV (b : Int)), x4] [.ref (cB G + 255 + 0), JV (b : Int)]
      refine wp_iload_n dX11_layLate_39 rfl ?_
      refine wp_iaload dX11_layLate_40 (P.r19 (i := 0) (by omega)) (by omega) (by omega) (by omega) ?_
      change WP G mX11_layLate _ _ _ _ h N 41 [some (.ref (cB G + 169)), xn, some (JV (t : Int)), some (JV (b : Int)), x4] [JV (M 19 0 t), JV (b : Int)]
      refine wp_icmp_le 59 dX11_layLate_41 (by decide) ⟨by omega, by omega⟩ ⟨by omega, by omega⟩ (fun c_41 => ?_) (fun c_41 => ?_)
      · exact kk
      · refine wp_aload_n dX11_layLate_44 rfl ?_
        refine wp_iload_n dX11_layLate_45 rfl ?_
        refine wp_iload_n dX11_layLate_46 rfl ?_
        refine wp_v2p (m_canBeLate (N := N) P r w (t := t) (b := b) ht (by omega) (by omega) hs) cvX11_140 dX11_layLate_47 ⟨Nat.le_of_ble_eq_true rfl, Nat.le_of_ble_eq_true rfl⟩ (Nat.le_of_ble_eq_true rfl) (P.s0 r) rfl rfl ?_
        refine wp_if_ne 59 dX11_layLate_50 (by decide) (bI_r _) (fun c_50 => ?_) (fun c_50 => ?_)
        · exact kk
        · exact absurd (bI_eq c_50) (by rw [h1 (by omega)]; decide)
  | succ m ih =>
    intro b hm hb kk
    refine wp_aload_n dX11_layLate_23 rfl ?_
    refine wp_get fkX11_42 dX11_layLate_24 (P.s0 r) rfl ?_
    refine wp_iload_n dX11_layLate_27 rfl ?_
    refine wp_zaload dX11_layLate_28 (P.s12 r) (by omega) (by omega) (by omega) ?_
    change WP G mX11_layLate _ _ _ _ h N 29 [some (.ref (cB G + 169)), xn, some (JV (t : Int)), some (JV (b : Int)), x4] [JV (S 9 t 0)]
    refine wp_if_ne 59 dX11_layLate_29 (by decide) ⟨by omega, by omega⟩ (fun c_29 => ?_) (fun c_29 => ?_)
    · exact absurd h9 c_29
    · refine wp_iload_n dX11_layLate_32 rfl ?_
      refine wp_aload_n dX11_layLate_33 rfl ?_
      refine wp_get fkX11_55 dX11_layLate_34 (P.s0 r) rfl ?_
      refine wp_iconst dX11_layLate_37 ?_
      refine wp_aaload dX11_layLate_38 P.q19 rfl rfl (by omega) (by omega) (by omega) (if_pos (by omega)) ?_
      change WP G mX11_layLate _ _ _ _ h N 39 [some (.ref (cB G + 169)), xn, some (JV (t : Int)), some (JV (b : Int)), x4] [.ref (cB G + 255 + 0), JV (b : Int)]
      refine wp_iload_n dX11_layLate_39 rfl ?_
      refine wp_iaload dX11_layLate_40 (P.r19 (i := 0) (by omega)) (by omega) (by omega) (by omega) ?_
      change WP G mX11_layLate _ _ _ _ h N 41 [some (.ref (cB G + 169)), xn, some (JV (t : Int)), some (JV (b : Int)), x4] [JV (M 19 0 t), JV (b : Int)]
      refine wp_icmp_le 59 dX11_layLate_41 (by decide) ⟨by omega, by omega⟩ ⟨by omega, by omega⟩ (fun c_41 => ?_) (fun c_41 => ?_)
      · exact absurd c_41 (by omega)
      · refine wp_aload_n dX11_layLate_44 rfl ?_
        refine wp_iload_n dX11_layLate_45 rfl ?_
        refine wp_iload_n dX11_layLate_46 rfl ?_
        refine wp_v2p (m_canBeLate (N := N) P r w (t := t) (b := b) ht (by omega) (by omega) hs) cvX11_140 dX11_layLate_47 ⟨Nat.le_of_ble_eq_true rfl, Nat.le_of_ble_eq_true rfl⟩ (Nat.le_of_ble_eq_true rfl) (P.s0 r) rfl rfl ?_
        refine wp_if_ne 59 dX11_layLate_50 (by decide) (bI_r _) (fun c_50 => ?_) (fun c_50 => ?_)
        · exact absurd (bI_ne c_50) (by rw [h2 b (by omega) (by omega)]; decide)
        · refine wp_iinc dX11_layLate_53 rfl (Nat.le_of_ble_eq_true rfl) rfl ?_
          change WP G mX11_layLate _ _ _ _ h N 56 [some (.ref (cB G + 169)), xn, some (JV (t : Int)), some (JV ((b : Int) + (-1))), x4] []
          refine wp_goto 23 dX11_layLate_56 (by decide) ?_
          rw [show (b : Int) + (-1) = ((b - 1 : Nat) : Int) by omega]
          exact ih (b - 1) (by omega) (by omega) kk

theorem l_layLate2 {Q : PQ} {X : PX} {k9 n9 : Nat} {h0 : AH} {M0 : ST} (w : WF S) {t b : Nat} (ht : t < 24) (h9 : S 9 t 0 = 0) (hb : b ≤ 5000) {xn : Option Value} : ∀ (m : Nat) (d : Nat) (M : ST) (h : AH), (b - d = m) → (d ≤ b) → (MP G N M L z h) → (RS S M) → (∀ f, f ≠ 21 → M f = M0 f) → (∀ x, x ≠ t → M 21 x 0 = M0 21 x 0) → (FRM G h0 h) → (∀ (M' : ST) (h' : AH), MP G N M' L z h' → RS S M' → (∀ f, f ≠ 21 → M' f = M0 f) → (∀ x, x ≠ t → M' 21 x 0 = M0 21 x 0) → M' 21 t 0 = M 21 t 0 + (if S 5 t 0 = 0 then (m : Int) else cnt (wkS S (S 6 t 0).toNat) m d) → FRM G h0 h' → WP G mX11_layLate Q X k9 n9 h' N 211 [some (.ref (cB G + 169)), xn, some (JV (t : Int)), some (JV (b : Int)), some (JV (b : Int))] []) → WP G mX11_layLate Q X k9 n9 h N 152 [some (.ref (cB G + 169)), xn, some (JV (t : Int)), some (JV (b : Int)), some (JV (d : Int))] [] := by
  intro m
  induction m with
  | zero =>
    intro d M h hm hd P r hM hx fr kk
    have hdb : d = b := by omega
    subst hdb
    refine wp_iload dX11_layLate_152 rfl ?_
    refine wp_iload_n dX11_layLate_154 rfl ?_
    refine wp_icmp_ge 211 dX11_layLate_155 (by decide) ⟨by omega, by omega⟩ ⟨by omega, by omega⟩ (fun c_155 => ?_) (fun c_155 => ?_)
    · refine kk M h P r hM hx ?_ fr
      split <;> simp [cnt]
    · exact absurd c_155 (by omega)
  | succ m ih =>
    intro d M h hm hd P r hM hx fr kk
    have wt := w.task ht
    refine wp_iload dX11_layLate_152 rfl ?_
    refine wp_iload_n dX11_layLate_154 rfl ?_
    refine wp_icmp_ge 211 dX11_layLate_155 (by decide) ⟨by omega, by omega⟩ ⟨by omega, by omega⟩ (fun c_155 => ?_) (fun c_155 => ?_)
    · exact absurd c_155 (by omega)
    · refine wp_aload_n dX11_layLate_158 rfl ?_
      refine wp_get fkX11_42 dX11_layLate_159 (P.s0 r) rfl ?_
      refine wp_iload_n dX11_layLate_162 rfl ?_
      refine wp_zaload dX11_layLate_163 (P.s12 r) (by omega) (by omega) (by omega) ?_
      change WP G mX11_layLate _ _ _ _ h N 164 [some (.ref (cB G + 169)), xn, some (JV (t : Int)), some (JV (b : Int)), some (JV (d : Int))] [JV (S 9 t 0)]
      refine wp_if_ne 211 dX11_layLate_164 (by decide) ⟨by omega, by omega⟩ (fun c_164 => ?_) (fun c_164 => ?_)
      · exact absurd h9 c_164
      · refine wp_aload_n dX11_layLate_167 rfl ?_
        refine wp_get fkX11_61 dX11_layLate_168 (P.s0 r) rfl ?_
        refine wp_iload_n dX11_layLate_171 rfl ?_
        refine wp_dup2 dX11_layLate_172 rfl rfl ?_
        refine wp_iaload dX11_layLate_173 P.c21 (by omega) (by omega) (by omega) ?_
        change WP G mX11_layLate _ _ _ _ h N 174 [some (.ref (cB G + 169)), xn, some (JV (t : Int)), some (JV (b : Int)), some (JV (d : Int))] [JV (M 21 t 0), JV (t : Int), .ref (cB G + 260)]
        refine wp_aload_n dX11_layLate_174 rfl ?_
        refine wp_get fkX11_27 dX11_layLate_175 (P.s0 r) rfl ?_
        refine wp_iload_n dX11_layLate_178 rfl ?_
        refine wp_iaload dX11_layLate_179 (P.s7 r) (by omega) (by omega) (by omega) ?_
        change WP G mX11_layLate _ _ _ _ h N 180 [some (.ref (cB G + 169)), xn, some (JV (t : Int)), some (JV (b : Int)), some (JV (d : Int))] [JV (S 5 t 0), JV (M 21 t 0), JV (t : Int), .ref (cB G + 260)]
        refine wp_if_eq 198 dX11_layLate_180 (by decide) ⟨by omega, by omega⟩ (fun c_180 => ?_) (fun c_180 => ?_)
        · refine wp_iconst dX11_layLate_198 ?_
          refine wp_goto 203 dX11_layLate_199 (by decide) ?_
          refine wp_iadd dX11_layLate_203 ?_
          refine wp_iastore dX11_layLate_204 P.c21 (by omega) (by omega) (by omega) ?_
          obtain ⟨h_1, eh_1⟩ : ∃ hh9 : AH, hh9 = hup h (cB G + 260) (eI G 24 (fup (fun i => M 21 i 0) t ((M 21 t 0) + 1))) := ⟨_, rfl⟩
          refine WP.heq eh_1 ?_
          obtain ⟨M_1, eM_1⟩ : ∃ ss9 : ST, ss9 = su M 21 t 0 ((M 21 t 0) + 1) := ⟨_, rfl⟩
          have P_1 : MP G (N) M_1 L z h_1 := by rw [eM_1]; exact P.u1 (q := (21, 260, 24, false)) (i := t) (v := (M 21 t 0) + 1) (by decide) eh_1
          have r_1 : RS S M_1 := by rw [eM_1]; exact r.der (by decide)
          refine wp_iinc dX11_layLate_205 rfl (Nat.le_of_ble_eq_true rfl) rfl ?_
          change WP G mX11_layLate _ _ _ _ h_1 N 208 [some (.ref (cB G + 169)), xn, some (JV (t : Int)), some (JV (b : Int)), some (JV ((d : Int) + 1))] []
          refine wp_goto 152 dX11_layLate_208 (by decide) ?_
          have e1 : M_1 21 t 0 = M 21 t 0 + 1 := by rw [eM_1]; exact su_s
          refine ih (d + 1) M_1 h_1 (by omega) (by omega) P_1 r_1 (fun f hf => by rw [eM_1, su_f hf]; exact hM f hf) (fun x hxt => by rw [eM_1, su_i hxt]; exact hx x hxt) (fr.up eh_1 (by omega)) (fun M2 h2 P2 r2 m2 x2 v2 f2 => kk M2 h2 P2 r2 m2 x2 ?_ f2)
          rw [v2, e1]
          rw [if_pos c_180, if_pos c_180]
          omega
        · refine wp_aload_n dX11_layLate_183 rfl ?_
          refine wp_aload_n dX11_layLate_184 rfl ?_
          refine wp_get fkX11_30 dX11_layLate_185 (P.s0 r) rfl ?_
          refine wp_iload_n dX11_layLate_188 rfl ?_
          refine wp_iaload dX11_layLate_189 (P.s8 r) (by omega) (by omega) (by omega) ?_
          change WP G mX11_layLate _ _ _ _ h N 190 [some (.ref (cB G + 169)), xn, some (JV (t : Int)), some (JV (b : Int)), some (JV (d : Int))] [JV (S 6 t 0), .ref (cB G + 169), JV (M 21 t 0), JV (t : Int), .ref (cB G + 260)]
          refine wp_iload dX11_layLate_190 rfl ?_
          have won_192 := m_worksOn (N := N) (G := G) P r w (c := (S 6 t 0).toNat) (d := d) (by omega) (by omega)
          rw [show (((S 6 t 0).toNat : Nat) : Int) = S 6 t 0 by omega] at won_192
          refine wp_v2p won_192 cvX11_106 dX11_layLate_192 ⟨Nat.le_of_ble_eq_true rfl, Nat.le_of_ble_eq_true rfl⟩ (Nat.le_of_ble_eq_true rfl) (P.s0 r) rfl rfl ?_
          refine wp_if_eq 202 dX11_layLate_195 (by decide) (bI_r _) (fun c_195 => ?_) (fun c_195 => ?_)
          · refine wp_iconst dX11_layLate_202 ?_
            refine wp_iadd dX11_layLate_203 ?_
            refine wp_iastore dX11_layLate_204 P.c21 (by omega) (by omega) (by omega) ?_
            obtain ⟨h_1, eh_1⟩ : ∃ hh9 : AH, hh9 = hup h (cB G + 260) (eI G 24 (fup (fun i => M 21 i 0) t ((M 21 t 0) + 0))) := ⟨_, rfl⟩
            refine WP.heq eh_1 ?_
            obtain ⟨M_1, eM_1⟩ : ∃ ss9 : ST, ss9 = su M 21 t 0 ((M 21 t 0) + 0) := ⟨_, rfl⟩
            have P_1 : MP G (N) M_1 L z h_1 := by rw [eM_1]; exact P.u1 (q := (21, 260, 24, false)) (i := t) (v := (M 21 t 0) + 0) (by decide) eh_1
            have r_1 : RS S M_1 := by rw [eM_1]; exact r.der (by decide)
            refine wp_iinc dX11_layLate_205 rfl (Nat.le_of_ble_eq_true rfl) rfl ?_
            change WP G mX11_layLate _ _ _ _ h_1 N 208 [some (.ref (cB G + 169)), xn, some (JV (t : Int)), some (JV (b : Int)), some (JV ((d : Int) + 1))] []
            refine wp_goto 152 dX11_layLate_208 (by decide) ?_
            have e1 : M_1 21 t 0 = M 21 t 0 + 0 := by rw [eM_1]; exact su_s
            refine ih (d + 1) M_1 h_1 (by omega) (by omega) P_1 r_1 (fun f hf => by rw [eM_1, su_f hf]; exact hM f hf) (fun x hxt => by rw [eM_1, su_i hxt]; exact hx x hxt) (fr.up eh_1 (by omega)) (fun M2 h2 P2 r2 m2 x2 v2 f2 => kk M2 h2 P2 r2 m2 x2 ?_ f2)
            rw [v2, e1]
            rw [if_neg c_180, if_neg c_180, cnt, bI_f (bI_eq c_195)]
            omega
          · refine wp_iconst dX11_layLate_198 ?_
            refine wp_goto 203 dX11_layLate_199 (by decide) ?_
            refine wp_iadd dX11_layLate_203 ?_
            refine wp_iastore dX11_layLate_204 P.c21 (by omega) (by omega) (by omega) ?_
            obtain ⟨h_1, eh_1⟩ : ∃ hh9 : AH, hh9 = hup h (cB G + 260) (eI G 24 (fup (fun i => M 21 i 0) t ((M 21 t 0) + 1))) := ⟨_, rfl⟩
            refine WP.heq eh_1 ?_
            obtain ⟨M_1, eM_1⟩ : ∃ ss9 : ST, ss9 = su M 21 t 0 ((M 21 t 0) + 1) := ⟨_, rfl⟩
            have P_1 : MP G (N) M_1 L z h_1 := by rw [eM_1]; exact P.u1 (q := (21, 260, 24, false)) (i := t) (v := (M 21 t 0) + 1) (by decide) eh_1
            have r_1 : RS S M_1 := by rw [eM_1]; exact r.der (by decide)
            refine wp_iinc dX11_layLate_205 rfl (Nat.le_of_ble_eq_true rfl) rfl ?_
            change WP G mX11_layLate _ _ _ _ h_1 N 208 [some (.ref (cB G + 169)), xn, some (JV (t : Int)), some (JV (b : Int)), some (JV ((d : Int) + 1))] []
            refine wp_goto 152 dX11_layLate_208 (by decide) ?_
            have e1 : M_1 21 t 0 = M 21 t 0 + 1 := by rw [eM_1]; exact su_s
            refine ih (d + 1) M_1 h_1 (by omega) (by omega) P_1 r_1 (fun f hf => by rw [eM_1, su_f hf]; exact hM f hf) (fun x hxt => by rw [eM_1, su_i hxt]; exact hx x hxt) (fr.up eh_1 (by omega)) (fun M2 h2 P2 r2 m2 x2 v2 f2 => kk M2 h2 P2 r2 m2 x2 ?_ f2)
            rw [v2, e1]
            rw [if_neg c_180, if_neg c_180, cnt, bI_t (bI_ne c_195)]
            omega

theorem l_layLate {Q : PQ} {X : PX} {k9 n9 : Nat} {h0 : AH} {M0 : ST} {q : Nat → Int} (w : WF S) (tp : TOP S) (tq : TOQ S q) (ep : EP S (M0 19 0) (M0 19 1)) (ldy : LDY S (M0 19 1) (M0 25 0 0)) : ∀ (m : Nat) (k : Nat) (M : ST) (h : AH) (x2 x3 x4 : Option Value), (k = m) → ((k : Int) ≤ S 13 0 0) → (MP G N M L z h) → (RS S M) → (∀ i, M 18 i 0 = q i) → (LTL S q (M 19 0) (M 20 0) (M 20 1) (fun t => M 21 t 0) (M 25 0 0) k) → (FRM G h0 h) → (∀ f, f ≠ 20 → f ≠ 21 → M f = M0 f) → (∀ (M' : ST) (h' : AH), MP G N M' L z h' → RS S M' → LATE S (M' 19 0) (M' 20 0) (M' 20 1) (fun t => M' 21 t 0) (M' 25 0 0) → FRM G h0 h' → (∀ f, f ≠ 20 → f ≠ 21 → M' f = M0 f) → Q none h' N) → WP G mX11_layLate Q X k9 n9 h N 7 [some (.ref (cB G + 169)), some (JV ((k : Int) - 1)), x2, x3, x4] [] := by
  intro m
  induction m with
  | zero =>
    intro k M h x2 x3 x4 hm hk P r hq lt fr hM kk
    subst hm
    refine wp_iload_n dX11_layLate_7 rfl ?_
    refine wp_if_lt 217 dX11_layLate_8 (by decide) ⟨by omega, by omega⟩ (fun c_8 => ?_) (fun c_8 => ?_)
    · refine wp_vret dX11_layLate_217 rfl ?_
      exact kk M h P r (lt.end tq) fr hM
    · exact absurd c_8 (by omega)
  | succ m ih =>
    intro k M h x2 x3 x4 hm hk P r hq lt fr hM kk
    subst hm
    rw [show ((m + 1 : Nat) : Int) - 1 = (m : Int) by omega]
    have wT := w.nT
    have hkn : (m : Int) < S 13 0 0 := by omega
    have hqk := tq.1 m hkn
    obtain ⟨t, et⟩ : ∃ t : Nat, q m = (t : Int) := ⟨(q m).toNat, by omega⟩
    have ht : t < 24 := by omega
    have htn : (t : Int) < S 13 0 0 := by omega
    have wt := w.task ht
    have eM19 : M 19 = M0 19 := hM 19 (by decide) (by decide)
    have eM25 : M 25 = M0 25 := hM 25 (by decide) (by decide)
    have ok := (EP_all w tp ep htn).1
    have lb9 := ldy.2.2
    have ep2 := ep
    have ldy2 := ldy
    rw [← eM19] at ep2 ldy2 ok
    rw [← eM25] at ldy2 lb9
    refine wp_iload_n dX11_layLate_7 rfl ?_
    refine wp_if_lt 217 dX11_layLate_8 (by decide) ⟨by omega, by omega⟩ (fun c_8 => ?_) (fun c_8 => ?_)
    · exact absurd c_8 (by omega)
    · refine wp_aload_n dX11_layLate_11 rfl ?_
      refine wp_get fkX11_52 dX11_layLate_12 (P.s0 r) rfl ?_
      refine wp_iload_n dX11_layLate_15 rfl ?_
      refine wp_iaload dX11_layLate_16 P.c18 (by omega) (by omega) (by omega) ?_
      change WP G mX11_layLate _ _ _ _ h N 17 [some (.ref (cB G + 169)), some (JV (m : Int)), x2, x3, x4] [JV (M 18 m 0)]
      rw [hq m, et]
      refine wp_istore_n dX11_layLate_17 (Nat.le_of_ble_eq_true rfl) rfl ?_
      change WP G mX11_layLate _ _ _ _ h N 18 [some (.ref (cB G + 169)), some (JV (m : Int)), some (JV (t : Int)), x3, x4] []
      refine wp_aload_n dX11_layLate_18 rfl ?_
      refine wp_get fkX11_133 dX11_layLate_19 (P.s0 r) rfl ?_
      refine wp_istore_n dX11_layLate_22 (Nat.le_of_ble_eq_true rfl) rfl ?_
      change WP G mX11_layLate _ _ _ _ h N 23 [some (.ref (cB G + 169)), some (JV (m : Int)), some (JV (t : Int)), some (JV (M 25 0 0)), x4] []
      by_cases h9 : S 9 t 0 = 0
      · obtain ⟨b1, b2, y, y1, y2, y3, y4, y5, y6⟩ := lday_val w tp (lb := M 20 0) (le := M 20 1) ep2 ldy2 htn h9
        obtain ⟨b0, eb0⟩ : ∃ b0 : Nat, M 25 0 0 = (b0 : Int) := ⟨(M 25 0 0).toNat, by omega⟩
        have hs : ∀ j : Nat, (j : Int) < S 14 0 0 → lF S j = (t : Int) → S 9 (lT S j).toNat 0 = 0 → (0 ≤ M 20 0 (lT S j).toNat ∧ M 20 0 (lT S j).toNat ≤ 6000) ∧ 0 ≤ M 20 1 (lT S j).toNat ∧ M 20 1 (lT S j).toNat ≤ 6000 := fun j h1 h2 _ => by
          obtain ⟨p, p1, p2, p3⟩ := tq.suc tp hkn h1 (by rw [h2, et])
          have z := lt.2 p p1 p2
          rw [p3] at z
          exact z
        rw [show some (JV (M 25 0 0)) = some (JV (b0 : Int)) by rw [eb0]]
        refine l_layLate1 P r w ht h9 (by omega) hs (by omega) (fun q => y5 q) (fun x hx hxy => y6 x hx hxy) _ b0 (show b0 = y + (b0 - y) by omega) (by omega) ?_
        refine wp_iload_n dX11_layLate_59 rfl ?_
        refine wp_aload_n dX11_layLate_60 rfl ?_
        refine wp_get fkX11_55 dX11_layLate_61 (P.s0 r) rfl ?_
        refine wp_iconst dX11_layLate_64 ?_
        refine wp_aaload dX11_layLate_65 P.q19 rfl rfl (by omega) (by omega) (by omega) (if_pos (by omega)) ?_
        change WP G mX11_layLate _ _ _ _ h N 66 [some (.ref (cB G + 169)), some (JV (m : Int)), some (JV (t : Int)), some (JV (y : Int)), x4] [.ref (cB G + 255 + 0), JV (y : Int)]
        refine wp_iload_n dX11_layLate_66 rfl ?_
        refine wp_iaload dX11_layLate_67 (P.r19 (i := 0) (by omega)) (by omega) (by omega) (by omega) ?_
        change WP G mX11_layLate _ _ _ _ h N 68 [some (.ref (cB G + 169)), some (JV (m : Int)), some (JV (t : Int)), some (JV (y : Int)), x4] [JV (M 19 0 t), JV (y : Int)]
        refine wp_max dX11_layLate_68 maX11_116 w_max (Nat.le_of_ble_eq_true rfl) (Nat.le_of_ble_eq_true rfl) ⟨by omega, by omega⟩ ⟨by omega, by omega⟩ ?_
        rw [show max (y : Int) (M 19 0 t) = (y : Int) by omega]
        refine wp_istore_n dX11_layLate_71 (Nat.le_of_ble_eq_true rfl) rfl ?_
        change WP G mX11_layLate _ _ _ _ h N 72 [some (.ref (cB G + 169)), some (JV (m : Int)), some (JV (t : Int)), some (JV (y : Int)), x4] []
        refine wp_aload_n dX11_layLate_72 rfl ?_
        refine wp_get fkX11_58 dX11_layLate_73 (P.s0 r) rfl ?_
        refine wp_iconst dX11_layLate_76 ?_
        refine wp_aaload dX11_layLate_77 P.q20 rfl rfl (by omega) (by omega) (by omega) (if_pos (by omega)) ?_
        change WP G mX11_layLate _ _ _ _ h N 78 [some (.ref (cB G + 169)), some (JV (m : Int)), some (JV (t : Int)), some (JV (y : Int)), x4] [.ref (cB G + 258 + 0)]
        refine wp_iload_n dX11_layLate_78 rfl ?_
        refine wp_aload_n dX11_layLate_79 rfl ?_
        refine wp_get fkX11_42 dX11_layLate_80 (P.s0 r) rfl ?_
        refine wp_iload_n dX11_layLate_83 rfl ?_
        refine wp_zaload dX11_layLate_84 (P.s12 r) (by omega) (by omega) (by omega) ?_
        change WP G mX11_layLate _ _ _ _ h N 85 [some (.ref (cB G + 169)), some (JV (m : Int)), some (JV (t : Int)), some (JV (y : Int)), x4] [JV (S 9 t 0), JV (t : Int), .ref (cB G + 258 + 0)]
        refine wp_if_eq 99 dX11_layLate_85 (by decide) ⟨by omega, by omega⟩ (fun c_85 => ?_) (fun c_85 => ?_)
        · refine wp_iload_n dX11_layLate_99 rfl ?_
          refine wp_iastore dX11_layLate_100 (P.r20 (i := 0) (by omega)) (by omega) (by omega) (by omega) ?_
          obtain ⟨h_1, eh_1⟩ : ∃ hh9 : AH, hh9 = hup h (cB G + 258 + 0) (eI G 24 (fup (fun j9 => M 20 0 j9) t (y : Int))) := ⟨_, rfl⟩
          refine WP.heq eh_1 ?_
          obtain ⟨M_1, eM_1⟩ : ∃ ss9 : ST, ss9 = su M 20 0 t (y : Int) := ⟨_, rfl⟩
          have P_1 : MP G (N) M_1 L z h_1 := by rw [eM_1]; exact P.u2 (q := (20, 257, 2, 24)) (i := 0) (j := t) (v := (y : Int)) (by decide) (show 0 < 2 by omega) eh_1
          have r_1 : RS S M_1 := by rw [eM_1]; exact r.der (by decide)
          refine wp_aload_n dX11_layLate_101 rfl ?_
          refine wp_get fkX11_58 dX11_layLate_102 (P_1.s0 r_1) rfl ?_
          refine wp_iconst dX11_layLate_105 ?_
          refine wp_aaload dX11_layLate_106 P_1.q20 rfl rfl (by omega) (by omega) (by omega) (if_pos (by omega)) ?_
          change WP G mX11_layLate _ _ _ _ h_1 N 107 [some (.ref (cB G + 169)), some (JV (m : Int)), some (JV (t : Int)), some (JV (y : Int)), x4] [.ref (cB G + 258 + 1)]
          refine wp_iload_n dX11_layLate_107 rfl ?_
          refine wp_aload_n dX11_layLate_108 rfl ?_
          refine wp_get fkX11_42 dX11_layLate_109 (P_1.s0 r_1) rfl ?_
          refine wp_iload_n dX11_layLate_112 rfl ?_
          refine wp_zaload dX11_layLate_113 (P_1.s12 r_1) (by omega) (by omega) (by omega) ?_
          change WP G mX11_layLate _ _ _ _ h_1 N 114 [some (.ref (cB G + 169)), some (JV (m : Int)), some (JV (t : Int)), some (JV (y : Int)), x4] [JV (S 9 t 0), JV (t : Int), .ref (cB G + 258 + 1)]
          refine wp_if_eq 128 dX11_layLate_114 (by decide) ⟨by omega, by omega⟩ (fun c_114 => ?_) (fun c_114 => ?_)
          · refine wp_aload_n dX11_layLate_128 rfl ?_
            refine wp_iload_n dX11_layLate_129 rfl ?_
            refine wp_iload_n dX11_layLate_130 rfl ?_
            refine wp_v2p (m_endOf (N := N) P_1 r_1 w (t := t) (b := y) ht (by omega)) cvX11_113 dX11_layLate_131 ⟨Nat.le_of_ble_eq_true rfl, Nat.le_of_ble_eq_true rfl⟩ (Nat.le_of_ble_eq_true rfl) (P_1.s0 r_1) rfl rfl ?_
            refine wp_iastore dX11_layLate_134 (P_1.r20 (i := 1) (by omega)) (by omega) (by omega) (by omega) ?_
            obtain ⟨h_2, eh_2⟩ : ∃ hh9 : AH, hh9 = hup h_1 (cB G + 258 + 1) (eI G 24 (fup (fun j9 => M_1 20 1 j9) t ((EN (wkS S (S 6 t 0).toNat) (S 5 t 0).toNat y : Nat) : Int))) := ⟨_, rfl⟩
            refine WP.heq eh_2 ?_
            obtain ⟨M_2, eM_2⟩ : ∃ ss9 : ST, ss9 = su M_1 20 1 t ((EN (wkS S (S 6 t 0).toNat) (S 5 t 0).toNat y : Nat) : Int) := ⟨_, rfl⟩
            have P_2 : MP G (N) M_2 L z h_2 := by rw [eM_2]; exact P_1.u2 (q := (20, 257, 2, 24)) (i := 1) (j := t) (v := ((EN (wkS S (S 6 t 0).toNat) (S 5 t 0).toNat y : Nat) : Int)) (by decide) (show 1 < 2 by omega) eh_2
            have r_2 : RS S M_2 := by rw [eM_2]; exact r_1.der (by decide)
            refine wp_aload_n dX11_layLate_135 rfl ?_
            refine wp_get fkX11_61 dX11_layLate_136 (P_2.s0 r_2) rfl ?_
            refine wp_iload_n dX11_layLate_139 rfl ?_
            refine wp_iconst dX11_layLate_140 ?_
            refine wp_iastore dX11_layLate_141 P_2.c21 (by omega) (by omega) (by omega) ?_
            obtain ⟨h_3, eh_3⟩ : ∃ hh9 : AH, hh9 = hup h_2 (cB G + 260) (eI G 24 (fup (fun i => M_2 21 i 0) t 0)) := ⟨_, rfl⟩
            refine WP.heq eh_3 ?_
            obtain ⟨M_3, eM_3⟩ : ∃ ss9 : ST, ss9 = su M_2 21 t 0 0 := ⟨_, rfl⟩
            have P_3 : MP G (N) M_3 L z h_3 := by rw [eM_3]; exact P_2.u1 (q := (21, 260, 24, false)) (i := t) (v := 0) (by decide) eh_3
            have r_3 : RS S M_3 := by rw [eM_3]; exact r_2.der (by decide)
            refine wp_aload_n dX11_layLate_142 rfl ?_
            refine wp_get fkX11_55 dX11_layLate_143 (P_3.s0 r_3) rfl ?_
            refine wp_iconst dX11_layLate_146 ?_
            refine wp_aaload dX11_layLate_147 P_3.q19 rfl rfl (by omega) (by omega) (by omega) (if_pos (by omega)) ?_
            change WP G mX11_layLate _ _ _ _ h_3 N 148 [some (.ref (cB G + 169)), some (JV (m : Int)), some (JV (t : Int)), some (JV (y : Int)), x4] [.ref (cB G + 255 + 0)]
            refine wp_iload_n dX11_layLate_148 rfl ?_
            refine wp_iaload dX11_layLate_149 (P_3.r19 (i := 0) (by omega)) (by omega) (by omega) (by omega) ?_
            change WP G mX11_layLate _ _ _ _ h_3 N 150 [some (.ref (cB G + 169)), some (JV (m : Int)), some (JV (t : Int)), some (JV (y : Int)), x4] [JV (M_3 19 0 t)]
            refine wp_istore dX11_layLate_150 (Nat.le_of_ble_eq_true rfl) rfl ?_
            change WP G mX11_layLate _ _ _ _ h_3 N 152 [some (.ref (cB G + 169)), some (JV (m : Int)), some (JV (t : Int)), some (JV (y : Int)), some (JV (M_3 19 0 t))] []
            have e19 : M_3 19 = M 19 := by rw [eM_3, su_f (by decide), eM_2, su_f (by decide), eM_1, su_f (by decide)]
            have e200 : M_3 20 0 = fup (M 20 0) t ((y : Int)) := by rw [eM_3, su_f (by decide), eM_2, su_rown (by decide), eM_1]; exact su_row
            have e201 : M_3 20 1 = fup (M 20 1) t (((EN (wkS S (S 6 t 0).toNat) (S 5 t 0).toNat y : Nat) : Int)) := by rw [eM_3, su_f (by decide), eM_2, su_row, eM_1, su_rown (by decide)]
            have e21 : ∀ x, x ≠ t → M_3 21 x 0 = M 21 x 0 := fun x hx => by rw [eM_3, su_i hx, eM_2, su_f (by decide), eM_1, su_f (by decide)]
            have e21t : M_3 21 t 0 = 0 := by rw [eM_3]; exact su_s
            have eo : ∀ f, f ≠ 20 → f ≠ 21 → M_3 f = M f := fun f h1 h2 => by rw [eM_3, su_f h2, eM_2, su_f h1, eM_1, su_f h1]
            have fr3 := ((fr.up eh_1 (by omega)).up eh_2 (by omega)).up eh_3 (by omega)
            obtain ⟨d0, ed0⟩ : ∃ d0 : Nat, M_3 19 0 t = (d0 : Int) := ⟨(M_3 19 0 t).toNat, by rw [e19]; omega⟩
            rw [ed0]
            rw [e19] at ed0
            refine l_layLate2 (h0 := h_3) (M0 := M_3) w ht h9 (by omega) _ d0 M_3 h_3 rfl (by omega) P_3 r_3 (fun _ _ => rfl) (fun _ _ => rfl) (fun _ _ => rfl) (fun M4 h4 P4 r4 m4 x4 v4 f4 => ?_)
            have ev : M4 21 t 0 = roomF S (M 19 0) t (y : Int) := by
              rw [v4, e21t]
              unfold roomF
              rw [ed0, show ((y : Int) - (d0 : Int)).toNat = y - d0 by omega, Int.toNat_natCast]
              split <;> omega
            have sv := lt.step tp tq hkn et (v := (y : Int)) (v2 := ((EN (wkS S (S 6 t 0).toNat) (S 5 t 0).toNat y : Nat) : Int)) (v3 := roomF S (M 19 0) t (y : Int)) (by omega) ⟨fun q9 => absurd h9 q9, fun _ => ⟨y1.symm, (endS_EN (by omega)).symm, rfl⟩⟩
            refine wp_iinc dX11_layLate_211 rfl (Nat.le_of_ble_eq_true rfl) rfl ?_
            change WP G mX11_layLate _ _ _ _ h4 N 214 [some (.ref (cB G + 169)), some (JV ((m : Int) + (-1))), some (JV (t : Int)), some (JV (y : Int)), some (JV (y : Int))] []
            refine wp_goto 7 dX11_layLate_214 (by decide) ?_
            rw [show (m : Int) + (-1) = (m : Int) - 1 by omega]
            refine ih m M4 h4 _ _ _ rfl (by omega) P4 r4 (fun i => by rw [m4 18 (by decide), eo 18 (by decide) (by decide)]; exact hq i) ?_ (fr3.tr f4) (fun f h1 h2 => by rw [m4 f h2, eo f h1 h2]; exact hM f h1 h2) kk
            rw [m4 19 (by decide), e19, m4 20 (by decide), e200, e201, m4 25 (by decide), eo 25 (by decide) (by decide), show (fun x => M4 21 x 0) = fup (fun x => M 21 x 0) t (roomF S (M 19 0) t (y : Int)) from funext fun x => by
              by_cases hx : x = t
              · rw [hx, fupe, ev]
              · rw [fupn hx, x4 x hx, e21 x hx]]
            exact sv
          · exact absurd h9 c_114
        · exact absurd h9 c_85
      · refine wp_aload_n dX11_layLate_23 rfl ?_
        refine wp_get fkX11_42 dX11_layLate_24 (P.s0 r) rfl ?_
        refine wp_iload_n dX11_layLate_27 rfl ?_
        refine wp_zaload dX11_layLate_28 (P.s12 r) (by omega) (by omega) (by omega) ?_
        change WP G mX11_layLate _ _ _ _ h N 29 [some (.ref (cB G + 169)), some (JV (m : Int)), some (JV (t : Int)), some (JV (M 25 0 0)), x4] [JV (S 9 t 0)]
        refine wp_if_ne 59 dX11_layLate_29 (by decide) ⟨by omega, by omega⟩ (fun c_29 => ?_) (fun c_29 => ?_)
        · refine wp_iload_n dX11_layLate_59 rfl ?_
          refine wp_aload_n dX11_layLate_60 rfl ?_
          refine wp_get fkX11_55 dX11_layLate_61 (P.s0 r) rfl ?_
          refine wp_iconst dX11_layLate_64 ?_
          refine wp_aaload dX11_layLate_65 P.q19 rfl rfl (by omega) (by omega) (by omega) (if_pos (by omega)) ?_
          change WP G mX11_layLate _ _ _ _ h N 66 [some (.ref (cB G + 169)), some (JV (m : Int)), some (JV (t : Int)), some (JV (M 25 0 0)), x4] [.ref (cB G + 255 + 0), JV (M 25 0 0)]
          refine wp_iload_n dX11_layLate_66 rfl ?_
          refine wp_iaload dX11_layLate_67 (P.r19 (i := 0) (by omega)) (by omega) (by omega) (by omega) ?_
          change WP G mX11_layLate _ _ _ _ h N 68 [some (.ref (cB G + 169)), some (JV (m : Int)), some (JV (t : Int)), some (JV (M 25 0 0)), x4] [JV (M 19 0 t), JV (M 25 0 0)]
          refine wp_max dX11_layLate_68 maX11_116 w_max (Nat.le_of_ble_eq_true rfl) (Nat.le_of_ble_eq_true rfl) ⟨by omega, by omega⟩ ⟨by omega, by omega⟩ ?_
          obtain ⟨b9, eb9⟩ : ∃ b9 : Int, b9 = max (M 25 0 0) (M 19 0 t) := ⟨_, rfl⟩
          rw [← eb9]
          refine wp_istore_n dX11_layLate_71 (Nat.le_of_ble_eq_true rfl) rfl ?_
          change WP G mX11_layLate _ _ _ _ h N 72 [some (.ref (cB G + 169)), some (JV (m : Int)), some (JV (t : Int)), some (JV b9), x4] []
          refine wp_aload_n dX11_layLate_72 rfl ?_
          refine wp_get fkX11_58 dX11_layLate_73 (P.s0 r) rfl ?_
          refine wp_iconst dX11_layLate_76 ?_
          refine wp_aaload dX11_layLate_77 P.q20 rfl rfl (by omega) (by omega) (by omega) (if_pos (by omega)) ?_
          change WP G mX11_layLate _ _ _ _ h N 78 [some (.ref (cB G + 169)), some (JV (m : Int)), some (JV (t : Int)), some (JV b9), x4] [.ref (cB G + 258 + 0)]
          refine wp_iload_n dX11_layLate_78 rfl ?_
          refine wp_aload_n dX11_layLate_79 rfl ?_
          refine wp_get fkX11_42 dX11_layLate_80 (P.s0 r) rfl ?_
          refine wp_iload_n dX11_layLate_83 rfl ?_
          refine wp_zaload dX11_layLate_84 (P.s12 r) (by omega) (by omega) (by omega) ?_
          change WP G mX11_layLate _ _ _ _ h N 85 [some (.ref (cB G + 169)), some (JV (m : Int)), some (JV (t : Int)), some (JV b9), x4] [JV (S 9 t 0), JV (t : Int), .ref (cB G + 258 + 0)]
          refine wp_if_eq 99 dX11_layLate_85 (by decide) ⟨by omega, by omega⟩ (fun c_85 => ?_) (fun c_85 => ?_)
          · exact absurd c_85 h9
          · refine wp_aload_n dX11_layLate_88 rfl ?_
            refine wp_get fkX11_46 dX11_layLate_89 (P.s0 r) rfl ?_
            refine wp_iconst dX11_layLate_92 ?_
            refine wp_aaload dX11_layLate_93 P.q13 rfl rfl (by omega) (by omega) (by omega) (if_pos (by omega)) ?_
            change WP G mX11_layLate _ _ _ _ h N 94 [some (.ref (cB G + 169)), some (JV (m : Int)), some (JV (t : Int)), some (JV b9), x4] [.ref (cB G + 210 + 0), JV (t : Int), .ref (cB G + 258 + 0)]
            refine wp_iload_n dX11_layLate_94 rfl ?_
            refine wp_iaload dX11_layLate_95 (P.s13a r) (by omega) (by omega) (by omega) ?_
            change WP G mX11_layLate _ _ _ _ h N 96 [some (.ref (cB G + 169)), some (JV (m : Int)), some (JV (t : Int)), some (JV b9), x4] [JV (S 10 t 0), JV (t : Int), .ref (cB G + 258 + 0)]
            refine wp_goto 100 dX11_layLate_96 (by decide) ?_
            refine wp_iastore dX11_layLate_100 (P.r20 (i := 0) (by omega)) (by omega) (by omega) (by omega) ?_
            obtain ⟨h_1, eh_1⟩ : ∃ hh9 : AH, hh9 = hup h (cB G + 258 + 0) (eI G 24 (fup (fun j9 => M 20 0 j9) t (S 10 t 0))) := ⟨_, rfl⟩
            refine WP.heq eh_1 ?_
            obtain ⟨M_1, eM_1⟩ : ∃ ss9 : ST, ss9 = su M 20 0 t (S 10 t 0) := ⟨_, rfl⟩
            have P_1 : MP G (N) M_1 L z h_1 := by rw [eM_1]; exact P.u2 (q := (20, 257, 2, 24)) (i := 0) (j := t) (v := S 10 t 0) (by decide) (show 0 < 2 by omega) eh_1
            have r_1 : RS S M_1 := by rw [eM_1]; exact r.der (by decide)
            refine wp_aload_n dX11_layLate_101 rfl ?_
            refine wp_get fkX11_58 dX11_layLate_102 (P_1.s0 r_1) rfl ?_
            refine wp_iconst dX11_layLate_105 ?_
            refine wp_aaload dX11_layLate_106 P_1.q20 rfl rfl (by omega) (by omega) (by omega) (if_pos (by omega)) ?_
            change WP G mX11_layLate _ _ _ _ h_1 N 107 [some (.ref (cB G + 169)), some (JV (m : Int)), some (JV (t : Int)), some (JV b9), x4] [.ref (cB G + 258 + 1)]
            refine wp_iload_n dX11_layLate_107 rfl ?_
            refine wp_aload_n dX11_layLate_108 rfl ?_
            refine wp_get fkX11_42 dX11_layLate_109 (P_1.s0 r_1) rfl ?_
            refine wp_iload_n dX11_layLate_112 rfl ?_
            refine wp_zaload dX11_layLate_113 (P_1.s12 r_1) (by omega) (by omega) (by omega) ?_
            change WP G mX11_layLate _ _ _ _ h_1 N 114 [some (.ref (cB G + 169)), some (JV (m : Int)), some (JV (t : Int)), some (JV b9), x4] [JV (S 9 t 0), JV (t : Int), .ref (cB G + 258 + 1)]
            refine wp_if_eq 128 dX11_layLate_114 (by decide) ⟨by omega, by omega⟩ (fun c_114 => ?_) (fun c_114 => ?_)
            · exact absurd c_114 h9
            · refine wp_aload_n dX11_layLate_117 rfl ?_
              refine wp_get fkX11_46 dX11_layLate_118 (P_1.s0 r_1) rfl ?_
              refine wp_iconst dX11_layLate_121 ?_
              refine wp_aaload dX11_layLate_122 P_1.q13 rfl rfl (by omega) (by omega) (by omega) (if_pos (by omega)) ?_
              change WP G mX11_layLate _ _ _ _ h_1 N 123 [some (.ref (cB G + 169)), some (JV (m : Int)), some (JV (t : Int)), some (JV b9), x4] [.ref (cB G + 210 + 1), JV (t : Int), .ref (cB G + 258 + 1)]
              refine wp_iload_n dX11_layLate_123 rfl ?_
              refine wp_iaload dX11_layLate_124 (P_1.s13b r_1) (by omega) (by omega) (by omega) ?_
              change WP G mX11_layLate _ _ _ _ h_1 N 125 [some (.ref (cB G + 169)), some (JV (m : Int)), some (JV (t : Int)), some (JV b9), x4] [JV (S 11 t 0), JV (t : Int), .ref (cB G + 258 + 1)]
              refine wp_goto 134 dX11_layLate_125 (by decide) ?_
              refine wp_iastore dX11_layLate_134 (P_1.r20 (i := 1) (by omega)) (by omega) (by omega) (by omega) ?_
              obtain ⟨h_2, eh_2⟩ : ∃ hh9 : AH, hh9 = hup h_1 (cB G + 258 + 1) (eI G 24 (fup (fun j9 => M_1 20 1 j9) t (S 11 t 0))) := ⟨_, rfl⟩
              refine WP.heq eh_2 ?_
              obtain ⟨M_2, eM_2⟩ : ∃ ss9 : ST, ss9 = su M_1 20 1 t (S 11 t 0) := ⟨_, rfl⟩
              have P_2 : MP G (N) M_2 L z h_2 := by rw [eM_2]; exact P_1.u2 (q := (20, 257, 2, 24)) (i := 1) (j := t) (v := S 11 t 0) (by decide) (show 1 < 2 by omega) eh_2
              have r_2 : RS S M_2 := by rw [eM_2]; exact r_1.der (by decide)
              refine wp_aload_n dX11_layLate_135 rfl ?_
              refine wp_get fkX11_61 dX11_layLate_136 (P_2.s0 r_2) rfl ?_
              refine wp_iload_n dX11_layLate_139 rfl ?_
              refine wp_iconst dX11_layLate_140 ?_
              refine wp_iastore dX11_layLate_141 P_2.c21 (by omega) (by omega) (by omega) ?_
              obtain ⟨h_3, eh_3⟩ : ∃ hh9 : AH, hh9 = hup h_2 (cB G + 260) (eI G 24 (fup (fun i => M_2 21 i 0) t 0)) := ⟨_, rfl⟩
              refine WP.heq eh_3 ?_
              obtain ⟨M_3, eM_3⟩ : ∃ ss9 : ST, ss9 = su M_2 21 t 0 0 := ⟨_, rfl⟩
              have P_3 : MP G (N) M_3 L z h_3 := by rw [eM_3]; exact P_2.u1 (q := (21, 260, 24, false)) (i := t) (v := 0) (by decide) eh_3
              have r_3 : RS S M_3 := by rw [eM_3]; exact r_2.der (by decide)
              refine wp_aload_n dX11_layLate_142 rfl ?_
              refine wp_get fkX11_55 dX11_layLate_143 (P_3.s0 r_3) rfl ?_
              refine wp_iconst dX11_layLate_146 ?_
              refine wp_aaload dX11_layLate_147 P_3.q19 rfl rfl (by omega) (by omega) (by omega) (if_pos (by omega)) ?_
              change WP G mX11_layLate _ _ _ _ h_3 N 148 [some (.ref (cB G + 169)), some (JV (m : Int)), some (JV (t : Int)), some (JV b9), x4] [.ref (cB G + 255 + 0)]
              refine wp_iload_n dX11_layLate_148 rfl ?_
              refine wp_iaload dX11_layLate_149 (P_3.r19 (i := 0) (by omega)) (by omega) (by omega) (by omega) ?_
              change WP G mX11_layLate _ _ _ _ h_3 N 150 [some (.ref (cB G + 169)), some (JV (m : Int)), some (JV (t : Int)), some (JV b9), x4] [JV (M_3 19 0 t)]
              refine wp_istore dX11_layLate_150 (Nat.le_of_ble_eq_true rfl) rfl ?_
              change WP G mX11_layLate _ _ _ _ h_3 N 152 [some (.ref (cB G + 169)), some (JV (m : Int)), some (JV (t : Int)), some (JV b9), some (JV (M_3 19 0 t))] []
              have e19 : M_3 19 = M 19 := by rw [eM_3, su_f (by decide), eM_2, su_f (by decide), eM_1, su_f (by decide)]
              have e200 : M_3 20 0 = fup (M 20 0) t (S 10 t 0) := by rw [eM_3, su_f (by decide), eM_2, su_rown (by decide), eM_1]; exact su_row
              have e201 : M_3 20 1 = fup (M 20 1) t (S 11 t 0) := by rw [eM_3, su_f (by decide), eM_2, su_row, eM_1, su_rown (by decide)]
              have e21 : ∀ x, x ≠ t → M_3 21 x 0 = M 21 x 0 := fun x hx => by rw [eM_3, su_i hx, eM_2, su_f (by decide), eM_1, su_f (by decide)]
              have e21t : M_3 21 t 0 = 0 := by rw [eM_3]; exact su_s
              have eo : ∀ f, f ≠ 20 → f ≠ 21 → M_3 f = M f := fun f h1 h2 => by rw [eM_3, su_f h2, eM_2, su_f h1, eM_1, su_f h1]
              have fr3 := ((fr.up eh_1 (by omega)).up eh_2 (by omega)).up eh_3 (by omega)
              have sv := lt.step tp tq hkn et (v := S 10 t 0) (v2 := S 11 t 0) (v3 := 0) (by omega) ⟨fun _ => ⟨rfl, rfl, rfl⟩, fun q9 => absurd q9 h9⟩
              have hdt : -1000000 ≤ M_3 19 0 t ∧ M_3 19 0 t ≤ 1000000 := by rw [e19]; omega
              refine wp_iload dX11_layLate_152 rfl ?_
              refine wp_iload_n dX11_layLate_154 rfl ?_
              refine wp_icmp_ge 211 dX11_layLate_155 (by decide) ⟨by omega, by omega⟩ ⟨by omega, by omega⟩ (fun c_155 => ?_) (fun c_155 => ?_)
              · refine wp_iinc dX11_layLate_211 rfl (Nat.le_of_ble_eq_true rfl) rfl ?_
                change WP G mX11_layLate _ _ _ _ h_3 N 214 [some (.ref (cB G + 169)), some (JV ((m : Int) + (-1))), some (JV (t : Int)), some (JV b9), some (JV (M_3 19 0 t))] []
                refine wp_goto 7 dX11_layLate_214 (by decide) ?_
                rw [show (m : Int) + (-1) = (m : Int) - 1 by omega]
                refine ih m M_3 h_3 _ _ _ rfl (by omega) P_3 r_3 (fun i => by rw [eo 18 (by decide) (by decide)]; exact hq i) ?_ fr3 (fun f h1 h2 => by rw [eo f h1 h2]; exact hM f h1 h2) kk
                rw [e19, e200, e201, eo 25 (by decide) (by decide), show (fun x => M_3 21 x 0) = fup (fun x => M 21 x 0) t 0 from funext fun x => by
                  by_cases hx : x = t
                  · rw [hx, fupe, e21t]
                  · rw [fupn hx, e21 x hx]]
                exact sv
              · refine wp_aload_n dX11_layLate_158 rfl ?_
                refine wp_get fkX11_42 dX11_layLate_159 (P_3.s0 r_3) rfl ?_
                refine wp_iload_n dX11_layLate_162 rfl ?_
                refine wp_zaload dX11_layLate_163 (P_3.s12 r_3) (by omega) (by omega) (by omega) ?_
                change WP G mX11_layLate _ _ _ _ h_3 N 164 [some (.ref (cB G + 169)), some (JV (m : Int)), some (JV (t : Int)), some (JV b9), some (JV (M_3 19 0 t))] [JV (S 9 t 0)]
                refine wp_if_ne 211 dX11_layLate_164 (by decide) ⟨by omega, by omega⟩ (fun c_164 => ?_) (fun c_164 => ?_)
                · refine wp_iinc dX11_layLate_211 rfl (Nat.le_of_ble_eq_true rfl) rfl ?_
                  change WP G mX11_layLate _ _ _ _ h_3 N 214 [some (.ref (cB G + 169)), some (JV ((m : Int) + (-1))), some (JV (t : Int)), some (JV b9), some (JV (M_3 19 0 t))] []
                  refine wp_goto 7 dX11_layLate_214 (by decide) ?_
                  rw [show (m : Int) + (-1) = (m : Int) - 1 by omega]
                  refine ih m M_3 h_3 _ _ _ rfl (by omega) P_3 r_3 (fun i => by rw [eo 18 (by decide) (by decide)]; exact hq i) ?_ fr3 (fun f h1 h2 => by rw [eo f h1 h2]; exact hM f h1 h2) kk
                  rw [e19, e200, e201, eo 25 (by decide) (by decide), show (fun x => M_3 21 x 0) = fup (fun x => M 21 x 0) t 0 from funext fun x => by
                    by_cases hx : x = t
                    · rw [hx, fupe, e21t]
                    · rw [fupn hx, e21 x hx]]
                  exact sv
                · exact absurd c_164 h9
        · exact absurd c_29 h9

theorem m_layLate (P : MP G N M L z h) (r : RS S M) (w : WF S) (tp : TOP S) (tq : TOQ S (fun i => M 18 i 0)) (ep : EP S (M 19 0) (M 19 1)) (ldy : LDY S (M 19 1) (M 25 0 0)) : CT G mX11_layLate [.ref (cB G + 169)] h N 0 0 (fun r h' N' => r = none ∧ N' = N ∧ ∃ M', MP G N M' L z h' ∧ RS S M' ∧ LATE S (M' 19 0) (M' 20 0) (M' 20 1) (fun t => M' 21 t 0) (M' 25 0 0) ∧ (∀ f, f ≠ 20 → f ≠ 21 → M' f = M f) ∧ FRM G h h') := by
  refine CT_of (by decide +kernel) rfl (by simp [Value.category]) (Nat.le_of_ble_eq_true rfl) ?_
  change WP G mX11_layLate _ noX _ _ h N 0 [some (.ref (cB G + 169)), none, none, none, none] []
  refine wp_aload_n dX11_layLate_0 rfl ?_
  refine wp_get fkX11_96 dX11_layLate_1 (P.s0 r) rfl ?_
  refine wp_iconst dX11_layLate_4 ?_
  refine wp_isub dX11_layLate_5 ?_
  refine wp_istore_n dX11_layLate_6 (Nat.le_of_ble_eq_true rfl) rfl ?_
  change WP G mX11_layLate _ _ _ _ h N 7 [some (.ref (cB G + 169)), some (JV ((S 13 0 0) - 1)), none, none, none] []
  have wT := w.nT
  obtain ⟨k, ek⟩ : ∃ k : Nat, S 13 0 0 = (k : Int) := ⟨(S 13 0 0).toNat, by omega⟩
  rw [ek]
  refine l_layLate (h0 := h) (M0 := M) w tp tq ep ldy _ k M h _ _ _ rfl (by omega) P r (fun i => rfl) ⟨fun i h1 h2 => absurd h2 (by omega), fun i h1 h2 => absurd h2 (by omega)⟩ FRM.rf (fun f _ _ => rfl) (fun M2 h2 P2 r2 lt f2 m2 => ⟨rfl, rfl, M2, P2, r2, lt, m2, f2⟩)

end Mt

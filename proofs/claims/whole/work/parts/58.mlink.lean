/-! ===== the reference: links told ===== -/
section Ml
variable {G : Ctx} {h h1 : AH} {N : Nat} {S M : ST} {L L' : Nat → Nat} {z : Int64} {K : KTup}
def sL (M : ST) (v : Nat → Nat → Int) : ST := fun f => if f = 15 then v else M f
theorem sL_n {v : Nat → Nat → Int} {f : Nat} (hf : f ≠ 15) : sL M v f = M f := if_neg hf
theorem sL_15 {v : Nat → Nat → Int} : sL M v 15 = v := rfl
def tkL (L : Nat → Nat) (k n : Nat) : Nat → Nat := fun i => if k ≤ i ∧ i + 1 < n then L (i + 1) else L i
def tkV (g : Nat → Nat → Int) (k n : Nat) : Nat → Nat → Int := fun i => if k ≤ i ∧ i + 1 < n then g (i + 1) else g i
theorem MP.lk {v : Nat → Nat → Int} (H : MP G N M L z h) (e : h1 = hup h (cB G + 212) (eQ G 4 40 (fun i => if i < 40 then some (L' i) else none))) (hL : ∀ i, i < 40 → h (L' i) = some (eI G 4 (fun j => v i j)) ∧ ((cB G + 213 ≤ L' i ∧ L' i < cB G + 253) ∨ cB G + 283 ≤ L' i) ∧ L' i < N) : MP G N (sL M v) L' z h1 := by
  obtain ⟨a, b, c, d, f⟩ := H
  refine ⟨?_, fun q hq => ?_, fun q hq => ?_, ?_, fun i hi => ?_, f.2⟩
  · rw [hup_at e (by omega), a, cMod_c (fun f hf => sL_n (fun q => (mSC_d f hf).2.2 q.symm))]
  · have r := mA1_r q hq
    rw [hup_at e (by omega), b q hq, sL_n r.2.1]
  · have r := mA2_r q hq
    refine ⟨by rw [hup_at e (by omega), (c q hq).1], fun i hi => by rw [hup_at e (by omega), (c q hq).2 i hi, sL_n r.2.1]⟩
  · rw [e]; exact hup_self _ _ _
  · obtain ⟨x, y, w⟩ := hL i hi
    exact ⟨by rw [hup_at e (by omega), x]; rfl, y, w⟩
theorem MP.qe {i b : Nat} (H : MP G N M L z h) (hb : (if i < 40 then some (L i) else none) = some b) : ∃ (m2 : Nat) (g : Nat → Int), h b = some (eI G m2 g) := by
  by_cases hi : i < 40
  · rw [if_pos hi] at hb
    cases hb
    exact ⟨4, _, H.rL hi⟩
  · rw [if_neg hi] at hb
    cases hb
theorem tk_cpy {k n : Nat} (hk : k < n) (hn : n ≤ 40) : va_cpy (fun i => if i < 40 then some (L i) else none) (fun i => if i < 40 then some (L i) else none) ((k : Int) + 1).toNat (k : Int).toNat ((n : Int) - 1 - (k : Int)).toNat = fun i => if i < 40 then some (tkL L k n i) else none := by
  funext i
  unfold va_cpy tkL
  by_cases hc : k ≤ i ∧ i + 1 < n
  · rw [if_pos (by omega), show ((k : Int) + 1).toNat + (i - (k : Int).toNat) = i + 1 by omega, if_pos (show i < 40 by omega), if_pos hc]
    exact if_pos (by omega)
  · rw [if_neg (by omega), if_neg hc]
/-- a link taken out -/
def DRP (S S' : ST) (k n : Nat) : Prop := (∀ f, f ≠ 14 → f ≠ 18 → S' f = S f) ∧ S' 14 0 0 = (n : Int) - 1 ∧ ∀ i, S' 18 i 0 = tkO (fun i => S 18 i 0) k n i
def tkM (M : ST) (k n : Nat) : ST := su (sL (su M 14 0 0 ((n : Int) - 1)) (tkV (M 15) k n)) 17 0 0 0
theorem RS_tk {S' : ST} {k n : Nat} (r : RS S M) (hn : S 14 0 0 = (n : Int)) (hk : k < n) (dr : DRP S S' k n) : RS S' (tkM M k n) := by
  obtain ⟨a, b, c, d, f⟩ := r
  obtain ⟨e, e14, e18⟩ := dr
  unfold RS lF lT lK lG tkM
  unfold lF lT lK lG at d
  simp only [e 0 (by decide) (by decide), e 1 (by decide) (by decide), e 2 (by decide) (by decide), e 3 (by decide) (by decide), e 4 (by decide) (by decide), e 5 (by decide) (by decide), e 6 (by decide) (by decide), e 7 (by decide) (by decide), e 8 (by decide) (by decide), e 9 (by decide) (by decide), e 10 (by decide) (by decide), e 11 (by decide) (by decide), e 12 (by decide) (by decide), e 13 (by decide) (by decide), e 15 (by decide) (by decide), e 19 (by decide) (by decide), e 20 (by decide) (by decide), e 21 (by decide) (by decide), e 22 (by decide) (by decide), (su_f (by decide) : su (sL (su M 14 0 0 ((n : Int) - 1)) (tkV (M 15) k n)) 17 0 0 0 1 = sL (su M 14 0 0 ((n : Int) - 1)) (tkV (M 15) k n) 1), (su_f (by decide) : su (sL (su M 14 0 0 ((n : Int) - 1)) (tkV (M 15) k n)) 17 0 0 0 2 = sL (su M 14 0 0 ((n : Int) - 1)) (tkV (M 15) k n) 2), (su_f (by decide) : su (sL (su M 14 0 0 ((n : Int) - 1)) (tkV (M 15) k n)) 17 0 0 0 3 = sL (su M 14 0 0 ((n : Int) - 1)) (tkV (M 15) k n) 3), (su_f (by decide) : su (sL (su M 14 0 0 ((n : Int) - 1)) (tkV (M 15) k n)) 17 0 0 0 4 = sL (su M 14 0 0 ((n : Int) - 1)) (tkV (M 15) k n) 4), (su_f (by decide) : su (sL (su M 14 0 0 ((n : Int) - 1)) (tkV (M 15) k n)) 17 0 0 0 5 = sL (su M 14 0 0 ((n : Int) - 1)) (tkV (M 15) k n) 5), (su_f (by decide) : su (sL (su M 14 0 0 ((n : Int) - 1)) (tkV (M 15) k n)) 17 0 0 0 6 = sL (su M 14 0 0 ((n : Int) - 1)) (tkV (M 15) k n) 6), (su_f (by decide) : su (sL (su M 14 0 0 ((n : Int) - 1)) (tkV (M 15) k n)) 17 0 0 0 7 = sL (su M 14 0 0 ((n : Int) - 1)) (tkV (M 15) k n) 7), (su_f (by decide) : su (sL (su M 14 0 0 ((n : Int) - 1)) (tkV (M 15) k n)) 17 0 0 0 8 = sL (su M 14 0 0 ((n : Int) - 1)) (tkV (M 15) k n) 8), (su_f (by decide) : su (sL (su M 14 0 0 ((n : Int) - 1)) (tkV (M 15) k n)) 17 0 0 0 9 = sL (su M 14 0 0 ((n : Int) - 1)) (tkV (M 15) k n) 9), (su_f (by decide) : su (sL (su M 14 0 0 ((n : Int) - 1)) (tkV (M 15) k n)) 17 0 0 0 10 = sL (su M 14 0 0 ((n : Int) - 1)) (tkV (M 15) k n) 10), (su_f (by decide) : su (sL (su M 14 0 0 ((n : Int) - 1)) (tkV (M 15) k n)) 17 0 0 0 11 = sL (su M 14 0 0 ((n : Int) - 1)) (tkV (M 15) k n) 11), (su_f (by decide) : su (sL (su M 14 0 0 ((n : Int) - 1)) (tkV (M 15) k n)) 17 0 0 0 12 = sL (su M 14 0 0 ((n : Int) - 1)) (tkV (M 15) k n) 12), (su_f (by decide) : su (sL (su M 14 0 0 ((n : Int) - 1)) (tkV (M 15) k n)) 17 0 0 0 13 = sL (su M 14 0 0 ((n : Int) - 1)) (tkV (M 15) k n) 13), (su_f (by decide) : su (sL (su M 14 0 0 ((n : Int) - 1)) (tkV (M 15) k n)) 17 0 0 0 14 = sL (su M 14 0 0 ((n : Int) - 1)) (tkV (M 15) k n) 14), (su_f (by decide) : su (sL (su M 14 0 0 ((n : Int) - 1)) (tkV (M 15) k n)) 17 0 0 0 15 = sL (su M 14 0 0 ((n : Int) - 1)) (tkV (M 15) k n) 15), (su_f (by decide) : su (sL (su M 14 0 0 ((n : Int) - 1)) (tkV (M 15) k n)) 17 0 0 0 16 = sL (su M 14 0 0 ((n : Int) - 1)) (tkV (M 15) k n) 16), (sL_n (by decide) : sL (su M 14 0 0 ((n : Int) - 1)) (tkV (M 15) k n) 1 = su M 14 0 0 ((n : Int) - 1) 1), (sL_n (by decide) : sL (su M 14 0 0 ((n : Int) - 1)) (tkV (M 15) k n) 2 = su M 14 0 0 ((n : Int) - 1) 2), (sL_n (by decide) : sL (su M 14 0 0 ((n : Int) - 1)) (tkV (M 15) k n) 3 = su M 14 0 0 ((n : Int) - 1) 3), (sL_n (by decide) : sL (su M 14 0 0 ((n : Int) - 1)) (tkV (M 15) k n) 4 = su M 14 0 0 ((n : Int) - 1) 4), (sL_n (by decide) : sL (su M 14 0 0 ((n : Int) - 1)) (tkV (M 15) k n) 5 = su M 14 0 0 ((n : Int) - 1) 5), (sL_n (by decide) : sL (su M 14 0 0 ((n : Int) - 1)) (tkV (M 15) k n) 6 = su M 14 0 0 ((n : Int) - 1) 6), (sL_n (by decide) : sL (su M 14 0 0 ((n : Int) - 1)) (tkV (M 15) k n) 7 = su M 14 0 0 ((n : Int) - 1) 7), (sL_n (by decide) : sL (su M 14 0 0 ((n : Int) - 1)) (tkV (M 15) k n) 8 = su M 14 0 0 ((n : Int) - 1) 8), (sL_n (by decide) : sL (su M 14 0 0 ((n : Int) - 1)) (tkV (M 15) k n) 9 = su M 14 0 0 ((n : Int) - 1) 9), (sL_n (by decide) : sL (su M 14 0 0 ((n : Int) - 1)) (tkV (M 15) k n) 10 = su M 14 0 0 ((n : Int) - 1) 10), (sL_n (by decide) : sL (su M 14 0 0 ((n : Int) - 1)) (tkV (M 15) k n) 11 = su M 14 0 0 ((n : Int) - 1) 11), (sL_n (by decide) : sL (su M 14 0 0 ((n : Int) - 1)) (tkV (M 15) k n) 12 = su M 14 0 0 ((n : Int) - 1) 12), (sL_n (by decide) : sL (su M 14 0 0 ((n : Int) - 1)) (tkV (M 15) k n) 13 = su M 14 0 0 ((n : Int) - 1) 13), (sL_n (by decide) : sL (su M 14 0 0 ((n : Int) - 1)) (tkV (M 15) k n) 14 = su M 14 0 0 ((n : Int) - 1) 14), (sL_n (by decide) : sL (su M 14 0 0 ((n : Int) - 1)) (tkV (M 15) k n) 16 = su M 14 0 0 ((n : Int) - 1) 16), sL_15, (su_f (by decide) : su M 14 0 0 ((n : Int) - 1) 1 = M 1), (su_f (by decide) : su M 14 0 0 ((n : Int) - 1) 2 = M 2), (su_f (by decide) : su M 14 0 0 ((n : Int) - 1) 3 = M 3), (su_f (by decide) : su M 14 0 0 ((n : Int) - 1) 4 = M 4), (su_f (by decide) : su M 14 0 0 ((n : Int) - 1) 5 = M 5), (su_f (by decide) : su M 14 0 0 ((n : Int) - 1) 6 = M 6), (su_f (by decide) : su M 14 0 0 ((n : Int) - 1) 7 = M 7), (su_f (by decide) : su M 14 0 0 ((n : Int) - 1) 8 = M 8), (su_f (by decide) : su M 14 0 0 ((n : Int) - 1) 9 = M 9), (su_f (by decide) : su M 14 0 0 ((n : Int) - 1) 10 = M 10), (su_f (by decide) : su M 14 0 0 ((n : Int) - 1) 11 = M 11), (su_f (by decide) : su M 14 0 0 ((n : Int) - 1) 12 = M 12), (su_f (by decide) : su M 14 0 0 ((n : Int) - 1) 13 = M 13), (su_f (by decide) : su M 14 0 0 ((n : Int) - 1) 16 = M 16), e14]
  refine ⟨a, b, ⟨c.1, su_s, c.2.2⟩, fun j hj => ?_, f⟩
  rw [e18 j]
  unfold tkO tkV
  by_cases hc : k ≤ j ∧ j + 1 < n
  · rw [if_pos hc, if_pos hc]
    exact d (j + 1) (by omega)
  · rw [if_neg hc, if_neg hc, if_neg (by omega)]
    exact d j (by omega)
theorem m_take (P : MP G N M L z h) {k n : Nat} (e14 : M 14 0 0 = (n : Int)) (hk : k < n) (hn4 : n ≤ 40) : CT G mX11_take [.ref (cB G + 169), JV (k : Int)] h N 0 0 (fun r h' N' => r = none ∧ N' = N ∧ MP G N (tkM M k n) (tkL L k n) z h' ∧ FA G N h h') := by
  have hN0 := P.nN
  refine CT_of (by decide +kernel) rfl (by simp [Value.category]) (Nat.le_of_ble_eq_true rfl) ?_
  change WP G mX11_take _ noX _ _ h N 0 [some (.ref (cB G + 169)), some (JV (k : Int))] []
  refine wp_aload_n dX11_take_0 rfl ?_
  refine wp_dup dX11_take_1 rfl ?_
  refine wp_get fkX11_99 dX11_take_2 P.c0 rfl ?_
  rw [e14]
  refine wp_iconst dX11_take_5 ?_
  refine wp_isub dX11_take_6 ?_
  refine wp_put fkX11_99 dX11_take_7 P.c0 rfl rfl (Nat.le_of_ble_eq_true rfl) ?_
  obtain ⟨h_1, eh_1⟩ : ∃ hh9 : AH, hh9 = hup h (cB G + 169) (eO 11 [JV (M 0 0 0), .ref (cB G + 170), .ref (cB G + 171), .ref (cB G + 172), .ref (cB G + 177), .ref (cB G + 178), JV (M 6 0 0), .ref (cB G + 179), .ref (cB G + 180), .ref (cB G + 181), .ref (cB G + 182), .ref (cB G + 183), .ref (cB G + 208), .ref (cB G + 209), JV ((n : Int) - 1), .ref (cB G + 212), JV (M 16 0 0), JV (M 17 0 0), .ref (cB G + 253), .ref (cB G + 254), .ref (cB G + 257), .ref (cB G + 260), .ref (cB G + 261), .ref (cB G + 264), JV (M 24 0 0), JV (M 25 0 0), JV (M 26 0 0), .ref (cB G + 265), JV (M 28 0 0), .ref (cB G + 270), .ref (cB G + 273), .ref (cB G + 274), .ref (cB G + 275), .ref (cB G + 276), .long z]) := ⟨_, rfl⟩
  refine WP.heq eh_1 ?_
  obtain ⟨M_1, eM_1⟩ : ∃ ss9 : ST, ss9 = su M 14 0 0 ((n : Int) - 1) := ⟨_, rfl⟩
  have P_1 : MP G (N) M_1 L z h_1 := by rw [eM_1]; exact P.sc (f := 14) (v := (n : Int) - 1) (by decide) (eh_1.trans (by simp [cMod, su]))
  refine wp_aload_n dX11_take_10 rfl ?_
  refine wp_get fkX11_49 dX11_take_11 P_1.c0 rfl ?_
  refine wp_iload_n dX11_take_14 rfl ?_
  refine wp_iconst dX11_take_15 ?_
  refine wp_iadd dX11_take_16 ?_
  refine wp_aload_n dX11_take_17 rfl ?_
  refine wp_get fkX11_49 dX11_take_18 P_1.c0 rfl ?_
  refine wp_iload_n dX11_take_21 rfl ?_
  refine wp_aload_n dX11_take_22 rfl ?_
  refine wp_get fkX11_99 dX11_take_23 P_1.c0 rfl ?_
  rw [show M_1 14 0 0 = (n : Int) - 1 by rw [eM_1]; exact su_s]
  refine wp_iload_n dX11_take_26 rfl ?_
  refine wp_isub dX11_take_27 ?_
  refine wp_copyII (G := G) dX11_take_28 acX11_207 w_arr (Nat.le_of_ble_eq_true rfl) (Nat.le_of_ble_eq_true rfl) P_1.qL P_1.qL (by omega) (by omega) (by omega) (by omega) (by omega) (by decide) (by decide) (fun i _ b hb => P_1.qe hb) ?_
  obtain ⟨h_c, eh_c⟩ : ∃ hh9 : AH, hh9 = hup h_1 (cB G + 212) (eQ G 4 40 (fun i => if i < 40 then some (tkL L k n i) else none)) := ⟨_, rfl⟩
  rw [tk_cpy hk hn4]
  refine WP.heq eh_c ?_
  have P_c : MP G (N) (sL M_1 (tkV (M_1 15) k n)) (tkL L k n) z h_c := P_1.lk eh_c (fun i hi => by
            unfold tkL tkV
            by_cases hc : k ≤ i ∧ i + 1 < n
            · rw [if_pos hc, if_pos hc]
              exact P_1.2.2.2.2.1 (i + 1) (by omega)
            · rw [if_neg hc, if_neg hc]
              exact P_1.2.2.2.2.1 i hi)
  obtain ⟨M_c, eM_c⟩ : ∃ ss9 : ST, ss9 = sL M_1 (tkV (M_1 15) k n) := ⟨_, rfl⟩
  rw [← eM_c] at P_c
  change WP G mX11_take _ _ _ _ h_c N 31 [some (.ref (cB G + 169)), some (JV (k : Int))] []
  refine wp_aload_n dX11_take_31 rfl ?_
  refine wp_iconst dX11_take_32 ?_
  refine wp_put fkX11_175 dX11_take_33 P_c.c0 rfl rfl (Nat.le_of_ble_eq_true rfl) ?_
  obtain ⟨h_2, eh_2⟩ : ∃ hh9 : AH, hh9 = hup h_c (cB G + 169) (eO 11 [JV (M_c 0 0 0), .ref (cB G + 170), .ref (cB G + 171), .ref (cB G + 172), .ref (cB G + 177), .ref (cB G + 178), JV (M_c 6 0 0), .ref (cB G + 179), .ref (cB G + 180), .ref (cB G + 181), .ref (cB G + 182), .ref (cB G + 183), .ref (cB G + 208), .ref (cB G + 209), JV (M_c 14 0 0), .ref (cB G + 212), JV (M_c 16 0 0), JV 0, .ref (cB G + 253), .ref (cB G + 254), .ref (cB G + 257), .ref (cB G + 260), .ref (cB G + 261), .ref (cB G + 264), JV (M_c 24 0 0), JV (M_c 25 0 0), JV (M_c 26 0 0), .ref (cB G + 265), JV (M_c 28 0 0), .ref (cB G + 270), .ref (cB G + 273), .ref (cB G + 274), .ref (cB G + 275), .ref (cB G + 276), .long z]) := ⟨_, rfl⟩
  refine WP.heq eh_2 ?_
  obtain ⟨M_2, eM_2⟩ : ∃ ss9 : ST, ss9 = su M_c 17 0 0 0 := ⟨_, rfl⟩
  have P_2 : MP G (N) M_2 (tkL L k n) z h_2 := by rw [eM_2]; exact P_c.sc (f := 17) (v := 0) (by decide) (eh_2.trans (by simp [cMod, su]))
  refine wp_vret dX11_take_36 rfl ?_
  have e_ : M_2 = tkM M k n := by
    rw [eM_2, eM_c, show M_1 15 = M 15 by rw [eM_1]; exact su_f (by decide), eM_1]; rfl
  exact ⟨rfl, rfl, by rw [← e_]; exact P_2, ((FA.rf.up eh_1 (by omega)).up eh_c (by omega)).up eh_2 (by omega)⟩

theorem tkM_f {k n f : Nat} (h1 : f ≠ 14) (h2 : f ≠ 15) (h3 : f ≠ 17) : tkM M k n f = M f := by unfold tkM; rw [su_f h3, sL_n h2, su_f h1]
theorem m_drop (P : MP G N M L z h) (r : RS S M) (w : WF S) {S' : ST} {l : Int} (hl : InR l) (hS : 0 ≤ l ∧ l < S 14 0 0 → DRP S S' l.toNat (S 14 0 0).toNat) : CT G mX11_drop [.ref (cB G + 169), JV l] h N 0 0 (fun r h' N' => ∃ M' L', ((0 ≤ l ∧ l < S 14 0 0) ∧ MRG G S' M L' z h N M' h' N' ∧ r = some (JV (S' 14 0 0))) ∨ (¬ (0 ≤ l ∧ l < S 14 0 0) ∧ MRB G S M L' z h N 1 M' h' N' ∧ r = some (JV 0))) := by
  have wT := w.nT
  have wL := w.nL
  have wR := w.rule
  have hN0 := P.nN
  refine CT_of (by decide +kernel) rfl (by simp [Value.category]) (Nat.le_of_ble_eq_true rfl) ?_
  change WP G mX11_drop _ noX _ _ h N 0 [some (.ref (cB G + 169)), some (JV l)] []
  refine wp_aload_n dX11_drop_0 rfl ?_
  refine wp_iconst dX11_drop_1 ?_
  refine wp_put fkX11_88 dX11_drop_2 (P.s0 r) rfl rfl (Nat.le_of_ble_eq_true rfl) ?_
  obtain ⟨h_1, eh_1⟩ : ∃ hh9 : AH, hh9 = hup h (cB G + 169) (eO 11 [JV 0, .ref (cB G + 170), .ref (cB G + 171), .ref (cB G + 172), .ref (cB G + 177), .ref (cB G + 178), JV (S 13 0 0), .ref (cB G + 179), .ref (cB G + 180), .ref (cB G + 181), .ref (cB G + 182), .ref (cB G + 183), .ref (cB G + 208), .ref (cB G + 209), JV (S 14 0 0), .ref (cB G + 212), JV (S 15 0 0), JV (M 17 0 0), .ref (cB G + 253), .ref (cB G + 254), .ref (cB G + 257), .ref (cB G + 260), .ref (cB G + 261), .ref (cB G + 264), JV (M 24 0 0), JV (M 25 0 0), JV (M 26 0 0), .ref (cB G + 265), JV (M 28 0 0), .ref (cB G + 270), .ref (cB G + 273), .ref (cB G + 274), .ref (cB G + 275), .ref (cB G + 276), .long z]) := ⟨_, rfl⟩
  refine WP.heq eh_1 ?_
  obtain ⟨M_1, eM_1⟩ : ∃ ss9 : ST, ss9 = su M 0 0 0 0 := ⟨_, rfl⟩
  have P_1 : MP G (N) M_1 L z h_1 := by rw [eM_1]; exact P.sc (f := 0) (v := 0) (by decide) (eh_1.trans (by simp [cMod, su, r.2.2.1.1, r.2.2.1.2.1, r.2.2.1.2.2]))
  have r_1 : RS S M_1 := by rw [eM_1]; exact r.der (by decide)
  refine wp_aload_n dX11_drop_5 rfl ?_
  refine wp_iload_n dX11_drop_6 rfl ?_
  refine wp_v1p (m_isLink (N := N) P_1 r_1 w hl) cvX11_213 dX11_drop_7 ⟨Nat.le_of_ble_eq_true rfl, Nat.le_of_ble_eq_true rfl⟩ (Nat.le_of_ble_eq_true rfl) (P_1.s0 r_1) rfl rfl ?_
  refine wp_if_ne 19 dX11_drop_10 (by decide) (bI_r _) (fun c_10 => ?_) (fun c_10 => ?_)
  · have q_10 := bI_p c_10
    obtain ⟨l9, rfl⟩ : ∃ l9 : Nat, l = (l9 : Int) := ⟨l.toNat, by omega⟩
    obtain ⟨n9, hn9⟩ : ∃ n9 : Nat, S 14 0 0 = (n9 : Int) := ⟨(S 14 0 0).toNat, by omega⟩
    have dr : DRP S S' l9 n9 := by have q := hS (by omega); rw [hn9] at q; exact q
    refine wp_aload_n dX11_drop_19 rfl ?_
    refine wp_iload_n dX11_drop_20 rfl ?_
    refine wp_v1 0 0 (m_take (N := N) P_1 (k := l9) (n := n9) (by rw [eM_1, su_f (by decide)]; exact r.2.2.1.2.1.trans hn9) (by omega) (by omega)) cvX11_216 dX11_drop_21 ⟨Nat.le_of_ble_eq_true rfl, Nat.le_of_ble_eq_true rfl⟩ (Nat.le_of_ble_eq_true rfl) P_1.c0 rfl rfl (by omega) (by omega) (fun r9 h8 N8 hq => ?_)
    obtain ⟨rfl, hN8, P8, f8⟩ := hq
    rw [hN8]
    have r8 : RS S' (tkM M_1 l9 n9) := RS_tk r_1 hn9 (by omega) dr
    change WP G mX11_drop _ _ _ _ h8 N 24 [some (.ref (cB G + 169)), some (JV (l9 : Int))] []
    refine wp_aload_n dX11_drop_24 rfl ?_
    refine wp_get fkX11_99 dX11_drop_25 (P8.s0 r8) rfl ?_
    refine wp_iret dX11_drop_28 rfl ?_
    exact ⟨tkM M_1 l9 n9, tkL L l9 n9, Or.inl ⟨by omega, ⟨Nat.le_refl _, by omega, P8, r8, by rw [tkM_f (by decide) (by decide) (by decide), eM_1]; exact su_s, su_s, fun f hf => by rw [tkM_f ((show ∀ x ∈ mKP, x ≠ 14 by decide) f hf) ((show ∀ x ∈ mKP, x ≠ 15 by decide) f hf) ((show ∀ x ∈ mKP, x ≠ 17 by decide) f hf), eM_1, su_f ((show ∀ x ∈ mKP, x ≠ 0 by decide) f hf)], (FA.rf.up eh_1 (by omega)).tr f8 (Nat.le_refl _)⟩, rfl⟩⟩
  · refine wp_aload_n dX11_drop_13 rfl ?_
    refine wp_iconst dX11_drop_14 ?_
    refine wp_v1 0 0 (m_refuse (N := N) (x := 1) P_1) cvX11_194 dX11_drop_15 ⟨Nat.le_of_ble_eq_true rfl, Nat.le_of_ble_eq_true rfl⟩ (Nat.le_of_ble_eq_true rfl) (P_1.s0 r_1) rfl rfl (by omega) (by omega) (fun r9 h8 N8 hq => ?_)
    obtain ⟨hN8, rfl, M8, P8, e8, f8⟩ := hq
    rw [hN8]
    have r8 : RS S M8 := by rw [e8]; exact r_1.der (by decide)
    change WP G mX11_drop _ _ _ _ h8 N 18 [some (.ref (cB G + 169)), some (JV l)] [JV 0]
    refine wp_iret dX11_drop_18 rfl ?_
    exact ⟨M8, L, Or.inr ⟨(fun q => by rw [decide_eq_true (show 0 ≤ l ∧ l ≤ S 14 0 0 - 1 by omega)] at c_10; exact absurd c_10 (by decide)), ⟨Nat.le_refl _, by omega, P8, r8, by rw [e8]; exact su_s, fun f h0 => by rw [e8, su_f h0, eM_1, su_f h0], (FA.rf.up eh_1 (by omega)).tr f8.fa (Nat.le_refl _)⟩, rfl⟩⟩

end Ml

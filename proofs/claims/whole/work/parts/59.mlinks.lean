/-! ===== the reference: a link told ===== -/
section Mlk
variable {G : Ctx} {h h1 : AH} {N : Nat} {S M : ST} {L L' : Nat → Nat} {z : Int64} {K : KTup}
def lkL (L : Nat → Nat) (n b : Nat) : Nat → Nat := fun i => if i = n then b else L i
def lkV (g : Nat → Nat → Int) (n : Nat) (v : Nat → Int) : Nat → Nat → Int := fun i => if i = n then v else g i
theorem lk_fup {n b : Nat} (hn : n < 40) : fup (fun i => if i < 40 then some (L i) else none) (n : Int).toNat (some b) = fun i => if i < 40 then some (lkL L n b i) else none := by
  funext i
  unfold fup lkL
  by_cases hc : i = n
  · rw [if_pos (by omega), if_pos (by omega), if_pos hc]
  · rw [if_neg (by omega), if_neg hc]
def lkM (M : ST) (n : Nat) (v : Nat → Int) : ST := su (su (sL M (lkV (M 15) n v)) 14 0 0 ((n : Int) + 1)) 17 0 0 0
theorem RS_lk {S' : ST} {n : Nat} {v : Nat → Int} (r : RS S M) (hn : S 14 0 0 = (n : Int)) (al : ALx S (v 0) (v 1) (v 2) (v 3) S') (hx : ∀ j : Nat, j < n → (S 18 j 0).toNat ≠ (S 18 n 0).toNat) : RS S' (lkM M n v) := by
  obtain ⟨a, b, c, d, f⟩ := r
  obtain ⟨e, e14, e19, e20, e21, e22⟩ := al
  rw [hn, show (n : Int).toNat = n from rfl] at e19 e20 e21 e22
  rw [hn] at e14
  unfold RS lF lT lK lG lkM
  unfold lF lT lK lG at d
  simp only [e 0 (by decide) (by decide) (by decide) (by decide) (by decide) (by decide) (by decide), e 1 (by decide) (by decide) (by decide) (by decide) (by decide) (by decide) (by decide), e 2 (by decide) (by decide) (by decide) (by decide) (by decide) (by decide) (by decide), e 3 (by decide) (by decide) (by decide) (by decide) (by decide) (by decide) (by decide), e 4 (by decide) (by decide) (by decide) (by decide) (by decide) (by decide) (by decide), e 5 (by decide) (by decide) (by decide) (by decide) (by decide) (by decide) (by decide), e 6 (by decide) (by decide) (by decide) (by decide) (by decide) (by decide) (by decide), e 7 (by decide) (by decide) (by decide) (by decide) (by decide) (by decide) (by decide), e 8 (by decide) (by decide) (by decide) (by decide) (by decide) (by decide) (by decide), e 9 (by decide) (by decide) (by decide) (by decide) (by decide) (by decide) (by decide), e 10 (by decide) (by decide) (by decide) (by decide) (by decide) (by decide) (by decide), e 11 (by decide) (by decide) (by decide) (by decide) (by decide) (by decide) (by decide), e 12 (by decide) (by decide) (by decide) (by decide) (by decide) (by decide) (by decide), e 13 (by decide) (by decide) (by decide) (by decide) (by decide) (by decide) (by decide), e 15 (by decide) (by decide) (by decide) (by decide) (by decide) (by decide) (by decide), e 18 (by decide) (by decide) (by decide) (by decide) (by decide) (by decide) (by decide), (su_f (by decide) : su (su (sL M (lkV (M 15) n v)) 14 0 0 ((n : Int) + 1)) 17 0 0 0 1 = su (sL M (lkV (M 15) n v)) 14 0 0 ((n : Int) + 1) 1), (su_f (by decide) : su (su (sL M (lkV (M 15) n v)) 14 0 0 ((n : Int) + 1)) 17 0 0 0 2 = su (sL M (lkV (M 15) n v)) 14 0 0 ((n : Int) + 1) 2), (su_f (by decide) : su (su (sL M (lkV (M 15) n v)) 14 0 0 ((n : Int) + 1)) 17 0 0 0 3 = su (sL M (lkV (M 15) n v)) 14 0 0 ((n : Int) + 1) 3), (su_f (by decide) : su (su (sL M (lkV (M 15) n v)) 14 0 0 ((n : Int) + 1)) 17 0 0 0 4 = su (sL M (lkV (M 15) n v)) 14 0 0 ((n : Int) + 1) 4), (su_f (by decide) : su (su (sL M (lkV (M 15) n v)) 14 0 0 ((n : Int) + 1)) 17 0 0 0 5 = su (sL M (lkV (M 15) n v)) 14 0 0 ((n : Int) + 1) 5), (su_f (by decide) : su (su (sL M (lkV (M 15) n v)) 14 0 0 ((n : Int) + 1)) 17 0 0 0 6 = su (sL M (lkV (M 15) n v)) 14 0 0 ((n : Int) + 1) 6), (su_f (by decide) : su (su (sL M (lkV (M 15) n v)) 14 0 0 ((n : Int) + 1)) 17 0 0 0 7 = su (sL M (lkV (M 15) n v)) 14 0 0 ((n : Int) + 1) 7), (su_f (by decide) : su (su (sL M (lkV (M 15) n v)) 14 0 0 ((n : Int) + 1)) 17 0 0 0 8 = su (sL M (lkV (M 15) n v)) 14 0 0 ((n : Int) + 1) 8), (su_f (by decide) : su (su (sL M (lkV (M 15) n v)) 14 0 0 ((n : Int) + 1)) 17 0 0 0 9 = su (sL M (lkV (M 15) n v)) 14 0 0 ((n : Int) + 1) 9), (su_f (by decide) : su (su (sL M (lkV (M 15) n v)) 14 0 0 ((n : Int) + 1)) 17 0 0 0 10 = su (sL M (lkV (M 15) n v)) 14 0 0 ((n : Int) + 1) 10), (su_f (by decide) : su (su (sL M (lkV (M 15) n v)) 14 0 0 ((n : Int) + 1)) 17 0 0 0 11 = su (sL M (lkV (M 15) n v)) 14 0 0 ((n : Int) + 1) 11), (su_f (by decide) : su (su (sL M (lkV (M 15) n v)) 14 0 0 ((n : Int) + 1)) 17 0 0 0 12 = su (sL M (lkV (M 15) n v)) 14 0 0 ((n : Int) + 1) 12), (su_f (by decide) : su (su (sL M (lkV (M 15) n v)) 14 0 0 ((n : Int) + 1)) 17 0 0 0 13 = su (sL M (lkV (M 15) n v)) 14 0 0 ((n : Int) + 1) 13), (su_f (by decide) : su (su (sL M (lkV (M 15) n v)) 14 0 0 ((n : Int) + 1)) 17 0 0 0 14 = su (sL M (lkV (M 15) n v)) 14 0 0 ((n : Int) + 1) 14), (su_f (by decide) : su (su (sL M (lkV (M 15) n v)) 14 0 0 ((n : Int) + 1)) 17 0 0 0 15 = su (sL M (lkV (M 15) n v)) 14 0 0 ((n : Int) + 1) 15), (su_f (by decide) : su (su (sL M (lkV (M 15) n v)) 14 0 0 ((n : Int) + 1)) 17 0 0 0 16 = su (sL M (lkV (M 15) n v)) 14 0 0 ((n : Int) + 1) 16), (su_f (by decide) : su (sL M (lkV (M 15) n v)) 14 0 0 ((n : Int) + 1) 1 = sL M (lkV (M 15) n v) 1), (su_f (by decide) : su (sL M (lkV (M 15) n v)) 14 0 0 ((n : Int) + 1) 2 = sL M (lkV (M 15) n v) 2), (su_f (by decide) : su (sL M (lkV (M 15) n v)) 14 0 0 ((n : Int) + 1) 3 = sL M (lkV (M 15) n v) 3), (su_f (by decide) : su (sL M (lkV (M 15) n v)) 14 0 0 ((n : Int) + 1) 4 = sL M (lkV (M 15) n v) 4), (su_f (by decide) : su (sL M (lkV (M 15) n v)) 14 0 0 ((n : Int) + 1) 5 = sL M (lkV (M 15) n v) 5), (su_f (by decide) : su (sL M (lkV (M 15) n v)) 14 0 0 ((n : Int) + 1) 6 = sL M (lkV (M 15) n v) 6), (su_f (by decide) : su (sL M (lkV (M 15) n v)) 14 0 0 ((n : Int) + 1) 7 = sL M (lkV (M 15) n v) 7), (su_f (by decide) : su (sL M (lkV (M 15) n v)) 14 0 0 ((n : Int) + 1) 8 = sL M (lkV (M 15) n v) 8), (su_f (by decide) : su (sL M (lkV (M 15) n v)) 14 0 0 ((n : Int) + 1) 9 = sL M (lkV (M 15) n v) 9), (su_f (by decide) : su (sL M (lkV (M 15) n v)) 14 0 0 ((n : Int) + 1) 10 = sL M (lkV (M 15) n v) 10), (su_f (by decide) : su (sL M (lkV (M 15) n v)) 14 0 0 ((n : Int) + 1) 11 = sL M (lkV (M 15) n v) 11), (su_f (by decide) : su (sL M (lkV (M 15) n v)) 14 0 0 ((n : Int) + 1) 12 = sL M (lkV (M 15) n v) 12), (su_f (by decide) : su (sL M (lkV (M 15) n v)) 14 0 0 ((n : Int) + 1) 13 = sL M (lkV (M 15) n v) 13), (su_f (by decide) : su (sL M (lkV (M 15) n v)) 14 0 0 ((n : Int) + 1) 15 = sL M (lkV (M 15) n v) 15), (su_f (by decide) : su (sL M (lkV (M 15) n v)) 14 0 0 ((n : Int) + 1) 16 = sL M (lkV (M 15) n v) 16), (sL_n (by decide) : sL M (lkV (M 15) n v) 1 = M 1), (sL_n (by decide) : sL M (lkV (M 15) n v) 2 = M 2), (sL_n (by decide) : sL M (lkV (M 15) n v) 3 = M 3), (sL_n (by decide) : sL M (lkV (M 15) n v) 4 = M 4), (sL_n (by decide) : sL M (lkV (M 15) n v) 5 = M 5), (sL_n (by decide) : sL M (lkV (M 15) n v) 6 = M 6), (sL_n (by decide) : sL M (lkV (M 15) n v) 7 = M 7), (sL_n (by decide) : sL M (lkV (M 15) n v) 8 = M 8), (sL_n (by decide) : sL M (lkV (M 15) n v) 9 = M 9), (sL_n (by decide) : sL M (lkV (M 15) n v) 10 = M 10), (sL_n (by decide) : sL M (lkV (M 15) n v) 11 = M 11), (sL_n (by decide) : sL M (lkV (M 15) n v) 12 = M 12), (sL_n (by decide) : sL M (lkV (M 15) n v) 13 = M 13), (sL_n (by decide) : sL M (lkV (M 15) n v) 16 = M 16), sL_15, e14]
  refine ⟨a, b, ⟨c.1, su_s, c.2.2⟩, fun j hj => ?_, f⟩
  unfold lkV
  by_cases hc : j = n
  · rw [hc, if_pos rfl, e19, e20, e21, e22, if_pos rfl, if_pos rfl, if_pos rfl, if_pos rfl]
    exact ⟨rfl, rfl, rfl, rfl⟩
  · have q := hx j (by omega)
    rw [if_neg hc, e19, e20, e21, e22, if_neg q, if_neg q, if_neg q, if_neg q]
    exact d j (by omega)
theorem lkM_f {n f : Nat} {v : Nat → Int} (h1 : f ≠ 14) (h2 : f ≠ 15) (h3 : f ≠ 17) : lkM M n v f = M f := by unfold lkM; rw [su_f h3, su_f h1, sL_n h2]
theorem m_link (P : MP G N M L z h) (r : RS S M) (w : WF S) (tp : TOP S) {S' : ST} {f t k g : Int} (hf : InR f) (ht : InR t) (hk : InR k) (hg : InR g) (hx : ∀ n : Nat, S 14 0 0 = (n : Int) → n < 40 → ∀ j : Nat, j < n → (S 18 j 0).toNat ≠ (S 18 n 0).toNat) (hS : (0 ≤ f ∧ f < S 13 0 0 ∧ 0 ≤ t ∧ t < S 13 0 0) → (0 ≤ k ∧ k ≤ 2 ∧ 0 ≤ g ∧ g ≤ 20) → (S 14 0 0 < 40 ∧ ¬ Rch S t.toNat f.toNat) → ALx S f t k g S') : CT G mX11_link [.ref (cB G + 169), JV f, JV t, JV k, JV g] h N 1 4 (fun r h' N' => ∃ M' L', (((0 ≤ f ∧ f < S 13 0 0 ∧ 0 ≤ t ∧ t < S 13 0 0) ∧ (0 ≤ k ∧ k ≤ 2 ∧ 0 ≤ g ∧ g ≤ 20) ∧ (S 14 0 0 < 40 ∧ ¬ Rch S t.toNat f.toNat)) ∧ MRG G S' M L' z h N M' h' N' ∧ r = some (JV (S 14 0 0))) ∨ (¬ (0 ≤ f ∧ f < S 13 0 0 ∧ 0 ≤ t ∧ t < S 13 0 0) ∧ MRB G S M L' z h N 1 M' h' N' ∧ r = some (JV 0)) ∨ (((0 ≤ f ∧ f < S 13 0 0 ∧ 0 ≤ t ∧ t < S 13 0 0) ∧ ¬ (0 ≤ k ∧ k ≤ 2 ∧ 0 ≤ g ∧ g ≤ 20)) ∧ MRB G S M L' z h N 2 M' h' N' ∧ r = some (JV 0)) ∨ (((0 ≤ f ∧ f < S 13 0 0 ∧ 0 ≤ t ∧ t < S 13 0 0) ∧ (0 ≤ k ∧ k ≤ 2 ∧ 0 ≤ g ∧ g ≤ 20) ∧ ¬ (S 14 0 0 < 40 ∧ ¬ Rch S t.toNat f.toNat)) ∧ MRB G S M L' z h N 3 M' h' N' ∧ r = some (JV 0))) := by
  have wT := w.nT
  have wL := w.nL
  have wR := w.rule
  have hN0 := P.nN
  refine CT_of (by decide +kernel) rfl (by simp [Value.category]) (Nat.le_of_ble_eq_true rfl) ?_
  change WP G mX11_link _ noX _ _ h N 0 [some (.ref (cB G + 169)), some (JV f), some (JV t), some (JV k), some (JV g), none] []
  refine wp_aload_n dX11_link_0 rfl ?_
  refine wp_iconst dX11_link_1 ?_
  refine wp_put fkX11_88 dX11_link_2 (P.s0 r) rfl rfl (Nat.le_of_ble_eq_true rfl) ?_
  obtain ⟨h_1, eh_1⟩ : ∃ hh9 : AH, hh9 = hup h (cB G + 169) (eO 11 [JV 0, .ref (cB G + 170), .ref (cB G + 171), .ref (cB G + 172), .ref (cB G + 177), .ref (cB G + 178), JV (S 13 0 0), .ref (cB G + 179), .ref (cB G + 180), .ref (cB G + 181), .ref (cB G + 182), .ref (cB G + 183), .ref (cB G + 208), .ref (cB G + 209), JV (S 14 0 0), .ref (cB G + 212), JV (S 15 0 0), JV (M 17 0 0), .ref (cB G + 253), .ref (cB G + 254), .ref (cB G + 257), .ref (cB G + 260), .ref (cB G + 261), .ref (cB G + 264), JV (M 24 0 0), JV (M 25 0 0), JV (M 26 0 0), .ref (cB G + 265), JV (M 28 0 0), .ref (cB G + 270), .ref (cB G + 273), .ref (cB G + 274), .ref (cB G + 275), .ref (cB G + 276), .long z]) := ⟨_, rfl⟩
  refine WP.heq eh_1 ?_
  obtain ⟨M_1, eM_1⟩ : ∃ ss9 : ST, ss9 = su M 0 0 0 0 := ⟨_, rfl⟩
  have P_1 : MP G (N) M_1 L z h_1 := by rw [eM_1]; exact P.sc (f := 0) (v := 0) (by decide) (eh_1.trans (by simp [cMod, su, r.2.2.1.1, r.2.2.1.2.1, r.2.2.1.2.2]))
  have r_1 : RS S M_1 := by rw [eM_1]; exact r.der (by decide)
  refine wp_aload_n dX11_link_5 rfl ?_
  refine wp_iload_n dX11_link_6 rfl ?_
  refine wp_v1p (m_isTask (N := N) P_1 r_1 w hf) cvX11_201 dX11_link_7 ⟨Nat.le_of_ble_eq_true rfl, Nat.le_of_ble_eq_true rfl⟩ (Nat.le_of_ble_eq_true rfl) (P_1.s0 r_1) rfl rfl ?_
  refine wp_if_eq 21 dX11_link_10 (by decide) (bI_r _) (fun c_10 => ?_) (fun c_10 => ?_)
  · refine wp_aload_n dX11_link_21 rfl ?_
    refine wp_iconst dX11_link_22 ?_
    refine wp_v1 0 0 (m_refuse (N := N) (x := 1) P_1) cvX11_194 dX11_link_23 ⟨Nat.le_of_ble_eq_true rfl, Nat.le_of_ble_eq_true rfl⟩ (Nat.le_of_ble_eq_true rfl) (P_1.s0 r_1) rfl rfl (by omega) (by omega) (fun r9 h8 N8 hq => ?_)
    obtain ⟨hN8, rfl, M8, P8, e8, f8⟩ := hq
    rw [hN8]
    have r8 : RS S M8 := by rw [e8]; exact r_1.der (by decide)
    change WP G mX11_link _ _ _ _ h8 N 26 [some (.ref (cB G + 169)), some (JV f), some (JV t), some (JV k), some (JV g), none] [JV 0]
    refine wp_iret dX11_link_26 rfl ?_
    exact ⟨M8, L, Or.inr (Or.inl ⟨(fun q => by rw [decide_eq_true (show 0 ≤ f ∧ f ≤ S 13 0 0 - 1 by omega)] at c_10; exact absurd c_10 (by decide)), ⟨Nat.le_refl _, by omega, P8, r8, by rw [e8]; exact su_s, fun f h0 => by rw [e8, su_f h0, eM_1, su_f h0], (FA.rf.up eh_1 (by omega)).tr f8.fa (Nat.le_refl _)⟩, rfl⟩)⟩
  · have q_10 := bI_p c_10
    refine wp_aload_n dX11_link_13 rfl ?_
    refine wp_iload_n dX11_link_14 rfl ?_
    refine wp_v1p (m_isTask (N := N) P_1 r_1 w ht) cvX11_201 dX11_link_15 ⟨Nat.le_of_ble_eq_true rfl, Nat.le_of_ble_eq_true rfl⟩ (Nat.le_of_ble_eq_true rfl) (P_1.s0 r_1) rfl rfl ?_
    refine wp_if_ne 27 dX11_link_18 (by decide) (bI_r _) (fun c_18 => ?_) (fun c_18 => ?_)
    · have q_18 := bI_p c_18
      refine wp_iload_n dX11_link_27 rfl ?_
      refine wp_iconst dX11_link_28 ?_
      refine wp_iconst dX11_link_29 ?_
      refine wp_s3p (m_is (N := N) hk ⟨by omega, by omega⟩ ⟨by omega, by omega⟩) csX11_92 dX11_link_30 ⟨Nat.le_of_ble_eq_true rfl, Nat.le_of_ble_eq_true rfl⟩ (Nat.le_of_ble_eq_true rfl) ?_
      refine wp_if_eq 47 dX11_link_33 (by decide) (bI_r _) (fun c_33 => ?_) (fun c_33 => ?_)
      · refine wp_aload_n dX11_link_47 rfl ?_
        refine wp_iconst dX11_link_48 ?_
        refine wp_v1 0 0 (m_refuse (N := N) (x := 2) P_1) cvX11_194 dX11_link_49 ⟨Nat.le_of_ble_eq_true rfl, Nat.le_of_ble_eq_true rfl⟩ (Nat.le_of_ble_eq_true rfl) (P_1.s0 r_1) rfl rfl (by omega) (by omega) (fun r9 h8 N8 hq => ?_)
        obtain ⟨hN8, rfl, M8, P8, e8, f8⟩ := hq
        rw [hN8]
        have r8 : RS S M8 := by rw [e8]; exact r_1.der (by decide)
        change WP G mX11_link _ _ _ _ h8 N 52 [some (.ref (cB G + 169)), some (JV f), some (JV t), some (JV k), some (JV g), none] [JV 0]
        refine wp_iret dX11_link_52 rfl ?_
        exact ⟨M8, L, Or.inr (Or.inr (Or.inl ⟨⟨by omega, (fun q => by rw [decide_eq_true (show 0 ≤ k ∧ k ≤ 2 by omega)] at c_33; exact absurd c_33 (by decide))⟩, ⟨Nat.le_refl _, by omega, P8, r8, by rw [e8]; exact su_s, fun f h0 => by rw [e8, su_f h0, eM_1, su_f h0], (FA.rf.up eh_1 (by omega)).tr f8.fa (Nat.le_refl _)⟩, rfl⟩))⟩
      · have q_33 := bI_p c_33
        refine wp_iload dX11_link_36 rfl ?_
        refine wp_iconst dX11_link_38 ?_
        refine wp_bipush dX11_link_39 rfl ?_
        refine wp_s3p (m_is (N := N) hg ⟨by omega, by omega⟩ ⟨by omega, by omega⟩) csX11_92 dX11_link_41 ⟨Nat.le_of_ble_eq_true rfl, Nat.le_of_ble_eq_true rfl⟩ (Nat.le_of_ble_eq_true rfl) ?_
        refine wp_if_ne 53 dX11_link_44 (by decide) (bI_r _) (fun c_44 => ?_) (fun c_44 => ?_)
        · have q_44 := bI_p c_44
          obtain ⟨n9, hn9⟩ : ∃ n9 : Nat, S 14 0 0 = (n9 : Int) := ⟨(S 14 0 0).toNat, by omega⟩
          obtain ⟨t9, rfl⟩ : ∃ t9 : Nat, t = (t9 : Int) := ⟨t.toNat, by omega⟩
          obtain ⟨f9, rfl⟩ : ∃ f9 : Nat, f = (f9 : Int) := ⟨f.toNat, by omega⟩
          refine wp_aload_n dX11_link_53 rfl ?_
          refine wp_get fkX11_99 dX11_link_54 (P_1.s0 r_1) rfl ?_
          refine wp_bipush dX11_link_57 rfl ?_
          refine wp_icmp_eq 71 dX11_link_59 (by decide) ⟨by omega, by omega⟩ ⟨by omega, by omega⟩ (fun c_59 => ?_) (fun c_59 => ?_)
          · refine wp_aload_n dX11_link_71 rfl ?_
            refine wp_iconst dX11_link_72 ?_
            refine wp_v1 0 0 (m_refuse (N := N) (x := 3) P_1) cvX11_194 dX11_link_73 ⟨Nat.le_of_ble_eq_true rfl, Nat.le_of_ble_eq_true rfl⟩ (Nat.le_of_ble_eq_true rfl) (P_1.s0 r_1) rfl rfl (by omega) (by omega) (fun r9 h8 N8 hq => ?_)
            obtain ⟨hN8, rfl, M8, P8, e8, f8⟩ := hq
            rw [hN8]
            have r8 : RS S M8 := by rw [e8]; exact r_1.der (by decide)
            change WP G mX11_link _ _ _ _ h8 N 76 [some (.ref (cB G + 169)), some (JV (f9 : Int)), some (JV (t9 : Int)), some (JV k), some (JV g), none] [JV 0]
            refine wp_iret dX11_link_76 rfl ?_
            exact ⟨M8, L, Or.inr (Or.inr (Or.inr ⟨⟨by omega, by omega, fun q => by omega⟩, ⟨Nat.le_refl _, by omega, P8, r8, by rw [e8]; exact su_s, fun f h0 => by rw [e8, su_f h0, eM_1, su_f h0], (FA.rf.up eh_1 (by omega)).tr f8.fa (Nat.le_refl _)⟩, rfl⟩))⟩
          · refine wp_aload_n dX11_link_62 rfl ?_
            refine wp_iload_n dX11_link_63 rfl ?_
            refine wp_iload_n dX11_link_64 rfl ?_
            refine wp_v2p (m_comes (N := N) P_1 r_1 w tp (a := t9) (b := f9) (by omega) (by omega)) cvX11_204 dX11_link_65 ⟨Nat.le_of_ble_eq_true rfl, Nat.le_of_ble_eq_true rfl⟩ (Nat.le_of_ble_eq_true rfl) (P_1.s0 r_1) rfl rfl ?_
            refine wp_if_eq 77 dX11_link_68 (by decide) (bI_r _) (fun c_68 => ?_) (fun c_68 => ?_)
            · have nr : ¬ Rch S t9 f9 := fun q => by rw [rchB_t q] at c_68; exact absurd c_68 (by decide)
              have al := hS (by omega) (by omega) ⟨by omega, nr⟩
              have hbN : ∀ i, i < 40 → L i ≠ N := fun i hi => by have := P.rlt hi; omega
              refine wp_iconst dX11_link_77 ?_
              refine wp_newI (m := 4) (k2 := 0) (n2 := 0) dX11_link_78 ar_int rfl (by decide) (by omega) (by omega) ?_
              obtain ⟨h_2, eh_2⟩ : ∃ hh9 : AH, hh9 = hup h_1 (N) (eI G 4 (fun _ => 0)) := ⟨_, rfl⟩
              refine WP.heq eh_2 ?_
              have c2_0 : h_2 N = some (eI G 4 (fun _ => 0)) := by rw [eh_2]; exact hup_self _ _ _
              have PX_2 : MP G (N) M_1 L z h_2 := P_1.loc (by omega) hbN eh_2
              change WP G mX11_link _ _ 0 0 h_2 (N + 1) 80 [some (.ref (cB G + 169)), some (JV (f9 : Int)), some (JV (t9 : Int)), some (JV k), some (JV g), none] [.ref N]
              have PU : MP G (N + 1) M_1 L z h_2 := PX_2.up (by omega)
              refine wp_dup dX11_link_80 rfl ?_
              refine wp_iconst dX11_link_81 ?_
              refine wp_iload_n dX11_link_82 rfl ?_
              refine wp_iastore dX11_link_83 c2_0 (by omega) (by omega) (by omega) ?_
              obtain ⟨h_3, eh_3⟩ : ∃ hh9 : AH, hh9 = hup h_2 N (eI G 4 (fup (fun _ => 0) 0 (f9 : Int))) := ⟨_, rfl⟩
              refine WP.heq eh_3 ?_
              have c3_0 : h_3 N = some (eI G 4 (fup (fun _ => 0) 0 (f9 : Int))) := by rw [eh_3]; exact hup_self _ _ _
              have PX_3 : MP G (N + 1) M_1 L z h_3 := PU.loc (by omega) hbN eh_3
              refine wp_dup dX11_link_84 rfl ?_
              refine wp_iconst dX11_link_85 ?_
              refine wp_iload_n dX11_link_86 rfl ?_
              refine wp_iastore dX11_link_87 c3_0 (by omega) (by omega) (by omega) ?_
              obtain ⟨h_4, eh_4⟩ : ∃ hh9 : AH, hh9 = hup h_3 N (eI G 4 (fup (fup (fun _ => 0) 0 (f9 : Int)) 1 (t9 : Int))) := ⟨_, rfl⟩
              refine WP.heq eh_4 ?_
              have c4_0 : h_4 N = some (eI G 4 (fup (fup (fun _ => 0) 0 (f9 : Int)) 1 (t9 : Int))) := by rw [eh_4]; exact hup_self _ _ _
              have PX_4 : MP G (N + 1) M_1 L z h_4 := PX_3.loc (by omega) hbN eh_4
              refine wp_dup dX11_link_88 rfl ?_
              refine wp_iconst dX11_link_89 ?_
              refine wp_iload_n dX11_link_90 rfl ?_
              refine wp_iastore dX11_link_91 c4_0 (by omega) (by omega) (by omega) ?_
              obtain ⟨h_5, eh_5⟩ : ∃ hh9 : AH, hh9 = hup h_4 N (eI G 4 (fup (fup (fup (fun _ => 0) 0 (f9 : Int)) 1 (t9 : Int)) 2 k)) := ⟨_, rfl⟩
              refine WP.heq eh_5 ?_
              have c5_0 : h_5 N = some (eI G 4 (fup (fup (fup (fun _ => 0) 0 (f9 : Int)) 1 (t9 : Int)) 2 k)) := by rw [eh_5]; exact hup_self _ _ _
              have PX_5 : MP G (N + 1) M_1 L z h_5 := PX_4.loc (by omega) hbN eh_5
              refine wp_dup dX11_link_92 rfl ?_
              refine wp_iconst dX11_link_93 ?_
              refine wp_iload dX11_link_94 rfl ?_
              refine wp_iastore dX11_link_96 c5_0 (by omega) (by omega) (by omega) ?_
              obtain ⟨h_6, eh_6⟩ : ∃ hh9 : AH, hh9 = hup h_5 N (eI G 4 (fup (fup (fup (fup (fun _ => 0) 0 (f9 : Int)) 1 (t9 : Int)) 2 k) 3 g)) := ⟨_, rfl⟩
              refine WP.heq eh_6 ?_
              have c6_0 : h_6 N = some (eI G 4 (fup (fup (fup (fup (fun _ => 0) 0 (f9 : Int)) 1 (t9 : Int)) 2 k) 3 g)) := by rw [eh_6]; exact hup_self _ _ _
              have PX_6 : MP G (N + 1) M_1 L z h_6 := PX_5.loc (by omega) hbN eh_6
              refine wp_astore dX11_link_97 (Nat.le_of_ble_eq_true rfl) rfl ?_
              change WP G mX11_link _ _ _ _ h_6 (N + 1) 99 [some (.ref (cB G + 169)), some (JV (f9 : Int)), some (JV (t9 : Int)), some (JV k), some (JV g), some (.ref N)] []
              refine wp_aload_n dX11_link_99 rfl ?_
              refine wp_get fkX11_49 dX11_link_100 PX_6.c0 rfl ?_
              refine wp_aload_n dX11_link_103 rfl ?_
              refine wp_get fkX11_99 dX11_link_104 PX_6.c0 rfl ?_
              rw [show M_1 14 0 0 = (n9 : Int) by rw [eM_1, su_f (by decide)]; exact r.2.2.1.2.1.trans hn9]
              refine wp_aload dX11_link_107 rfl ?_
              obtain ⟨gv, egv⟩ : ∃ gg9 : Nat → Int, gg9 = (fup (fup (fup (fup (fun _ => 0) 0 (f9 : Int)) 1 (t9 : Int)) 2 k) 3 g) := ⟨_, rfl⟩
              have hcN : h_6 N = some (eI G 4 gv) := by rw [egv]; exact c6_0
              refine wp_aastoreI dX11_link_109 PX_6.qL hcN (by omega) (by omega) (by decide) ?_
              rw [lk_fup (L := L) (n := n9) (b := N) (by omega)]
              obtain ⟨h_c, eh_c⟩ : ∃ hh9 : AH, hh9 = hup h_6 (cB G + 212) (eQ G 4 40 (fun i => if i < 40 then some (lkL L n9 N i) else none)) := ⟨_, rfl⟩
              refine WP.heq eh_c ?_
              have P_c : MP G (N + 1) (sL M_1 (lkV (M_1 15) n9 gv)) (lkL L n9 N) z h_c := PX_6.lk eh_c (fun i hi => by
                unfold lkL lkV
                by_cases hc : i = n9
                · rw [if_pos hc, if_pos hc]
                  exact ⟨hcN, Or.inr (by omega), by omega⟩
                · rw [if_neg hc, if_neg hc]
                  exact PX_6.2.2.2.2.1 i hi)
              obtain ⟨M_c, eM_c⟩ : ∃ ss9 : ST, ss9 = sL M_1 (lkV (M_1 15) n9 gv) := ⟨_, rfl⟩
              rw [← eM_c] at P_c
              change WP G mX11_link _ _ _ _ h_c (N + 1) 110 [some (.ref (cB G + 169)), some (JV (f9 : Int)), some (JV (t9 : Int)), some (JV k), some (JV g), some (.ref N)] []
              refine wp_aload_n dX11_link_110 rfl ?_
              refine wp_dup dX11_link_111 rfl ?_
              refine wp_get fkX11_99 dX11_link_112 P_c.c0 rfl ?_
              rw [show M_c 14 0 0 = (n9 : Int) by rw [eM_c, sL_n (by decide), eM_1, su_f (by decide)]; exact r.2.2.1.2.1.trans hn9]
              refine wp_iconst dX11_link_115 ?_
              refine wp_iadd dX11_link_116 ?_
              refine wp_put fkX11_99 dX11_link_117 P_c.c0 rfl rfl (Nat.le_of_ble_eq_true rfl) ?_
              obtain ⟨h_7, eh_7⟩ : ∃ hh9 : AH, hh9 = hup h_c (cB G + 169) (eO 11 [JV (M_c 0 0 0), .ref (cB G + 170), .ref (cB G + 171), .ref (cB G + 172), .ref (cB G + 177), .ref (cB G + 178), JV (M_c 6 0 0), .ref (cB G + 179), .ref (cB G + 180), .ref (cB G + 181), .ref (cB G + 182), .ref (cB G + 183), .ref (cB G + 208), .ref (cB G + 209), JV ((n9 : Int) + 1), .ref (cB G + 212), JV (M_c 16 0 0), JV (M_c 17 0 0), .ref (cB G + 253), .ref (cB G + 254), .ref (cB G + 257), .ref (cB G + 260), .ref (cB G + 261), .ref (cB G + 264), JV (M_c 24 0 0), JV (M_c 25 0 0), JV (M_c 26 0 0), .ref (cB G + 265), JV (M_c 28 0 0), .ref (cB G + 270), .ref (cB G + 273), .ref (cB G + 274), .ref (cB G + 275), .ref (cB G + 276), .long z]) := ⟨_, rfl⟩
              refine WP.heq eh_7 ?_
              obtain ⟨M_7, eM_7⟩ : ∃ ss9 : ST, ss9 = su M_c 14 0 0 ((n9 : Int) + 1) := ⟨_, rfl⟩
              have P_7 : MP G (N + 1) M_7 (lkL L n9 N) z h_7 := by rw [eM_7]; exact P_c.sc (f := 14) (v := (n9 : Int) + 1) (by decide) (eh_7.trans (by simp [cMod, su]))
              refine wp_aload_n dX11_link_120 rfl ?_
              refine wp_iconst dX11_link_121 ?_
              refine wp_put fkX11_175 dX11_link_122 P_7.c0 rfl rfl (Nat.le_of_ble_eq_true rfl) ?_
              obtain ⟨h_8, eh_8⟩ : ∃ hh9 : AH, hh9 = hup h_7 (cB G + 169) (eO 11 [JV (M_7 0 0 0), .ref (cB G + 170), .ref (cB G + 171), .ref (cB G + 172), .ref (cB G + 177), .ref (cB G + 178), JV (M_7 6 0 0), .ref (cB G + 179), .ref (cB G + 180), .ref (cB G + 181), .ref (cB G + 182), .ref (cB G + 183), .ref (cB G + 208), .ref (cB G + 209), JV (M_7 14 0 0), .ref (cB G + 212), JV (M_7 16 0 0), JV 0, .ref (cB G + 253), .ref (cB G + 254), .ref (cB G + 257), .ref (cB G + 260), .ref (cB G + 261), .ref (cB G + 264), JV (M_7 24 0 0), JV (M_7 25 0 0), JV (M_7 26 0 0), .ref (cB G + 265), JV (M_7 28 0 0), .ref (cB G + 270), .ref (cB G + 273), .ref (cB G + 274), .ref (cB G + 275), .ref (cB G + 276), .long z]) := ⟨_, rfl⟩
              refine WP.heq eh_8 ?_
              obtain ⟨M_8, eM_8⟩ : ∃ ss9 : ST, ss9 = su M_7 17 0 0 0 := ⟨_, rfl⟩
              have P_8 : MP G (N + 1) M_8 (lkL L n9 N) z h_8 := by rw [eM_8]; exact P_7.sc (f := 17) (v := 0) (by decide) (eh_8.trans (by simp [cMod, su]))
              refine wp_aload_n dX11_link_125 rfl ?_
              refine wp_get fkX11_99 dX11_link_126 P_8.c0 rfl ?_
              rw [show M_8 14 0 0 = (n9 : Int) + 1 by rw [eM_8, su_f (by decide), eM_7]; exact su_s]
              refine wp_iconst dX11_link_129 ?_
              refine wp_isub dX11_link_130 ?_
              refine wp_iret dX11_link_131 rfl ?_
              have e_ : M_8 = lkM M_1 n9 gv := by rw [eM_8, eM_7, eM_c]; rfl
              have r9 : RS S' M_8 := by rw [e_]; exact RS_lk r_1 hn9 (by rw [egv]; exact al) (hx n9 hn9 (by omega))
              have kf : ∀ f, f ≠ 14 → f ≠ 15 → f ≠ 17 → M_8 f = M_1 f := fun f h1 h2 h3 => by rw [e_]; exact lkM_f h1 h2 h3
              refine ⟨M_8, lkL L n9 N, Or.inl ⟨⟨by omega, by omega, by omega, nr⟩, ⟨by omega, by omega, P_8, r9, by rw [kf 0 (by decide) (by decide) (by decide), eM_1]; exact su_s, by rw [eM_8]; exact su_s, fun f hf => by rw [kf f ((show ∀ x ∈ mKP, x ≠ 14 by decide) f hf) ((show ∀ x ∈ mKP, x ≠ 15 by decide) f hf) ((show ∀ x ∈ mKP, x ≠ 17 by decide) f hf), eM_1, su_f ((show ∀ x ∈ mKP, x ≠ 0 by decide) f hf)], (((((((((FA.rf.up eh_1 (by omega)).up eh_2 (by omega)).up eh_3 (by omega)).up eh_4 (by omega)).up eh_5 (by omega)).up eh_6 (by omega)).up eh_c (by omega)).up eh_7 (by omega)).up eh_8 (by omega))⟩, ?_⟩⟩
              rw [hn9]
              exact congrArg (fun x => some (JV x)) (show (n9 : Int) + 1 - 1 = n9 by omega)
            · refine wp_aload_n dX11_link_71 rfl ?_
              refine wp_iconst dX11_link_72 ?_
              refine wp_v1 0 0 (m_refuse (N := N) (x := 3) P_1) cvX11_194 dX11_link_73 ⟨Nat.le_of_ble_eq_true rfl, Nat.le_of_ble_eq_true rfl⟩ (Nat.le_of_ble_eq_true rfl) (P_1.s0 r_1) rfl rfl (by omega) (by omega) (fun r9 h8 N8 hq => ?_)
              obtain ⟨hN8, rfl, M8, P8, e8, f8⟩ := hq
              rw [hN8]
              have r8 : RS S M8 := by rw [e8]; exact r_1.der (by decide)
              change WP G mX11_link _ _ _ _ h8 N 76 [some (.ref (cB G + 169)), some (JV (f9 : Int)), some (JV (t9 : Int)), some (JV k), some (JV g), none] [JV 0]
              refine wp_iret dX11_link_76 rfl ?_
              exact ⟨M8, L, Or.inr (Or.inr (Or.inr ⟨⟨by omega, by omega, fun q => c_68 (by rw [rchB_f (show ¬ Rch S t9 f9 from q.2)]; rfl)⟩, ⟨Nat.le_refl _, by omega, P8, r8, by rw [e8]; exact su_s, fun f h0 => by rw [e8, su_f h0, eM_1, su_f h0], (FA.rf.up eh_1 (by omega)).tr f8.fa (Nat.le_refl _)⟩, rfl⟩))⟩
        · refine wp_aload_n dX11_link_47 rfl ?_
          refine wp_iconst dX11_link_48 ?_
          refine wp_v1 0 0 (m_refuse (N := N) (x := 2) P_1) cvX11_194 dX11_link_49 ⟨Nat.le_of_ble_eq_true rfl, Nat.le_of_ble_eq_true rfl⟩ (Nat.le_of_ble_eq_true rfl) (P_1.s0 r_1) rfl rfl (by omega) (by omega) (fun r9 h8 N8 hq => ?_)
          obtain ⟨hN8, rfl, M8, P8, e8, f8⟩ := hq
          rw [hN8]
          have r8 : RS S M8 := by rw [e8]; exact r_1.der (by decide)
          change WP G mX11_link _ _ _ _ h8 N 52 [some (.ref (cB G + 169)), some (JV f), some (JV t), some (JV k), some (JV g), none] [JV 0]
          refine wp_iret dX11_link_52 rfl ?_
          exact ⟨M8, L, Or.inr (Or.inr (Or.inl ⟨⟨by omega, (fun q => by rw [decide_eq_true (show 0 ≤ g ∧ g ≤ 20 by omega)] at c_44; exact absurd c_44 (by decide))⟩, ⟨Nat.le_refl _, by omega, P8, r8, by rw [e8]; exact su_s, fun f h0 => by rw [e8, su_f h0, eM_1, su_f h0], (FA.rf.up eh_1 (by omega)).tr f8.fa (Nat.le_refl _)⟩, rfl⟩))⟩
    · refine wp_aload_n dX11_link_21 rfl ?_
      refine wp_iconst dX11_link_22 ?_
      refine wp_v1 0 0 (m_refuse (N := N) (x := 1) P_1) cvX11_194 dX11_link_23 ⟨Nat.le_of_ble_eq_true rfl, Nat.le_of_ble_eq_true rfl⟩ (Nat.le_of_ble_eq_true rfl) (P_1.s0 r_1) rfl rfl (by omega) (by omega) (fun r9 h8 N8 hq => ?_)
      obtain ⟨hN8, rfl, M8, P8, e8, f8⟩ := hq
      rw [hN8]
      have r8 : RS S M8 := by rw [e8]; exact r_1.der (by decide)
      change WP G mX11_link _ _ _ _ h8 N 26 [some (.ref (cB G + 169)), some (JV f), some (JV t), some (JV k), some (JV g), none] [JV 0]
      refine wp_iret dX11_link_26 rfl ?_
      exact ⟨M8, L, Or.inr (Or.inl ⟨(fun q => by rw [decide_eq_true (show 0 ≤ t ∧ t ≤ S 13 0 0 - 1 by omega)] at c_18; exact absurd c_18 (by decide)), ⟨Nat.le_refl _, by omega, P8, r8, by rw [e8]; exact su_s, fun f h0 => by rw [e8, su_f h0, eM_1, su_f h0], (FA.rf.up eh_1 (by omega)).tr f8.fa (Nat.le_refl _)⟩, rfl⟩)⟩

end Mlk

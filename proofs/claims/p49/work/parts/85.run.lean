/-! ===== the law's body: its rounds, its beginning, its end ===== -/
section Lw0
variable {G : Ctx}
theorem wsum_00 : ∀ n, wsum (fun _ => (0 : Int)) n = 0
  | 0 => rfl
  | n + 1 => by rw [wsum, wsum_00 n]; rfl
theorem XI_00 : XI S00 := ⟨fun c hc => (wsum_00 1000).symm, fun i j hi hj q => by
  have e : (i : Int) = (j : Int) := q
  omega⟩
theorem TOP_00 : TOP S00 := by
  refine ⟨fun j hj => absurd (show (j : Int) < 0 from hj) (by omega), fun j hj => absurd (show (j : Int) < 0 from hj) (by omega), fun j k hj => absurd (show (j : Int) < 0 from hj) (by omega), fun t h0 h1 => absurd (show t < 0 from h1) (by omega), fun j k hj => absurd (show (j : Int) < 0 from hj) (by omega)⟩
theorem WF_00 : WF S00 := by
  refine ⟨fun c hc => ?_, fun c d => Or.inl rfl, fun c hc => ?_, fun c hc => ?_, fun t ht => ?_, fun t c => ?_, ?_, ?_, ?_, fun i hi => ?_, fun i => Or.inl rfl, fun i hi => ?_, fun x hx => ?_⟩
  · exact ⟨show (1 : Int) ≤ 31 by decide, show (31 : Int) ≤ 127 by decide⟩
  · exact ⟨show (0 : Int) ≤ 0 by decide, show (0 : Int) ≤ 12 by decide⟩
  · exact ⟨⟨show (0 : Int) ≤ 9 by decide, show (9 : Int) ≤ 9 by decide⟩, show (0 : Int) ≤ 0 by decide, show (0 : Int) ≤ 99 by decide⟩
  · exact ⟨⟨show (0 : Int) ≤ 0 by decide, show (0 : Int) ≤ 20 by decide⟩, ⟨show (0 : Int) ≤ 0 by decide, show (0 : Int) < 4 by decide⟩, ⟨show (0 : Int) ≤ 0 by decide, show (0 : Int) ≤ 9 by decide⟩, ⟨show (0 : Int) ≤ 0 by decide, show (0 : Int) ≤ 999 by decide⟩, Or.inl rfl, ⟨show (0 : Int) ≤ 0 by decide, show (0 : Int) ≤ 999 by decide⟩, show (0 : Int) ≤ 0 by decide, show (0 : Int) ≤ 999 by decide⟩
  · exact ⟨show (0 : Int) ≤ 0 by decide, show (0 : Int) ≤ 9 by decide⟩
  · exact ⟨show (0 : Int) ≤ 0 by decide, show (0 : Int) ≤ 24 by decide⟩
  · exact ⟨show (0 : Int) ≤ 0 by decide, show (0 : Int) ≤ 40 by decide⟩
  · exact ⟨show (0 : Int) ≤ 0 by decide, show (0 : Int) ≤ 3 by decide⟩
  · exact ⟨show (0 : Int) ≤ 0 by decide, show (0 : Int) < 24 by decide⟩
  · exact ⟨show (0 : Int) ≤ (i : Int) by omega, show (i : Int) < 40 by omega⟩
  · exact ⟨⟨show (0 : Int) ≤ 0 by decide, show (0 : Int) < 24 by decide⟩, ⟨show (0 : Int) ≤ 0 by decide, show (0 : Int) < 24 by decide⟩, ⟨show (0 : Int) ≤ 0 by decide, show (0 : Int) ≤ 2 by decide⟩, show (0 : Int) ≤ 0 by decide, show (0 : Int) ≤ 20 by decide⟩
theorem PB_00 : PB (fun _ => 0) (fun _ => 0) := fun x hx => ⟨⟨show (-1 : Int) ≤ 0 by decide, show (0 : Int) ≤ 20000 by decide⟩, show (-1 : Int) ≤ 0 by decide, show (0 : Int) ≤ 20000 by decide⟩
theorem RB_00 : RB (fun _ => 0) := fun i => ⟨show (-1000000 : Int) ≤ 0 by decide, show (0 : Int) ≤ 1000000 by decide⟩
theorem SPI_00 {h : AH} (a : h (cB G) = some (cSP G 1)) (H : HP G S00 h) (n1 : NW G h (cB G + 108) (fun _ => 0) (fun _ => 0) (fun _ => 0) (fun _ => 0) (fun _ => 0) 0) (l1 : LV G h (cB G + 116) (fun _ => 0) (fun _ => 0) (fun _ _ => 0) 0 (fun _ => 0) (fun _ => 0) 0 0) (d1 : LD G h (cB G + 128) (fun _ _ => 0) 0) (n2 : NW G h (cB G + 134) (fun _ => 0) (fun _ => 0) (fun _ => 0) (fun _ => 0) (fun _ => 0) 0) (l2 : LV G h (cB G + 142) (fun _ => 0) (fun _ => 0) (fun _ _ => 0) 0 (fun _ => 0) (fun _ => 0) 0 0) (kp : KP G h (cB G + 154) (fun _ => 0) (fun _ => 0) (fun _ => 0) (fun _ => 0) (fun _ => 31) (fun _ => 0) (fun _ _ => 0)) :
    SPI G h S00 1 (h, fun _ => 0, fun _ => 0, fun _ => 0, fun _ => 0, fun _ => 31, fun _ => 0, fun _ _ => 0) := by
  have z5 : (0 : Int) ≤ 0 ∧ (0 : Int) ≤ 5000 := ⟨by decide, by decide⟩
  refine ⟨a, H, WF_00, TOP_00, ⟨_, _, _, _, _, _, n2, PB_00, PB_00, RB_00⟩, ⟨_, _, _, _, _, _, _, _, l2, z5, fun _ _ _ _ => rfl⟩, ⟨kp, ?_⟩, Or.inl ⟨rfl, ⟨_, _, _, _, _, _, n1, PB_00, PB_00, RB_00⟩, ⟨_, _, _, _, _, _, _, _, l1, z5, fun _ _ _ _ => rfl⟩, ⟨_, _, d1, z5, fun _ _ _ _ => rfl⟩⟩, fun _ _ => rfl⟩
  exact ⟨fun x => Or.inl rfl, fun x hx => ⟨⟨show (-1 : Int) ≤ 0 by decide, show (0 : Int) ≤ 5500 by decide⟩, ⟨show (-1 : Int) ≤ 0 by decide, show (0 : Int) ≤ 5500 by decide⟩, ⟨show (0 : Int) ≤ 0 by decide, show (0 : Int) ≤ 71280 by decide⟩, fun _ => show (0 : Int) ≤ 0 by decide⟩⟩
theorem DBE_00 : DBE S00 := fun t _ h9 => absurd (show (0 : Int) = 0 from rfl) h9
end Lw0
section Lw2
variable {G : Ctx} {s : State} {args : Array Value} {Z : List Frame → State → Prop} {h : AH} {N : Nat} {b Ls : Nat} {xs : Nat → Int32} {k0 n0 : Nat}
theorem law_loop (hX : va_X b Ls xs s s.heap) (hbl : b < s.heap.size) (hbA : b < cB G) (hLs : Ls ≤ 260) (kend : ∀ (h9 : AH) (N9 : Nat) (L9 : List (Option Value)), WS G s args Z mL_law k0 n0 h9 N9 144 L9 []) : ∀ (m i : Nat) (x6 : Option Value) (h : AH) (N : Nat) (S : ST) (st : Int) (K : KTup), 42 - i = m → i ≤ 42 → INV9 G h N S st K → WS G s args Z mL_law (k0 + 30 * m) (n0 + 200 * m) h N 44 [some (.ref b), some (.ref (cB G)), some (.ref (cB G + 169)), some (.ref (cB G + 210)), some (.ref (cB G + 211)), some (JV (i : Int)), x6, none] [] := by
  intro m
  induction m with
  | zero =>
    intro i x6 h N S st K hm hi I
    refine ws_iload dL_law_44 rfl ?_
    refine ws_bipush dL_law_46 rfl ?_
    refine ws_icmp_ge 144 dL_law_48 (by decide) ⟨by omega, by omega⟩ ⟨by omega, by omega⟩ (fun c_48 => ?_) (fun c_48 => ?_)
    · exact (kend h N _).le (by omega) (by omega)
    · exfalso; omega
  | succ m ih =>
    intro i x6 h N S st K hm hi I
    refine ws_iload dL_law_44 rfl ?_
    refine ws_bipush dL_law_46 rfl ?_
    refine ws_icmp_ge 144 dL_law_48 (by decide) ⟨by omega, by omega⟩ ⟨by omega, by omega⟩ (fun c_48 => ?_) (fun c_48 => ?_)
    · exfalso; omega
    refine ws_aload_n dL_law_51 rfl ?_
    refine ws_aload_n dL_law_52 rfl ?_
    refine ws_iload dL_law_53 rfl ?_
    refine ws_bipush dL_law_55 rfl ?_
    refine ws_irem dL_law_57 ⟨by omega, by omega⟩ (by omega) ⟨by omega, by omega⟩ (by omega) ?_
    refine ws_cell (Ls := Ls) (xs := xs) ⟨by omega, by omega⟩ hX hbl hbA hLs csL_14 dL_law_58 ⟨Nat.le_of_ble_eq_true rfl, Nat.le_of_ble_eq_true rfl⟩ (Nat.le_of_ble_eq_true rfl) (fun v => ?_)
    refine ws_iload dL_law_61 rfl ?_
    refine ws_bipush dL_law_63 rfl ?_
    refine ws_idiv dL_law_65 ⟨by omega, by omega⟩ (by omega) ⟨by omega, by omega⟩ (by omega) ?_
    refine ws_bipush dL_law_66 rfl ?_
    refine ws_imul dL_law_68 ?_
    refine ws_ishrR dL_law_69 ?_
    refine ws_aload_n dL_law_70 rfl ?_
    refine ws_aload_n dL_law_71 rfl ?_
    refine ws_aload dL_law_72 rfl ?_
    refine ws_callSH (k2 := k0 + 30 * m + 28) (n2 := n0 + 200 * m + 190) (L_act (x := sh v ((i : Int) / 36 * 11)) I) csL_20 dL_law_74 ⟨Nat.le_of_ble_eq_true rfl, Nat.le_of_ble_eq_true rfl⟩ (Nat.le_of_ble_eq_true rfl) rfl rfl (by omega) (by omega) (fun r h1 N1 hq => ?_)
    obtain ⟨rfl, S1, st1, K1, I1⟩ := hq
    change WS G s args Z mL_law _ _ h1 N1 77 [some (.ref b), some (.ref (cB G)), some (.ref (cB G + 169)), some (.ref (cB G + 210)), some (.ref (cB G + 211)), some (JV (i : Int)), x6, none] [JV 1]
    refine ws_if_ne 82 dL_law_77 (by decide) ⟨by omega, by omega⟩ (fun c_77 => ?_) (fun c_77 => ?_)
    · have k138 : ∀ (h9 : AH) (N9 : Nat) (S9 : ST) (st9 : Int) (K9 : KTup) (y6 : Option Value), INV9 G h9 N9 S9 st9 K9 → WS G s args Z mL_law (k0 + 30 * m) (n0 + 200 * m) h9 N9 138 [some (.ref b), some (.ref (cB G)), some (.ref (cB G + 169)), some (.ref (cB G + 210)), some (.ref (cB G + 211)), some (JV (i : Int)), y6, none] [] := fun h9 N9 S9 st9 K9 y6 I9 => by
        refine ws_iinc dL_law_138 rfl (Nat.le_of_ble_eq_true rfl) rfl ?_
        change WS G s args Z mL_law _ _ h9 N9 141 [some (.ref b), some (.ref (cB G)), some (.ref (cB G + 169)), some (.ref (cB G + 210)), some (.ref (cB G + 211)), some (JV ((i : Int) + 1)), y6, none] []
        refine ws_goto 44 dL_law_141 (by decide) ?_
        exact ih (i + 1) y6 h9 N9 S9 st9 K9 (by omega) (by omega) I9
      refine ws_iload dL_law_82 rfl ?_
      refine ws_bipush dL_law_84 rfl ?_
      refine ws_irem dL_law_86 ⟨by omega, by omega⟩ (by omega) ⟨by omega, by omega⟩ (by omega) ?_
      refine ws_bipush dL_law_87 rfl ?_
      refine ws_icmp_eq 95 dL_law_89 (by decide) ⟨by omega, by omega⟩ ⟨by omega, by omega⟩ (fun c_89 => ?_) (fun c_89 => ?_)
      · obtain ⟨⟨⟨L, hp⟩, ⟨g, hg, hgs⟩, f, hf, hft⟩, dN⟩ := I1.lw
        have hg9 := (I1.sp.gh _ (by omega)).symm.trans hg
        have hf9 := (I1.sp.gh _ (by omega)).symm.trans hf
        have hO9 := (I1.sp.gh _ (by omega)).symm.trans hp.1
        refine ws_aload_n dL_law_95 rfl ?_
        refine ws_callV (k2 := k0 + 30 * m + 28) (n2 := n0 + 200 * m + 190) (c_digest (N := N1) I1.sp) cvL_24 dL_law_96 ⟨Nat.le_of_ble_eq_true rfl, Nat.le_of_ble_eq_true rfl⟩ (Nat.le_of_ble_eq_true rfl) I1.sp.1 rfl rfl rfl rfl (by omega) (by omega) (fun r h2 N2 hq => ?_)
        obtain ⟨hN2, sp2, v2, rfl, eb, ee, lb, le, rm, ld, od, fv, ev⟩ := hq
        rw [hN2]
        have pl : PL S1 eb ee lb le rm ld (lvAll S1 lb rm (S1 15 0 0) od) := ⟨od, fv, rfl⟩
        clear fv
        generalize lvAll S1 lb rm (S1 15 0 0) od = s9 at pl ev
        have I2 := I1.q sp2
        change WS G s args Z mL_law _ _ h2 N1 99 [some (.ref b), some (.ref (cB G)), some (.ref (cB G + 169)), some (.ref (cB G + 210)), some (.ref (cB G + 211)), some (JV (i : Int)), x6, none] [.long v2]
        refine ws_lstore dL_law_99 (Nat.le_of_ble_eq_true rfl) rfl ?_
        change WS G s args Z mL_law _ _ h2 N1 101 [some (.ref b), some (.ref (cB G)), some (.ref (cB G + 169)), some (.ref (cB G + 210)), some (.ref (cB G + 211)), some (JV (i : Int)), some (.long v2), none] []
        refine ws_aload_n dL_law_101 rfl ?_
        refine ws_aload dL_law_102 rfl ?_
        refine ws_callS (k2 := k0 + 30 * m + 4) (n2 := n0 + 200 * m + 46) (L_arePlansRight (N := N1) pl sp2 I2.db I2.n9 hf9 hft) csL_28 dL_law_104 ⟨Nat.le_of_ble_eq_true rfl, Nat.le_of_ble_eq_true rfl⟩ (Nat.le_of_ble_eq_true rfl) rfl rfl (by omega) (by omega) (fun r h3 N3 hq => ?_)
        obtain ⟨rfl, hN3, sp3⟩ := hq
        rw [hN3]
        change WS G s args Z mL_law _ _ h3 N1 107 [some (.ref b), some (.ref (cB G)), some (.ref (cB G + 169)), some (.ref (cB G + 210)), some (.ref (cB G + 211)), some (JV (i : Int)), some (.long v2), none] [JV 1]
        refine ws_if_eq 136 dL_law_107 (by decide) ⟨by omega, by omega⟩ (fun c_107 => absurd c_107 (by decide)) (fun c_107 => ?_)
        refine ws_aload_n dL_law_110 rfl ?_
        refine ws_aload_n dL_law_111 rfl ?_
        refine ws_callS (k2 := k0 + 30 * m) (n2 := n0 + 200 * m) (L_areLinksRight (N := N1) pl sp3 I2.db hO9 (fun k hk => by have := (hp.2 k hk).1; omega) (fun k hk => ?_)) csL_32 dL_law_112 ⟨Nat.le_of_ble_eq_true rfl, Nat.le_of_ble_eq_true rfl⟩ (Nat.le_of_ble_eq_true rfl) rfl rfl (by omega) (by omega) (fun r h4 N4 hq => ?_)
        · have wL := I1.wf.nL
          obtain ⟨⟨a1, a2, a3⟩, f9, f1, f2⟩ := hp.2 k (by omega)
          exact ⟨f9, (I1.sp.gh _ (by omega)).symm.trans f1, f2 hk⟩
        obtain ⟨rfl, hN4, sp4⟩ := hq
        rw [hN4]
        change WS G s args Z mL_law _ _ h4 N1 115 [some (.ref b), some (.ref (cB G)), some (.ref (cB G + 169)), some (.ref (cB G + 210)), some (.ref (cB G + 211)), some (JV (i : Int)), some (.long v2), none] [JV 1]
        refine ws_if_eq 136 dL_law_115 (by decide) ⟨by omega, by omega⟩ (fun c_115 => absurd c_115 (by decide)) (fun c_115 => ?_)
        refine ws_aload_n dL_law_118 rfl ?_
        refine ws_aload_n dL_law_119 rfl ?_
        refine ws_callS (k2 := k0 + 30 * m) (n2 := n0 + 200 * m) (L_areCrewsRight (N := N1) pl sp4 I2.db hg9 hgs) csL_36 dL_law_120 ⟨Nat.le_of_ble_eq_true rfl, Nat.le_of_ble_eq_true rfl⟩ (Nat.le_of_ble_eq_true rfl) rfl rfl (by omega) (by omega) (fun r h5 N5 hq => ?_)
        obtain ⟨rfl, hN5, sp5⟩ := hq
        rw [hN5]
        change WS G s args Z mL_law _ _ h5 N1 123 [some (.ref b), some (.ref (cB G)), some (.ref (cB G + 169)), some (.ref (cB G + 210)), some (.ref (cB G + 211)), some (JV (i : Int)), some (.long v2), none] [JV 1]
        refine ws_if_eq 136 dL_law_123 (by decide) ⟨by omega, by omega⟩ (fun c_123 => absurd c_123 (by decide)) (fun c_123 => ?_)
        refine ws_aload_n dL_law_126 rfl ?_
        refine ws_callV (k2 := k0 + 30 * m) (n2 := n0 + 200 * m) (g_digest (N := N1) pl sp5) cvL_24 dL_law_127 ⟨Nat.le_of_ble_eq_true rfl, Nat.le_of_ble_eq_true rfl⟩ (Nat.le_of_ble_eq_true rfl) sp5.1 rfl rfl rfl rfl (by omega) (by omega) (fun r h6 N6 hq => ?_)
        obtain ⟨rfl, hN6, sp6⟩ := hq
        rw [hN6, ← ev]
        change WS G s args Z mL_law _ _ h6 N1 130 [some (.ref b), some (.ref (cB G)), some (.ref (cB G + 169)), some (.ref (cB G + 210)), some (.ref (cB G + 211)), some (JV (i : Int)), some (.long v2), none] [.long v2]
        refine ws_lload dL_law_130 rfl ?_
        refine ws_lcmpS dL_law_132 ?_
        refine ws_if0 138 dL_law_133 (by decide) ?_
        exact k138 h6 N1 S1 0 K1 _ (I1.q sp6)
      · refine ws_goto 138 dL_law_92 (by decide) ?_
        exact (k138 h1 N1 S1 st1 K1 x6 I1).le (by omega) (by omega)
    · exact absurd c_77 (by decide)
theorem law_end (hB : s.heap.size ≤ cB G) {L : List (Option Value)} {k n : Nat} : WS G s #[Value.ref b] (fun below => lw_Z below #[Value.ref b] s) mL_law k n h N 144 L [] := by
  refine ws_iconst dL_law_144 ?_
  intro p e R m below meth c H locs cells slots mc ms ls hE F a1 a2 a3 a4 a5 a6 hR hS hL
  obtain ⟨rfl, rfl, rfl⟩ := hE
  refine va_forget (fun q hq => Nat.le_trans hB (hS.2.2 q hq)) ?_
  refine W.widen (k := 600104) (n := 7301313) (by omega) (by omega) ?_
  exact lw_ret F.1 F.2.1 F.2.2.2.1 F.2.2.2.2.2.2.1 dL_law_145
theorem law_run (hX : va_X b Ls xs s s.heap) (hbl : b < s.heap.size) (hbA : b < cB G) (hLs : Ls ≤ 260) (hB : cB G = N) (kend : ∀ (h9 : AH) (N9 : Nat) (L9 : List (Option Value)), WS G s args Z mL_law 0 0 h9 N9 144 L9 []) : WS G s args Z mL_law 30000 700000 (fun _ => none) N 0 [some (.ref b), none, none, none, none, none, none, none] [] := by
  subst hB
  refine ws_new (fs := [.null, .null, .null, .null, .null, .null, .null, JV 0]) (k2 := 29999) (n2 := 699992) ckX10 clL_9 isX10 inX10 dL_law_0 dfX10 (by omega) (by omega) ?_
  obtain ⟨h1, e1⟩ : ∃ hh9 : AH, hh9 = hup (fun _ => none) (cB G) (eO 10 [.null, .null, .null, .null, .null, .null, .null, JV 0]) := ⟨_, rfl⟩
  refine WS.heq e1 ?_
  have c1 : h1 (cB G) = some (eO 10 [.null, .null, .null, .null, .null, .null, .null, JV 0]) := by rw [e1]; exact hup_self _ _ _
  refine ws_dup dL_law_3 rfl ?_
  refine ws_callI (k2 := 29800) (n2 := 600000) (n_SlipwayPlan c1) ciL_11 dL_law_4 ⟨Nat.le_of_ble_eq_true rfl, Nat.le_of_ble_eq_true rfl⟩ (Nat.le_of_ble_eq_true rfl) rfl rfl (by omega) (by omega) (fun r h2 N2 hq => ?_)
  obtain ⟨rfl, rfl, a, H, n1, l1, d1, n2, l2, kp⟩ := hq
  change WS G s args Z mL_law _ _ h2 (cB G + 169) 7 [some (.ref b), none, none, none, none, none, none, none] [.ref (cB G)]
  refine ws_astore_n dL_law_7 (Nat.le_of_ble_eq_true rfl) rfl ?_
  change WS G s args Z mL_law _ _ h2 (cB G + 169) 8 [some (.ref b), some (.ref (cB G)), none, none, none, none, none, none] []
  refine ws_bipush dL_law_8 rfl ?_
  refine ws_iconst dL_law_10 ?_
  refine ws_multi (r := 40) (m := 4) (k2 := 29700) (n2 := 599000) dL_law_11 clL_12 ar_int (by decide) (by decide) (by omega) (by omega) ?_
  obtain ⟨h3, e3⟩ : ∃ hh9 : AH, hh9 = hrows G h2 (cB G + 169) 40 4 := ⟨_, rfl⟩
  refine WS.heq e3 ?_
  have o3 : ∀ q, q < cB G + 169 → h3 q = h2 q := fun q hq => by
    rw [e3]
    unfold hrows
    rw [if_neg (by omega), if_neg (by omega)]
  have r3 : h3 (cB G + 169) = some (eQ G 4 40 (fun i => if i < 40 then some (cB G + 169 + 1 + i) else none)) := by
    rw [e3]
    unfold hrows
    rw [if_pos rfl]
  have q3 : ∀ i, i < 40 → h3 (cB G + 169 + 1 + i) = some (eI G 4 (fun _ => 0)) := fun i hi => by
    rw [e3]
    unfold hrows
    rw [if_neg (by omega), if_pos (by omega)]
  clear e3
  change WS G s args Z mL_law _ _ h3 (cB G + 210) 15 [some (.ref b), some (.ref (cB G)), none, none, none, none, none, none] [.ref (cB G + 169)]
  refine ws_astore_n dL_law_15 (Nat.le_of_ble_eq_true rfl) rfl ?_
  refine ws_iconst dL_law_16 ?_
  refine ws_newI (m := 3) (k2 := 29600) (n2 := 598000) dL_law_17 ar_int rfl (by decide) (by omega) (by omega) ?_
  obtain ⟨h4, e4⟩ : ∃ hh9 : AH, hh9 = hup h3 (cB G + 210) (eI G 3 (fun _ => 0)) := ⟨_, rfl⟩
  refine WS.heq e4 ?_
  have c4 : h4 (cB G + 210) = some (eI G 3 (fun _ => 0)) := by rw [e4]; exact hup_self _ _ _
  refine ws_dup dL_law_19 rfl ?_
  refine ws_iconst dL_law_20 ?_
  refine ws_bipush dL_law_21 rfl ?_
  refine ws_iastore dL_law_23 c4 (by omega) (by omega) (by omega) ?_
  obtain ⟨h5, e5⟩ : ∃ hh9 : AH, hh9 = hup h4 (cB G + 210) (eI G 3 (fup (fun _ => 0) 0 9)) := ⟨_, rfl⟩
  refine WS.heq e5 ?_
  have c5 : h5 (cB G + 210) = some (eI G 3 (fup (fun _ => 0) 0 9)) := by rw [e5]; exact hup_self _ _ _
  refine ws_dup dL_law_24 rfl ?_
  refine ws_iconst dL_law_25 ?_
  refine ws_bipush dL_law_26 rfl ?_
  refine ws_iastore dL_law_28 c5 (by omega) (by omega) (by omega) ?_
  obtain ⟨h6, e6⟩ : ∃ hh9 : AH, hh9 = hup h5 (cB G + 210) (eI G 3 (fup (fup (fun _ => 0) 0 9) 1 9)) := ⟨_, rfl⟩
  refine WS.heq e6 ?_
  have c6 : h6 (cB G + 210) = some (eI G 3 (fup (fup (fun _ => 0) 0 9) 1 9)) := by rw [e6]; exact hup_self _ _ _
  refine ws_dup dL_law_29 rfl ?_
  refine ws_iconst dL_law_30 ?_
  refine ws_bipush dL_law_31 rfl ?_
  refine ws_iastore dL_law_33 c6 (by omega) (by omega) (by omega) ?_
  obtain ⟨h7, e7⟩ : ∃ hh9 : AH, hh9 = hup h6 (cB G + 210) (eI G 3 (fup (fup (fup (fun _ => 0) 0 9) 1 9) 2 9)) := ⟨_, rfl⟩
  refine WS.heq e7 ?_
  have c7 : h7 (cB G + 210) = some (eI G 3 (fup (fup (fup (fun _ => 0) 0 9) 1 9) 2 9)) := by rw [e7]; exact hup_self _ _ _
  refine ws_astore_n dL_law_34 (Nat.le_of_ble_eq_true rfl) rfl ?_
  refine ws_bipush dL_law_35 rfl ?_
  refine ws_newI (m := 24) (k2 := 29500) (n2 := 597000) dL_law_37 ar_int rfl (by decide) (by omega) (by omega) ?_
  obtain ⟨h8, e8⟩ : ∃ hh9 : AH, hh9 = hup h7 (cB G + 211) (eI G 24 (fun _ => 0)) := ⟨_, rfl⟩
  refine WS.heq e8 ?_
  refine ws_astore dL_law_39 (Nat.le_of_ble_eq_true rfl) rfl ?_
  refine ws_iconst dL_law_41 ?_
  refine ws_istore dL_law_42 (Nat.le_of_ble_eq_true rfl) rfl ?_
  change WS G s args Z mL_law _ _ h8 (cB G + 212) 44 [some (.ref b), some (.ref (cB G)), some (.ref (cB G + 169)), some (.ref (cB G + 210)), some (.ref (cB G + 211)), some (JV ((0 : Nat) : Int)), none, none] []
  have q8 : ∀ q, q ≠ cB G + 210 → q ≠ cB G + 211 → h8 q = h3 q := fun q a1 a2 => (hup_at e8 a2).trans ((hup_at e7 a1).trans ((hup_at e6 a1).trans ((hup_at e5 a1).trans (hup_at e4 a1))))
  have sp2 := SPI_00 a H n1 l1 d1 n2 l2 kp
  have sp := sp2.reghost (h' := h8) (fun q hq => (q8 q (by omega) (by omega)).trans (o3 q hq))
  have I : INV9 G h8 (cB G + 212) S00 1 _ := ⟨sp, XI_00, DBE_00, show (0 : Int) ≤ 9 by decide, ⟨⟨fun i => cB G + 169 + 1 + i, (q8 _ (by omega) (by omega)).trans r3, fun i hi => by
      show ((cB G + 170 ≤ cB G + 169 + 1 + i ∧ cB G + 169 + 1 + i < cB G + 212) ∧ cB G + 169 + 1 + i ≠ cB G + 210 ∧ cB G + 169 + 1 + i ≠ cB G + 211) ∧ ∃ f : Nat → Int, h8 (cB G + 169 + 1 + i) = some (eI G 4 f) ∧ ((i : Int) < S00 14 0 0 → f 0 = lF S00 i ∧ f 1 = lT S00 i ∧ f 2 = lK S00 i ∧ f 3 = lG S00 i)
      exact ⟨⟨⟨by omega, by omega⟩, by omega, by omega⟩, _, (q8 _ (by omega) (by omega)).trans (q3 i hi), fun hk => absurd (show (i : Int) < 0 from hk) (by omega)⟩⟩, ⟨_, (hup_at e8 (by omega)).trans c7, fun c hc => by
      show fup (fup (fup (fun _ => 0) 0 9) 1 9) 2 9 c = 9
      unfold fup
      by_cases h2 : c = 2
      · rw [if_pos h2]
      · rw [if_neg h2]
        by_cases h1 : c = 1
        · rw [if_pos h1]
        · rw [if_neg h1, if_pos (by omega)]⟩, _, by rw [e8]; exact hup_self _ _ _, fun t _ => rfl⟩, Nat.le_refl _⟩
  refine WS.le (k' := 0 + 30 * 42) (n' := 0 + 200 * 42) (by omega) (by omega) ?_
  exact law_loop hX hbl hbA hLs kend 42 0 none h8 _ S00 1 _ (by omega) (by omega) I
end Lw2

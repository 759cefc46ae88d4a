/-! ===== the law's body, its loop, its beginning ===== -/
section Lw2
variable {G : Ctx} {s : State} {args : Array Value} {Z : List Frame → State → Prop} {h : AH} {N : Nat} {b Ls : Nat} {xs : Nat → Int32} {i t : Int} {k0 n0 : Nat}
theorem law_sw (hX : va_X b Ls xs s s.heap) (hbl : b < s.heap.size) (hbA : b < cB G) (hLs : Ls ≤ 2560) (hi : 0 ≤ i ∧ i + 5 ≤ (Ls : Int)) (I : INVt G h N t) (kk : ∀ (h9 : AH) (N9 : Nat) (t9 : Int), INVt G h9 N9 t9 → WS G s args Z mL_law k0 n0 h9 N9 2665 (LLw G b i) []) {j : Nat} (hj : j < 64) : WS G s args Z mL_law (k0 + 43) (n0 + 1014) h N 44 (LLw G b i) [JV (j : Int)] := by
  by_cases e0 : j = 0
  · subst e0
    exact ws_tsIn (off := 200) 244 dL_law_44 ⟨by omega, by omega⟩ (by omega) (by omega) (by decide) (by decide) (K_setWeek hX hbl hbA hLs hi I kk)
  by_cases e1 : j = 1
  · subst e1
    exact ws_tsIn (off := 268) 312 dL_law_44 ⟨by omega, by omega⟩ (by omega) (by omega) (by decide) (by decide) (K_setFree hX hbl hbA hLs hi I kk)
  by_cases e2 : j = 2
  · subst e2
    exact ws_tsIn (off := 371) 415 dL_law_44 ⟨by omega, by omega⟩ (by omega) (by omega) (by decide) (by decide) (K_setCrew hX hbl hbA hLs hi I kk)
  by_cases e3 : j = 3
  · subst e3
    exact ws_tsIn (off := 451) 495 dL_law_44 ⟨by omega, by omega⟩ (by omega) (by omega) (by decide) (by decide) (K_addTask hX hbl hbA hLs hi I kk)
  by_cases e4 : j = 4
  · subst e4
    exact ws_tsIn (off := 519) 563 dL_law_44 ⟨by omega, by omega⟩ (by omega) (by omega) (by decide) (by decide) (K_setLength hX hbl hbA hLs hi I kk)
  by_cases e5 : j = 5
  · subst e5
    exact ws_tsIn (off := 587) 631 dL_law_44 ⟨by omega, by omega⟩ (by omega) (by omega) (by decide) (by decide) (K_setTerms hX hbl hbA hLs hi I kk)
  by_cases e6 : j = 6
  · subst e6
    exact ws_tsIn (off := 667) 711 dL_law_44 ⟨by omega, by omega⟩ (by omega) (by omega) (by decide) (by decide) (K_setNeed hX hbl hbA hLs hi I kk)
  by_cases e7 : j = 7
  · subst e7
    exact ws_tsIn (off := 747) 791 dL_law_44 ⟨by omega, by omega⟩ (by omega) (by omega) (by decide) (by decide) (K_link hX hbl hbA hLs hi I kk)
  by_cases e8 : j = 8
  · subst e8
    exact ws_tsIn (off := 839) 883 dL_law_44 ⟨by omega, by omega⟩ (by omega) (by omega) (by decide) (by decide) (K_drop hX hbl hbA hLs hi I kk)
  by_cases e9 : j = 9
  · subst e9
    exact ws_tsIn (off := 895) 939 dL_law_44 ⟨by omega, by omega⟩ (by omega) (by omega) (by decide) (by decide) (K_finish hX hbl hbA hLs hi I kk)
  by_cases e10 : j = 10
  · subst e10
    exact ws_tsIn (off := 982) 1026 dL_law_44 ⟨by omega, by omega⟩ (by omega) (by omega) (by decide) (by decide) (K_reopen hX hbl hbA hLs hi I kk)
  by_cases e11 : j = 11
  · subst e11
    exact ws_tsIn (off := 1045) 1089 dL_law_44 ⟨by omega, by omega⟩ (by omega) (by omega) (by decide) (by decide) (K_setRule hX hbl hbA hLs hi I kk)
  by_cases e12 : j = 12
  · subst e12
    exact ws_tsIn (off := 1101) 1145 dL_law_44 ⟨by omega, by omega⟩ (by omega) (by omega) (by decide) (by decide) (K_tasks hX hbl hbA hLs hi I kk)
  by_cases e13 : j = 13
  · subst e13
    exact ws_tsIn (off := 1114) 1158 dL_law_44 ⟨by omega, by omega⟩ (by omega) (by omega) (by decide) (by decide) (K_links hX hbl hbA hLs hi I kk)
  by_cases e14 : j = 14
  · subst e14
    exact ws_tsIn (off := 1127) 1171 dL_law_44 ⟨by omega, by omega⟩ (by omega) (by omega) (by decide) (by decide) (K_works hX hbl hbA hLs hi I kk)
  by_cases e15 : j = 15
  · subst e15
    exact ws_tsIn (off := 1202) 1246 dL_law_44 ⟨by omega, by omega⟩ (by omega) (by omega) (by decide) (by decide) (K_earlyBegin hX hbl hbA hLs hi I kk)
  by_cases e16 : j = 16
  · subst e16
    exact ws_tsIn (off := 1258) 1302 dL_law_44 ⟨by omega, by omega⟩ (by omega) (by omega) (by decide) (by decide) (K_earlyEnd hX hbl hbA hLs hi I kk)
  by_cases e17 : j = 17
  · subst e17
    exact ws_tsIn (off := 1314) 1358 dL_law_44 ⟨by omega, by omega⟩ (by omega) (by omega) (by decide) (by decide) (K_lateBegin hX hbl hbA hLs hi I kk)
  by_cases e18 : j = 18
  · subst e18
    exact ws_tsIn (off := 1370) 1414 dL_law_44 ⟨by omega, by omega⟩ (by omega) (by omega) (by decide) (by decide) (K_lateEnd hX hbl hbA hLs hi I kk)
  by_cases e19 : j = 19
  · subst e19
    exact ws_tsIn (off := 1426) 1470 dL_law_44 ⟨by omega, by omega⟩ (by omega) (by omega) (by decide) (by decide) (K_room hX hbl hbA hLs hi I kk)
  by_cases e20 : j = 20
  · subst e20
    exact ws_tsIn (off := 1482) 1526 dL_law_44 ⟨by omega, by omega⟩ (by omega) (by omega) (by decide) (by decide) (K_last hX hbl hbA hLs hi I kk)
  by_cases e21 : j = 21
  · subst e21
    exact ws_tsIn (off := 1495) 1539 dL_law_44 ⟨by omega, by omega⟩ (by omega) (by omega) (by decide) (by decide) (K_tight hX hbl hbA hLs hi I kk)
  by_cases e22 : j = 22
  · subst e22
    exact ws_tsIn (off := 1508) 1552 dL_law_44 ⟨by omega, by omega⟩ (by omega) (by omega) (by decide) (by decide) (K_wanted hX hbl hbA hLs hi I kk)
  by_cases e23 : j = 23
  · subst e23
    exact ws_tsIn (off := 1576) 1620 dL_law_44 ⟨by omega, by omega⟩ (by omega) (by omega) (by decide) (by decide) (K_overloaded hX hbl hbA hLs hi I kk)
  by_cases e24 : j = 24
  · subst e24
    exact ws_tsIn (off := 1632) 1676 dL_law_44 ⟨by omega, by omega⟩ (by omega) (by omega) (by decide) (by decide) (K_begin hX hbl hbA hLs hi I kk)
  by_cases e25 : j = 25
  · subst e25
    exact ws_tsIn (off := 1688) 1732 dL_law_44 ⟨by omega, by omega⟩ (by omega) (by omega) (by decide) (by decide) (K_end hX hbl hbA hLs hi I kk)
  by_cases e26 : j = 26
  · subst e26
    exact ws_tsIn (off := 1744) 1788 dL_law_44 ⟨by omega, by omega⟩ (by omega) (by omega) (by decide) (by decide) (K_levelledLast hX hbl hbA hLs hi I kk)
  by_cases e27 : j = 27
  · subst e27
    exact ws_tsIn (off := 1757) 1801 dL_law_44 ⟨by omega, by omega⟩ (by omega) (by omega) (by decide) (by decide) (K_stuck hX hbl hbA hLs hi I kk)
  by_cases e28 : j = 28
  · subst e28
    exact ws_tsIn (off := 1770) 1814 dL_law_44 ⟨by omega, by omega⟩ (by omega) (by omega) (by decide) (by decide) (K_orderAt hX hbl hbA hLs hi I kk)
  by_cases e29 : j = 29
  · subst e29
    exact ws_tsIn (off := 1826) 1870 dL_law_44 ⟨by omega, by omega⟩ (by omega) (by omega) (by decide) (by decide) (K_used hX hbl hbA hLs hi I kk)
  by_cases e30 : j = 30
  · subst e30
    exact ws_tsIn (off := 1894) 1938 dL_law_44 ⟨by omega, by omega⟩ (by omega) (by omega) (by decide) (by decide) (K_peak hX hbl hbA hLs hi I kk)
  by_cases e31 : j = 31
  · subst e31
    exact ws_tsIn (off := 1950) 1994 dL_law_44 ⟨by omega, by omega⟩ (by omega) (by omega) (by decide) (by decide) (K_holds hX hbl hbA hLs hi I kk)
  by_cases e32 : j = 32
  · subst e32
    exact ws_tsIn (off := 2006) 2050 dL_law_44 ⟨by omega, by omega⟩ (by omega) (by omega) (by decide) (by decide) (K_heldBy hX hbl hbA hLs hi I kk)
  by_cases e33 : j = 33
  · subst e33
    exact ws_tsIn (off := 2062) 2106 dL_law_44 ⟨by omega, by omega⟩ (by omega) (by omega) (by decide) (by decide) (K_idle hX hbl hbA hLs hi I kk)
  by_cases e34 : j = 34
  · subst e34
    exact ws_tsIn (off := 2118) 2162 dL_law_44 ⟨by omega, by omega⟩ (by omega) (by omega) (by decide) (by decide) (K_keep hX hbl hbA hLs hi I kk)
  by_cases e35 : j = 35
  · subst e35
    exact ws_tsIn (off := 2131) 2175 dL_law_44 ⟨by omega, by omega⟩ (by omega) (by omega) (by decide) (by decide) (K_behind hX hbl hbA hLs hi I kk)
  by_cases e36 : j = 36
  · subst e36
    exact ws_tsIn (off := 2187) 2231 dL_law_44 ⟨by omega, by omega⟩ (by omega) (by omega) (by decide) (by decide) (K_planned hX hbl hbA hLs hi I kk)
  by_cases e37 : j = 37
  · subst e37
    exact ws_tsIn (off := 2243) 2287 dL_law_44 ⟨by omega, by omega⟩ (by omega) (by omega) (by decide) (by decide) (K_earned hX hbl hbA hLs hi I kk)
  by_cases e38 : j = 38
  · subst e38
    exact ws_tsIn (off := 2256) 2300 dL_law_44 ⟨by omega, by omega⟩ (by omega) (by omega) (by decide) (by decide) (K_worth hX hbl hbA hLs hi I kk)
  by_cases e39 : j = 39
  · subst e39
    exact ws_tsIn (off := 2269) 2313 dL_law_44 ⟨by omega, by omega⟩ (by omega) (by omega) (by decide) (by decide) (K_pace hX hbl hbA hLs hi I kk)
  by_cases e40 : j = 40
  · subst e40
    exact ws_tsIn (off := 2346) 2390 dL_law_44 ⟨by omega, by omega⟩ (by omega) (by omega) (by decide) (by decide) (K_lastWith hX hbl hbA hLs hi I kk)
  by_cases e41 : j = 41
  · subst e41
    exact ws_tsIn (off := 2414) 2458 dL_law_44 ⟨by omega, by omega⟩ (by omega) (by omega) (by decide) (by decide) (K_levelledWith hX hbl hbA hLs hi I kk)
  by_cases e42 : j = 42
  · subst e42
    exact ws_tsIn (off := 2482) 2526 dL_law_44 ⟨by omega, by omega⟩ (by omega) (by omega) (by decide) (by decide) (K_levelledWithout hX hbl hbA hLs hi I kk)
  by_cases e43 : j = 43
  · subst e43
    exact ws_tsIn (off := 2538) 2582 dL_law_44 ⟨by omega, by omega⟩ (by omega) (by omega) (by decide) (by decide) (K_bestRule hX hbl hbA hLs hi I kk)
  by_cases e44 : j = 44
  · subst e44
    exact ws_tsIn (off := 2551) 2595 dL_law_44 ⟨by omega, by omega⟩ (by omega) (by omega) (by decide) (by decide) (K_couldGrow hX hbl hbA hLs hi I kk)
  by_cases e45 : j = 45
  · subst e45
    exact ws_tsIn (off := 2607) 2651 dL_law_44 ⟨by omega, by omega⟩ (by omega) (by omega) (by decide) (by decide) (K_digest hX hbl hbA hLs hi I kk)
  exact WS.le (Nat.le_add_right _ _) (Nat.le_add_right _ _) (ws_tsOut 2665 dL_law_44 ⟨by omega, by omega⟩ (by omega) (by decide) (kk _ _ _ I))
theorem law_body (hX : va_X b Ls xs s s.heap) (hbl : b < s.heap.size) (hbA : b < cB G) (hLs : Ls ≤ 2560) (hi : 0 ≤ i ∧ i + 5 ≤ (Ls : Int)) (I : INVt G h N t) (kk : ∀ (h9 : AH) (N9 : Nat) (t9 : Int), INVt G h9 N9 t9 → WS G s args Z mL_law k0 n0 h9 N9 2665 (LLw G b i) []) : WS G s args Z mL_law (k0 + 43) (n0 + 1014) h N 37 (LLw G b i) [] := by
  refine ws_aload_n dL_law_37 rfl ?_
  refine ws_iload dL_law_38 rfl ?_
  refine ws_sld hX hbl hbA (by omega) (by omega) hLs dL_law_40 ?_
  refine ws_bipush dL_law_41 rfl ?_
  refine ws_iand dL_law_43 ?_
  obtain ⟨j, hj, ej⟩ := J_and63 (Int32.ofInt ((xs i.toNat).toInt))
  rw [ej]
  exact law_sw hX hbl hbA hLs hi I kk hj
theorem law_loop (hX : va_X b Ls xs s s.heap) (hbl : b < s.heap.size) (hbA : b < cB G) (hLs : Ls ≤ 2560) (kend : ∀ (h9 : AH) (N9 : Nat) (i9 : Int), WS G s args Z mL_law 0 0 h9 N9 2671 (LLw G b i9) []) : ∀ (m : Nat) (i : Int) (h : AH) (N : Nat) (t : Int), (0 ≤ i ∧ i ≤ 2560) → (Ls : Int) ≤ i + 5 * (m : Int) + 4 → INVt G h N t → WS G s args Z mL_law (43 * m) (1014 * m) h N 28 (LLw G b i) [] := by
  intro m
  induction m with
  | zero =>
    intro i h N t hi hm I
    refine ws_iload dL_law_28 rfl ?_
    refine ws_aload_n dL_law_30 rfl ?_
    refine ws_slen hX hbl hbA dL_law_31 ?_
    refine ws_iconst dL_law_32 ?_
    refine ws_isub dL_law_33 ?_
    refine ws_icmp_gt 2671 dL_law_34 (by decide) ⟨by omega, by omega⟩ ⟨by omega, by omega⟩ (fun c9 => ?_) (fun c9 => ?_)
    · exact WS.le (Nat.zero_le _) (Nat.zero_le _) (kend _ _ _)
    · exfalso; omega
  | succ m ih =>
    intro i h N t hi hm I
    refine ws_iload dL_law_28 rfl ?_
    refine ws_aload_n dL_law_30 rfl ?_
    refine ws_slen hX hbl hbA dL_law_31 ?_
    refine ws_iconst dL_law_32 ?_
    refine ws_isub dL_law_33 ?_
    refine ws_icmp_gt 2671 dL_law_34 (by decide) ⟨by omega, by omega⟩ ⟨by omega, by omega⟩ (fun c9 => ?_) (fun c9 => ?_)
    · exact WS.le (Nat.zero_le _) (Nat.zero_le _) (kend _ _ _)
    · refine law_body (k0 := 43 * m) (n0 := 1014 * m) hX hbl hbA hLs ⟨hi.1, by omega⟩ I (fun h9 N9 t9 I9 => ?_)
      refine ws_iinc dL_law_2665 rfl (Nat.le_of_ble_eq_true rfl) rfl ?_
      refine ws_goto 28 dL_law_2668 (by decide) ?_
      exact ih (i + 5) h9 N9 t9 ⟨by omega, by omega⟩ (by omega) I9
theorem dfX11 : ∀ j, j < 35 → defaultValue (tyX11 j) = vp_V [JV 0, .null, .null, .null, .null, .null, JV 0, .null, .null, .null, .null, .null, .null, .null, JV 0, .null, JV 0, JV 0, .null, .null, .null, .null, .null, .null, JV 0, JV 0, JV 0, .null, JV 0, .null, .null, .null, .null, .null, .long 0] j := fun j hj => by
  rcases j with _ | _ | _ | _ | _ | _ | _ | _ | _ | _ | _ | _ | _ | _ | _ | _ | _ | _ | _ | _ | _ | _ | _ | _ | _ | _ | _ | _ | _ | _ | _ | _ | _ | _ | _ | j
  · rfl
  · rfl
  · rfl
  · rfl
  · rfl
  · rfl
  · rfl
  · rfl
  · rfl
  · rfl
  · rfl
  · rfl
  · rfl
  · rfl
  · rfl
  · rfl
  · rfl
  · rfl
  · rfl
  · rfl
  · rfl
  · rfl
  · rfl
  · rfl
  · rfl
  · rfl
  · rfl
  · rfl
  · rfl
  · rfl
  · rfl
  · rfl
  · rfl
  · rfl
  · rfl
  · omega
theorem wsum_00 : ∀ n, wsum (fun _ => (0 : Int)) n = 0
  | 0 => rfl
  | n + 1 => by rw [wsum, wsum_00 n]; rfl
theorem XI_00 : XI S00 := ⟨fun c hc => (wsum_00 1000).symm, fun i j hi hj q => by
  have e : (i : Int) = (j : Int) := q
  omega⟩
theorem TOP_00 : TOP S00 := by
  refine ⟨fun j hj => absurd (show (j : Int) < 0 from hj) (by omega), fun j hj => absurd (show (j : Int) < 0 from hj) (by omega), fun j k hj => absurd (show (j : Int) < 0 from hj) (by omega), fun t h0 h1 => absurd (show t < 0 from h1) (by omega), fun j k hj => absurd (show (j : Int) < 0 from hj) (by omega)⟩
theorem WF_00 : WF S00 := by
  refine ⟨fun c hc => ?_, fun c d => Or.inl rfl, fun c hc => ?_, fun c hc => ?_, fun t ht => ?_, fun t c => ?_, ?_, ?_, ?_, fun i hi => ?_, fun i => Or.inl rfl, fun i hi => ?_, fun x hx => ?_⟩
  · exact ⟨show (1 : Int) ≤ 31 by decide, show (31 : Int) ≤ 127 by decide⟩
  · exact ⟨show (0 : Int) ≤ 0 by decide, show (0 : Int) ≤ 12 by decide⟩
  · exact ⟨⟨show (0 : Int) ≤ 9 by decide, show (9 : Int) ≤ 9 by decide⟩, show (0 : Int) ≤ 0 by decide, show (0 : Int) ≤ 99 by decide⟩
  · exact ⟨⟨show (0 : Int) ≤ 0 by decide, show (0 : Int) ≤ 20 by decide⟩, ⟨show (0 : Int) ≤ 0 by decide, show (0 : Int) < 4 by decide⟩, ⟨show (0 : Int) ≤ 0 by decide, show (0 : Int) ≤ 9 by decide⟩, ⟨show (0 : Int) ≤ 0 by decide, show (0 : Int) ≤ 999 by decide⟩, Or.inl rfl, ⟨show (0 : Int) ≤ 0 by decide, show (0 : Int) ≤ 999 by decide⟩, show (0 : Int) ≤ 0 by decide, show (0 : Int) ≤ 999 by decide⟩
  · exact ⟨show (0 : Int) ≤ 0 by decide, show (0 : Int) ≤ 9 by decide⟩
  · exact ⟨show (0 : Int) ≤ 0 by decide, show (0 : Int) ≤ 24 by decide⟩
  · exact ⟨show (0 : Int) ≤ 0 by decide, show (0 : Int) ≤ 40 by decide⟩
  · exact ⟨show (0 : Int) ≤ 0 by decide, show (0 : Int) ≤ 3 by decide⟩
  · exact ⟨show (0 : Int) ≤ 0 by decide, show (0 : Int) < 24 by decide⟩
  · exact ⟨show (0 : Int) ≤ (i : Int) by omega, show (i : Int) < 40 by omega⟩
  · exact ⟨⟨show (0 : Int) ≤ 0 by decide, show (0 : Int) < 24 by decide⟩, ⟨show (0 : Int) ≤ 0 by decide, show (0 : Int) < 24 by decide⟩, ⟨show (0 : Int) ≤ 0 by decide, show (0 : Int) ≤ 2 by decide⟩, show (0 : Int) ≤ 0 by decide, show (0 : Int) ≤ 20 by decide⟩
theorem PB_00 : PB (fun _ => 0) (fun _ => 0) := fun x hx => ⟨⟨show (-1 : Int) ≤ 0 by decide, show (0 : Int) ≤ 20000 by decide⟩, show (-1 : Int) ≤ 0 by decide, show (0 : Int) ≤ 20000 by decide⟩
theorem RB_00 : RB (fun _ => 0) := fun i => ⟨show (-1000000 : Int) ≤ 0 by decide, show (0 : Int) ≤ 1000000 by decide⟩
theorem SPI_00 {h : AH} (a : h (cB G) = some (cSP G 1)) (H : HP G S00 h) (n1 : NW G h (cB G + 108) (fun _ => 0) (fun _ => 0) (fun _ => 0) (fun _ => 0) (fun _ => 0) 0) (l1 : LV G h (cB G + 116) (fun _ => 0) (fun _ => 0) (fun _ _ => 0) 0 (fun _ => 0) (fun _ => 0) 0 0) (d1 : LD G h (cB G + 128) (fun _ _ => 0) 0) (n2 : NW G h (cB G + 134) (fun _ => 0) (fun _ => 0) (fun _ => 0) (fun _ => 0) (fun _ => 0) 0) (l2 : LV G h (cB G + 142) (fun _ => 0) (fun _ => 0) (fun _ _ => 0) 0 (fun _ => 0) (fun _ => 0) 0 0) (kp : KP G h (cB G + 154) (fun _ => 0) (fun _ => 0) (fun _ => 0) (fun _ => 0) (fun _ => 31) (fun _ => 0) (fun _ _ => 0)) :
    SPI G h S00 1 (h, fun _ => 0, fun _ => 0, fun _ => 0, fun _ => 0, fun _ => 31, fun _ => 0, fun _ _ => 0) := by
  have z5 : (0 : Int) ≤ 0 ∧ (0 : Int) ≤ 5000 := ⟨by decide, by decide⟩
  refine ⟨a, H, WF_00, TOP_00, ⟨_, _, _, _, _, _, n2, PB_00, PB_00, RB_00⟩, ⟨_, _, _, _, _, _, _, _, l2, z5, fun _ _ _ _ => rfl⟩, ⟨kp, ?_⟩, Or.inl ⟨rfl, ⟨_, _, _, _, _, _, n1, PB_00, PB_00, RB_00⟩, ⟨_, _, _, _, _, _, _, _, l1, z5, fun _ _ _ _ => rfl⟩, ⟨_, _, d1, z5, fun _ _ _ _ => rfl⟩⟩, fun _ _ => rfl⟩
  exact ⟨fun x => Or.inl rfl, fun x hx => ⟨⟨show (-1 : Int) ≤ 0 by decide, show (0 : Int) ≤ 5500 by decide⟩, ⟨show (-1 : Int) ≤ 0 by decide, show (0 : Int) ≤ 5500 by decide⟩, ⟨show (0 : Int) ≤ 0 by decide, show (0 : Int) ≤ 71280 by decide⟩, fun _ => show (0 : Int) ≤ 0 by decide⟩⟩
theorem law_run (hX : va_X b Ls xs s s.heap) (hbl : b < s.heap.size) (hbA : b < cB G) (hLs : Ls ≤ 2560) (hB : cB G = N) (kend : ∀ (h9 : AH) (N9 : Nat) (i9 : Int), WS G s args Z mL_law 0 0 h9 N9 2671 (LLw G b i9) []) : WS G s args Z mL_law 30000 700000 (fun _ => none) N 0 [some (.ref b), none, none, none, none, none, none, none, none] [] := by
  subst hB
  refine ws_new (fs := [.null, .null, .null, .null, .null, .null, .null, JV 0]) (k2 := 29999) (n2 := 699992) ckX10 clL_8 isX10 inX10 dL_law_0 dfX10 (by omega) (by omega) ?_
  obtain ⟨h1, e1⟩ : ∃ hh9 : AH, hh9 = hup (fun _ => none) (cB G) (eO 10 [.null, .null, .null, .null, .null, .null, .null, JV 0]) := ⟨_, rfl⟩
  refine WS.heq e1 ?_
  have c1 : h1 (cB G) = some (eO 10 [.null, .null, .null, .null, .null, .null, .null, JV 0]) := by rw [e1]; exact hup_self _ _ _
  refine ws_dup dL_law_3 rfl ?_
  refine ws_callI (k2 := 29800) (n2 := 600000) (n_SlipwayPlan c1) ciL_129 dL_law_4 ⟨Nat.le_of_ble_eq_true rfl, Nat.le_of_ble_eq_true rfl⟩ (Nat.le_of_ble_eq_true rfl) rfl rfl (by omega) (by omega) (fun r h2 N2 hq => ?_)
  obtain ⟨rfl, rfl, a, H, n1, l1, d1, n2, l2, kp⟩ := hq
  change WS G s args Z mL_law _ _ h2 (cB G + 169) 7 [some (.ref b), none, none, none, none, none, none, none, none] [.ref (cB G)]
  refine ws_astore_n dL_law_7 (Nat.le_of_ble_eq_true rfl) rfl ?_
  change WS G s args Z mL_law _ _ h2 (cB G + 169) 8 [some (.ref b), some (.ref (cB G)), none, none, none, none, none, none, none] []
  refine ws_new (fs := [JV 0, .null, .null, .null, .null, .null, JV 0, .null, .null, .null, .null, .null, .null, .null, JV 0, .null, JV 0, JV 0, .null, .null, .null, .null, .null, .null, JV 0, JV 0, JV 0, .null, JV 0, .null, .null, .null, .null, .null, .long 0]) (k2 := 29700) (n2 := 599900) ckX11 clL_130 isX11 inX11 dL_law_8 dfX11 (by omega) (by omega) ?_
  obtain ⟨h3, e3⟩ : ∃ hh9 : AH, hh9 = hup h2 (cB G + 169) (eO 11 [JV 0, .null, .null, .null, .null, .null, JV 0, .null, .null, .null, .null, .null, .null, .null, JV 0, .null, JV 0, JV 0, .null, .null, .null, .null, .null, .null, JV 0, JV 0, JV 0, .null, JV 0, .null, .null, .null, .null, .null, .long 0]) := ⟨_, rfl⟩
  refine WS.heq e3 ?_
  have c3 : h3 (cB G + 169) = some (eO 11 [JV 0, .null, .null, .null, .null, .null, JV 0, .null, .null, .null, .null, .null, .null, .null, JV 0, .null, JV 0, JV 0, .null, .null, .null, .null, .null, .null, JV 0, JV 0, JV 0, .null, JV 0, .null, .null, .null, .null, .null, .long 0]) := by rw [e3]; exact hup_self _ _ _
  refine ws_dup dL_law_11 rfl ?_
  refine ws_callI (k2 := 29500) (n2 := 530000) (m_init c3) ciL_132 dL_law_12 ⟨Nat.le_of_ble_eq_true rfl, Nat.le_of_ble_eq_true rfl⟩ (Nat.le_of_ble_eq_true rfl) rfl rfl (by omega) (by omega) (fun r h4 N4 hq => ?_)
  obtain ⟨rfl, rfl, mi, f4⟩ := hq
  change WS G s args Z mL_law _ _ h4 (cB G + 281) 15 [some (.ref b), some (.ref (cB G)), none, none, none, none, none, none, none] [.ref (cB G + 169)]
  refine ws_astore_n dL_law_15 (Nat.le_of_ble_eq_true rfl) rfl ?_
  change WS G s args Z mL_law _ _ h4 (cB G + 281) 16 [some (.ref b), some (.ref (cB G)), some (.ref (cB G + 169)), none, none, none, none, none, none] []
  refine ws_iconst dL_law_16 ?_
  refine ws_newL (m := 1) (k2 := 29400) (n2 := 529000) dL_law_17 ar_long rfl (by decide) (by omega) (by omega) ?_
  obtain ⟨h5, e5⟩ : ∃ hh9 : AH, hh9 = hup h4 (cB G + 281) (eL G 1 (fun _ => 0)) := ⟨_, rfl⟩
  refine WS.heq e5 ?_
  change WS G s args Z mL_law _ _ h5 (cB G + 282) 19 [some (.ref b), some (.ref (cB G)), some (.ref (cB G + 169)), none, none, none, none, none, none] [.ref (cB G + 281)]
  refine ws_astore_n dL_law_19 (Nat.le_of_ble_eq_true rfl) rfl ?_
  change WS G s args Z mL_law _ _ h5 (cB G + 282) 20 [some (.ref b), some (.ref (cB G)), some (.ref (cB G + 169)), some (.ref (cB G + 281)), none, none, none, none, none] []
  refine ws_iconst dL_law_20 ?_
  refine ws_newD (m := 1) (k2 := 29300) (n2 := 528000) dL_law_21 ar_double rfl (by decide) (by omega) (by omega) ?_
  obtain ⟨h6, e6⟩ : ∃ hh9 : AH, hh9 = hup h5 (cB G + 282) (eD G 1 (fun _ => 0)) := ⟨_, rfl⟩
  refine WS.heq e6 ?_
  change WS G s args Z mL_law _ _ h6 (cB G + 283) 23 [some (.ref b), some (.ref (cB G)), some (.ref (cB G + 169)), some (.ref (cB G + 281)), none, none, none, none, none] [.ref (cB G + 282)]
  refine ws_astore dL_law_23 (Nat.le_of_ble_eq_true rfl) rfl ?_
  change WS G s args Z mL_law _ _ h6 (cB G + 283) 25 [some (.ref b), some (.ref (cB G)), some (.ref (cB G + 169)), some (.ref (cB G + 281)), some (.ref (cB G + 282)), none, none, none, none] []
  refine ws_iconst dL_law_25 ?_
  refine ws_istore dL_law_26 (Nat.le_of_ble_eq_true rfl) rfl ?_
  change WS G s args Z mL_law _ _ h6 (cB G + 283) 28 (LLw G b 0) []
  have sp2 := SPI_00 a H n1 l1 d1 n2 l2 kp
  have q5 : ∀ q, q < cB G + 281 → h6 q = h4 q := fun q hq => (hup_at e6 (by omega)).trans (hup_at e5 (by omega))
  have sp := sp2.reghost (h' := h6) (fun q hq => (q5 q (by omega)).trans ((f4 q hq).trans (hup_at e3 (by omega))))
  have P : MP G (cB G + 283) M00 (fun i => cB G + 213 + i) 0 h6 := mi.mp (Nat.le_refl _) (fun q _ hq => q5 q hq)
  have I : INVt G h6 (cB G + 283) 0 := ⟨S00, 1, _, M00, _, 0, ⟨sp, XI_00, P, RS_00, Or.inl rfl, KM_00 (fun _ => rfl), rfl⟩, ⟨_, (hup_at e6 (by omega)).trans (by rw [e5]; exact hup_self _ _ _)⟩, ⟨_, by rw [e6]; exact hup_self _ _ _⟩⟩
  refine WS.le (k' := 43 * 512) (n' := 1014 * 512) (by omega) (by omega) ?_
  exact law_loop hX hbl hbA hLs kend 512 0 h6 _ 0 ⟨by omega, by omega⟩ (by omega) I
theorem law_end (hB : s.heap.size ≤ cB G) {L : List (Option Value)} {k n : Nat} : WS G s #[Value.ref b] (fun below => lw_Z below #[Value.ref b] s) mL_law k n h N 2671 L [] := by
  refine ws_iconst dL_law_2671 ?_
  intro p e R m below meth c H locs cells slots mc ms ls hE F a1 a2 a3 a4 a5 a6 hR hS hL
  obtain ⟨rfl, rfl, rfl⟩ := hE
  refine va_forget (fun q hq => Nat.le_trans hB (hS.2.2 q hq)) ?_
  refine W.widen (k := 601024) (n := 7293034) (by omega) (by omega) ?_
  refine W.base ?_
  exact lw_ret (d0 := s.drawn) (Drawn.sameBut.refl s.drawn lw_cs) F.1 F.2.1 F.2.2.2.1 F.2.2.2.2.2.2.1 dL_law_2672
end Lw2

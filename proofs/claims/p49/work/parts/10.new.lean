/-! ===== new cells, ends, contracts, calls ===== -/
section Rules4
variable {G : Ctx} {μ : MI} {Q : PQ} {X : PX} {k n : Nat} {h : AH} {N : Nat} {pc : Nat} {L : List (Option Value)} {st : List Value}
/-- a step that makes k1 cells of n1 slots, the heap then being h' of N' cells -/
theorem WP.goN {pc' N' k1 n1 k2 n2 : Nat} {st' : List Value} {h' : AH} (hk : k1 + k2 ≤ k) (hn : n1 + n2 ≤ n) (kk : WP G μ Q X k2 n2 h' N' pc' L st')
    (hs : ∀ {p : Program} {e1 : Env} {R : Room} {s : State} {m : MethodId} {args : Array Value} {below : List Frame} {meth : Method} {c : Code} {H : Heap} {locs : List Loc} {cells slots : Nat} {ls : Array Slot} {Z : State → Prop},
      FX G μ p s m args meth c → cells + k1 ≤ R.cells → slots + n1 ≤ R.slots → Rep G h N H → va_S (cF G) s.heap H locs → (∀ (H1 : Heap), Rep G h' N' H1 → va_S (cF G) s.heap H1 locs → W p (cL G) e1 R s m args below meth c H1 locs (cells + k1) (slots + n1) Z (F0 m pc' ls st')) → W p (cL G) e1 R s m args below meth c H locs cells slots Z (F0 m pc ls st)) : WP G μ Q X k n h N pc L st := by
  intro p e R s m args below meth c H locs cells slots mc ms ls F a1 a2 a3 a4 a5 a6 hR hS hL
  exact hs F (by omega) (by omega) hR hS fun H1 hR1 hS1 => kk p e R s m args below meth c H1 locs _ _ mc ms ls F a1 a2 (by omega) (by omega) a5 a6 hR1 hS1 hL
theorem wp_new {ci idx sz k2 n2 : Nat} {C : String} {T : u_T} {ty0 : Nat → FieldType} {fs : List Value} (ck : CK ci (C, T, sz) ty0) (hl : Cond.classLink (mY μ).cls idx C ∈ AW) (hi : Cond.instantiable C sz ∈ AW) (hini : Cond.initialized C ∈ AW) (d : decode (mC μ) pc = .ok (.new idx, 3)) (hfs : ∀ j, j < sz → defaultValue (ty0 j) = vp_V fs j) (hk : 1 + k2 ≤ k) (hn : sz + n2 ≤ n)
    (kk : WP G μ Q X k2 n2 (hup h N (eO ci fs)) (N + 1) (pc + 3) L (.ref N :: st)) : WP G μ Q X k n h N pc L st := by
  refine kk.goN hk hn fun F c1 c2 hR hS w => ?_
  have hK := F.2.2.2.2.2.2.2.2.2
  have hts := F.2.2.2.2.2.1
  have hKn := hK.2.1.1 ci _ ck.1
  have hB := hB_of hK hS hR
  refine W.newcK F.1 F.2.1 F.2.2.2.2.1 (hts _ hl) (hts _ hi) (hts _ hini) rfl d c1 c2 hKn.2.1 hR.1 fun H1 kC hkC e1 z1 o1 => ?_
  refine w H1 (hR.new hB z1 ⟨_, ck.1, (u_born ty0 hts ck.2.1 hKn hkC e1 ck.2.2.1).to hfs⟩ o1) (hS.new (by rw [hR.1, z1]; omega) (by rw [hR.1]; exact o1))
theorem wp_newI {i : Int} {m k2 n2 : Nat} (d : decode (mC μ) pc = .ok (.newarray .int, 2)) (hw : Cond.arrayClass .int ∈ AW) (h0 : i = (m : Int)) (hm : m ≤ 100000) (hk : 1 + k2 ≤ k) (hn : m + n2 ≤ n)
    (kk : WP G μ Q X k2 n2 (hup h N (eI G m (fun _ => 0))) (N + 1) (pc + 2) L (.ref N :: st)) : WP G μ Q X k n h N pc L (JV i :: st) := by
  subst h0
  refine kk.goN hk hn fun F c1 c2 hR hS w => ?_
  have hK := F.2.2.2.2.2.2.2.2.2
  have hB := hB_of hK hS hR
  refine va_newaK (atype := .int) F.1 F.2.1 (F.2.2.2.2.2.1 _ hw) rfl d rfl (fun q => (J_in (x := (m : Int)) (n := m + 1) (by omega) (by omega) (by omega)) (Or.inl q)) ((J_clamp (by omega) (by omega)).trans (Int.toNat_natCast m)) (by show m * 4 ≤ _; omega) c1 c2 hR.1 fun H1 cA1 e1 z1 o1 hAr hNm => ?_
  have hc : cA1 = cA G 0 := Option.some.inj (hNm.symm.trans (hK.2.1.2 0 _ rfl).2)
  subst hc
  refine w H1 (hR.new hB z1 ?_ o1) (hS.new (by rw [hR.1, z1]; omega) (by rw [hR.1]; exact o1))
  exact e1
theorem wp_newZ {i : Int} {m k2 n2 : Nat} (d : decode (mC μ) pc = .ok (.newarray .boolean, 2)) (hw : Cond.arrayClass .boolean ∈ AW) (h0 : i = (m : Int)) (hm : m ≤ 100000) (hk : 1 + k2 ≤ k) (hn : m + n2 ≤ n)
    (kk : WP G μ Q X k2 n2 (hup h N (eZ G m (fun _ => 0))) (N + 1) (pc + 2) L (.ref N :: st)) : WP G μ Q X k n h N pc L (JV i :: st) := by
  subst h0
  refine kk.goN hk hn fun F c1 c2 hR hS w => ?_
  have hK := F.2.2.2.2.2.2.2.2.2
  have hB := hB_of hK hS hR
  refine va_newaK (atype := .boolean) F.1 F.2.1 (F.2.2.2.2.2.1 _ hw) rfl d rfl (fun q => (J_in (x := (m : Int)) (n := m + 1) (by omega) (by omega) (by omega)) (Or.inl q)) ((J_clamp (by omega) (by omega)).trans (Int.toNat_natCast m)) (by show m * 1 ≤ _; omega) c1 c2 hR.1 fun H1 cA1 e1 z1 o1 hAr hNm => ?_
  have hc : cA1 = cA G 1 := Option.some.inj (hNm.symm.trans (hK.2.1.2 1 _ rfl).2)
  subst hc
  refine w H1 (hR.new hB z1 ?_ o1) (hS.new (by rw [hR.1, z1]; omega) (by rw [hR.1]; exact o1))
  exact e1
theorem wp_newQ {C : String} {t idx : Nat} {i : Int} {m k2 n2 : Nat} (d : decode (mC μ) pc = .ok (.anewarray idx, 3)) (hl : Cond.classLink (mY μ).cls idx C ∈ AW) (hC : C ∈ [RX0, RX1, RX9, RX4]) (ht : swTY[t]? = some (.object C)) (h0 : i = (m : Int)) (hm : m ≤ 100000) (hk : 1 + k2 ≤ k) (hn : m + n2 ≤ n)
    (kk : WP G μ Q X k2 n2 (hup h N (eQ G t m (fun _ => none))) (N + 1) (pc + 3) L (.ref N :: st)) : WP G μ Q X k n h N pc L (JV i :: st) := by
  subst h0
  refine kk.goN hk hn (fun {p e1 R s m9 args below meth c H locs cells slots ls Z} F c1 c2 hR hS w => ?_)
  have hK := F.2.2.2.2.2.2.2.2.2
  have hB := hB_of hK hS hR
  have ht2 := swTys_at (a := cA G) ht
  have hcl : (Int32.ofInt (m : Int)).toNatClampNeg = m := (J_clamp (by omega) (by omega)).trans (Int.toNat_natCast m)
  refine W.anew F.1 F.2.1 F.2.2.2.2.1 (F.2.2.2.2.2.1 _ hl) (va_AO.use (hK.2.2.2.2.2.2.1 C hC)) rfl d rfl (fun q => (J_in (x := (m : Int)) (n := m + 1) (by omega) (by omega) (by omega)) (Or.inl q)) (by rw [hcl]; omega) c1 (by rw [hcl]; exact c2) fun cA1 kA comp f1 f2 f3 f4 => ?_
  obtain ⟨kA9, comp9, k1, k2, k3, k4⟩ := (hK.2.1.2 t _ ht2).2
  have hc : cA1 = cA G t := by first | exact Option.some.inj (f1.symm.trans k4) | exact Option.some.inj (f4.symm.trans k4)
  subst hc
  rw [hcl, hR.1]
  refine w _ (hR.new hB (by rw [Array.size_push, hR.1]) ?_ fun q hq => by rw [Array.getElem?_push, if_neg (by rw [hR.1]; omega)]) (hS.new (by rw [Array.size_push]; omega) fun q hq => by rw [Array.getElem?_push, if_neg (by omega)])
  show (H.push _)[N]? = some (vp_cell _ _)
  rw [vp_cell_q, ← hR.1, Array.getElem?_push_size, arrV_new]
  rfl
/-! ends -/
theorem WP.goR {v : Option Value} (q : Q v h N)
    (hs : ∀ {p : Program} {e : Env} {R : Room} {s : State} {m : MethodId} {args : Array Value} {below : List Frame} {meth : Method} {c : Code} {H : Heap} {locs : List Loc} {cells slots : Nat} {ls : Array Slot},
      FX G μ p s m args meth c → (∀ t : State, t.heap = H → s.WarmedH t.vm → SQ G Q args s (.returned v) t) → (∀ q ∈ locs, cF G q.base) → W p (cL G) e R s m args below meth c H locs cells slots (MQ below (SQ G Q) args s cells slots (cF G)) (F0 m pc ls st)) : WP G μ Q X k n h N pc L st := by
  intro p e R s m args below meth c H locs cells slots mc ms ls F a1 a2 a3 a4 a5 a6 hR hS hL
  refine W.widen (k := mc) (n := ms) (by omega) (by omega) (vx_ret (hs F (fun t ht hW => ?_) hS.2.2))
  refine ⟨⟨v, h, rfl, ?_, ?_⟩, hS.F ht⟩
  · rw [ht, hR.1]; exact q
  · rw [ht, hR.1]; exact hR
theorem wp_iret {v : Int32} (d : decode (mC μ) pc = .ok (.ireturn, 1)) (hr : mR μ = some .int) (q : Q (some (.int v)) h N) : WP G μ Q X k n h N pc L [.int v] :=
  WP.goR q fun F w hl => W.iret F.1 F.2.1 (F.2.2.2.1.trans hr) w hl d F.2.2.2.2.2.2.1
theorem wp_zret {v : Int} (d : decode (mC μ) pc = .ok (.ireturn, 1)) (hr : mR μ = some .boolean) (hv : v = 0 ∨ v = 1) (q : Q (some (JV v)) h N) : WP G μ Q X k n h N pc L [JV v] :=
  WP.goR q fun F w hl => W.zret F.1 F.2.1 (F.2.2.2.1.trans hr) (by rcases hv with rfl | rfl <;> rfl) w hl d F.2.2.2.2.2.2.1
theorem wp_vret (d : decode (mC μ) pc = .ok (.return_, 1)) (hr : mR μ = none) (q : Q none h N) : WP G μ Q X k n h N pc L [] :=
  WP.goR q fun F w hl => W.vret F.1 F.2.1 (F.2.2.2.1.trans hr) w hl d F.2.2.2.2.2.2.1
theorem wp_lret {v : Int64} (d : decode (mC μ) pc = .ok (.lreturn, 1)) (hr : mR μ = some .long) (q : Q (some (.long v)) h N) : WP G μ Q X k n h N pc L [.long v] :=
  WP.goR q fun F w hl => W.lret F.1 F.2.1 (F.2.2.2.1.trans hr) w hl d F.2.2.2.2.2.2.1
theorem wp_dret {v : UInt64} (d : decode (mC μ) pc = .ok (.dreturn, 1)) (hr : mR μ = some .double) (q : Q (some (.double v)) h N) : WP G μ Q X k n h N pc L [.double v] :=
  WP.goR q fun F w hl => W.dret F.1 F.2.1 (F.2.2.2.1.trans hr) w hl d F.2.2.2.2.2.2.1
theorem wp_aret {a : Nat} {C : String} (d : decode (mC μ) pc = .ok (.areturn, 1)) (hr : mR μ = some (.object C)) (q : Q (some (.ref a)) h N) : WP G μ Q X k n h N pc L [.ref a] :=
  WP.goR q fun F w hl => W.aret F.1 F.2.1 (F.2.2.2.1.trans hr) (Or.inl ⟨C, rfl⟩) (Or.inr ⟨a, rfl⟩) w hl d F.2.2.2.2.2.2.1
/-! max, min -/
theorem wp_max {x y : Int} {idx : Nat} (d : decode (mC μ) pc = .ok (.invokestatic idx, 3)) (hl : Cond.methodLink (mY μ).cls idx Lib.Math.max.name ∈ AW) (hw : (Cond.static Lib.Math.max.name ∈ AW ∧ Cond.initialized "java/lang/Math" ∈ AW) ∧ Cond.code Lib.Math.max.name Lib.Math.max.code 2 (some .int) ∈ AW) (hf : 1 ≤ mF μ) (ho : (st.map fun v => v.category).sum + 13 ≤ mO μ) (hx : InR x) (hy : InR y) (kk : WP G μ Q X k n h N (pc + 3) L (JV (max x y) :: st)) : WP G μ Q X k n h N pc L (JV y :: JV x :: st) :=
  kk.go fun F _ _ hL a1 a2 a3 a4 w => va_mmax F.1 F.2.1 (F.2.2.1.trans hL.1.symm) F.2.2.2.2.1 (F.2.2.2.2.2.1 _ hl) (F.2.2.2.2.2.1 _ hw.1.1) (F.2.2.2.2.2.1 _ hw.1.2) (F.2.2.2.2.2.1 _ hw.2) (by omega) (by omega) a3 a4 d (by
    have e : (if Int32.ofInt x < Int32.ofInt y then Int32.ofInt y else Int32.ofInt x) = Int32.ofInt (max x y) := by
      by_cases hc : x < y
      · rw [if_pos ((J_lt hx hy).mpr hc)]; congr 1; omega
      · rw [if_neg (fun z => hc ((J_lt hx hy).mp z))]; congr 1; omega
    rw [e]; exact w)
theorem wp_min {x y : Int} {idx : Nat} (d : decode (mC μ) pc = .ok (.invokestatic idx, 3)) (hl : Cond.methodLink (mY μ).cls idx Lib.Math.min.name ∈ AW) (hw : (Cond.static Lib.Math.min.name ∈ AW ∧ Cond.initialized "java/lang/Math" ∈ AW) ∧ Cond.code Lib.Math.min.name Lib.Math.min.code 2 (some .int) ∈ AW) (hf : 1 ≤ mF μ) (ho : (st.map fun v => v.category).sum + 13 ≤ mO μ) (hx : InR x) (hy : InR y) (kk : WP G μ Q X k n h N (pc + 3) L (JV (min x y) :: st)) : WP G μ Q X k n h N pc L (JV y :: JV x :: st) :=
  kk.go fun F _ _ hL a1 a2 a3 a4 w => va_mmin F.1 F.2.1 (F.2.2.1.trans hL.1.symm) F.2.2.2.2.1 (F.2.2.2.2.2.1 _ hl) (F.2.2.2.2.2.1 _ hw.1.1) (F.2.2.2.2.2.1 _ hw.1.2) (F.2.2.2.2.2.1 _ hw.2) (by omega) (by omega) a3 a4 d (by
    have e : (if Int32.ofInt x < Int32.ofInt y then Int32.ofInt x else Int32.ofInt y) = Int32.ofInt (min x y) := by
      by_cases hc : x < y
      · rw [if_pos ((J_lt hx hy).mpr hc)]; congr 1; omega
      · rw [if_neg (fun z => hc ((J_lt hx hy).mp z))]; congr 1; omega
    have e2 : (if Int32.ofInt y < Int32.ofInt x then Int32.ofInt y else Int32.ofInt x) = Int32.ofInt (min x y) := by
      by_cases hc : y < x
      · rw [if_pos ((J_lt hy hx).mpr hc)]; congr 1; omega
      · rw [if_neg (fun z => hc ((J_lt hy hx).mp z))]; congr 1; omega
    first | (rw [e]; exact w) | (rw [e2]; exact w))
end Rules4


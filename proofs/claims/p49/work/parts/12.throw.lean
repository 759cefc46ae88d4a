/-! ===== throws and handlers ===== -/
/-- with the exception E on its way, from pc -/
def VX (G : Ctx) (μ : MI) (Q : PQ) (X : PX) (k n : Nat) (h : AH) (N : Nat) (pc : Nat) (L : List (Option Value)) (E : String) : Prop :=
  ∀ (p : Program) (e : Env) (R : Room) (s : State) (m : MethodId) (args : Array Value) (below : List Frame) (meth : Method) (c : Code) (H : Heap) (locs : List Loc) (cells slots mc ms : Nat) (ls : Array Slot) (q : Addr) (ce : Cell) (rest : List Value),
    FX G μ p s m args meth c → mF μ ≤ R.frames → mO μ ≤ R.locals → cells + k ≤ mc → slots + n ≤ ms → mc ≤ R.cells → ms ≤ R.slots → Rep G h N H → va_S (cF G) s.heap H locs → LR (mL μ) L ls → H[q]? = some ce → ce.vm = .none → s.vm.findClass E = some ce.cls →
    vx_W p (cL G) e R s m args below meth c H locs cells slots (vx_MQ below (SQ G Q) (SX G X) args s mc ms (cF G)) (F0 m pc ls rest) q
/-- words of 'throw new E(text)' -/
def TW (own cls text : String) (ik is ic : Nat) (names : List String) : Prop :=
  own = RX10 ∧ Cond.classLink own ik cls ∈ AW ∧ Cond.initialized cls ∈ AW ∧ (is, text) ∈ swST ∧ (∀ w ∈ vx_atS own ic cls names, (goodWord w = true ∧ w ∈ lw_tbl) ∨ w ∈ swDE.map Cond.declares ∨ w ∈ swCA.map (fun q => Cond.castable q.1 q.2)) ∧ Bundle.fit cls = true ∧ (∀ n ∈ names, Bundle.fit n = true) ∧ (∀ w ∈ Cond.classLink own ik cls :: Cond.initialized cls :: vx_atS own ic cls names, vx_ot w = true)
section Rules6
variable {G : Ctx} {μ μ' : MI} {Q Q1 : PQ} {X X1 : PX} {k n k1 n1 k2 n2 : Nat} {h : AH} {N : Nat} {pc : Nat} {L : List (Option Value)} {st st0 : List Value}
theorem VX_out {E : String} (hH : mH μ = []) (hx : X E h N) : VX G μ Q X k n h N pc L E := by
  intro p e R s m args below meth c H locs cells slots mc ms ls q ce rest F a1 a2 a3 a4 a5 a6 hR hS hL hq hv hc
  have ht : c.exceptionTable.toList = tableOf (mH μ) := F.2.2.2.2.2.2.2.2.1
  refine vx_out (fun x hx => by rw [ht, hH] at hx; cases hx) F.2.2.2.2.2.2.1 hq hv hc (fun t hT hA => ⟨⟨h, by rw [hT, hR.1]; exact hx, by rw [hT, hR.1]; exact hR⟩, hS.F hT⟩) hS.2.2 (by omega) (by omega)
theorem VX_catch {E nm : String} (pre : List ExceptionTableEntry) (x : ExceptionTableEntry) (suf : List ExceptionTableEntry) (hH : tableOf (mH μ) = pre ++ x :: suf) (hpass : ∀ z ∈ pre, z.catchType ≠ 0 ∧ ∃ nm : String, Cond.classLink (mY μ).cls z.catchType nm ∈ AW ∧ (E, nm) ∈ swNC) (hx : covers x pc = true) (h0 : x.catchType ≠ 0) (hl : Cond.classLink (mY μ).cls x.catchType nm ∈ AW) (hcast : (E, nm) ∈ swCA)
    (kk : ∀ q : Nat, WP G μ Q X k n h N x.handlerPc L [.ref q]) : VX G μ Q X k n h N pc L E := by
  intro p e R s m args below meth c H locs cells slots mc ms ls q ce rest F a1 a2 a3 a4 a5 a6 hR hS hL hq hv hc
  have hK := F.2.2.2.2.2.2.2.2.2
  have hts := F.2.2.2.2.2.1
  have ht : c.exceptionTable.toList = tableOf (mH μ) := F.2.2.2.2.2.2.2.2.1
  refine vx_catch F.2.2.2.2.1 pre x suf (ht.trans hH) (fun z hz => ?_) hx h0 (hts _ hl) (va_Nw.use rfl (hK.2.2.2.1 _ hcast)) hq hv hc (kk q p e R s m args below meth c H locs cells slots mc ms ls F a1 a2 a3 a4 a5 a6 hR hS hL)
  obtain ⟨hz0, nm2, c1, c2⟩ := hpass z hz
  exact Or.inr ⟨hz0, nm2, hts _ c1, hK.2.2.2.2.2.1 _ c2⟩
theorem wp_throw {cls text : String} {ik is ic : Nat} {names : List String} (tw : TW (mY μ).cls cls text ik is ic names)
    (d0 : decode (mC μ) pc = .ok (.new ik, 3)) (d3 : decode (mC μ) (pc + 3) = .ok (.dup, 1)) (d4 : decode (mC μ) (pc + 4) = .ok (.ldc_w is, 3)) (d7 : decode (mC μ) (pc + 7) = .ok (.invokespecial ic, 3)) (d10 : decode (mC μ) (pc + 10) = .ok (.athrow, 1)) (hH : mH μ = [])
    (hf : names.length + 4 ≤ mF μ) (ho : (st.map fun v => v.category).sum + (13 * (names.length + 1) + 43) ≤ mO μ) (hk : 1 ≤ k) (hn : 6 ≤ n) (hx : ∀ N', N ≤ N' → X cls h N') : WP G μ Q X k n h N pc L st := by
  intro p e R s m args below meth c H locs cells slots mc ms ls F a1 a2 a3 a4 a5 a6 hR hS hL
  obtain ⟨t0, t1, t2, t3, t4, t5, t6, t7⟩ := tw
  have hK := F.2.2.2.2.2.2.2.2.2
  have hts := F.2.2.2.2.2.1
  have ht : c.exceptionTable.toList = tableOf (mH μ) := F.2.2.2.2.2.2.2.2.1
  have hstr := hK.2.2.2.2.2.2.2.1 _ t3
  rw [← t0] at hstr
  refine vx_throwSW F.1 F.2.1 hK.1 F.2.2.2.2.1 t5 t6 (hts _ t1) (hts _ t2) hstr (fun w hw => ?_) t7 hK.2.2.2.2.2.2.2.2.2.1 hK.2.2.2.2.2.2.2.2.2.2.1 hS (by rw [F.2.2.1]; exact hL.1) d0 d3 d4 d7 d10 (fun x hx => by rw [ht, hH] at hx; cases hx) (by omega) (by omega) (by omega) (by omega) F.2.2.2.2.2.2.1 (fun t hA hz hk9 => ?_) hS.2.2 (by omega) (by omega)
  · rcases t4 w hw with ⟨g1, g2⟩ | g | g
    · exact hts _ (List.mem_filter.mpr ⟨g2, g1⟩)
    · obtain ⟨x, hx1, rfl⟩ := List.mem_map.mp g
      exact va_Nw.use rfl (hK.2.2.2.2.1 _ hx1)
    · obtain ⟨x, hx1, rfl⟩ := List.mem_map.mp g
      exact va_Nw.use rfl (hK.2.2.2.1 _ hx1)
  · rw [hR.1] at hz hk9
    refine ⟨⟨h, hx _ hz, hR.grow rfl hk9⟩, Nat.le_trans hS.1 (by rw [hR.1]; exact hz), fun q h1 h2 => ?_⟩
    have hq : q < N := by
      have := hS.1
      rw [hR.1] at this
      omega
    rw [hk9 q hq]
    exact hS.2.1 q h1 h2
/-- behind a call that returns or throws -/
theorem WP.goX (hk : k1 + k2 ≤ k) (hn : n1 + n2 ≤ n) (kk : ∀ (r : Option Value) (h' : AH) (N' : Nat), Q1 r h' N' → WP G μ Q X k2 n2 h' N' (pc + 3) L (r.toList ++ st)) (kx : ∀ (E : String) (h' : AH) (N' : Nat), X1 E h' N' → VX G μ Q X k2 n2 h' N' pc L E)
    (hs : ∀ {p : Program} {e : Env} {R : Room} {s : State} {m : MethodId} {args : Array Value} {below : List Frame} {meth : Method} {c : Code} {H : Heap} {locs : List Loc} {cells slots : Nat} {ls : Array Slot},
      FX G μ p s m args meth c → mF μ ≤ R.frames → mO μ ≤ R.locals → cells + k1 ≤ R.cells → slots + n1 ≤ R.slots → Rep G h N H → va_S (cF G) s.heap H locs → LR (mL μ) L ls →
      ∃ a : Array Value, vx_Run p (cL G) e R s m args below meth c H locs cells slots k1 n1 (F0 m pc ls st0) st (SQ G Q1 a) (SX G X1) (cF G)) : WP G μ Q X k n h N pc L st0 := by
  intro p e R s m args below meth c H locs cells slots mc ms ls F a1 a2 a3 a4 a5 a6 hR hS hL
  obtain ⟨a, hrun⟩ := hs (e := e) (below := below) (cells := cells) (slots := slots) (R := R) F a1 a2 (by omega) (by omega) hR hS hL
  intro T hT Y
  have hSof : ∀ (t T' : State) (L9 : List Loc), T'.heap = t.heap → (∀ q ∈ L9, cF G q.base) → H.size ≤ t.heap.size → (∀ q : Nat, q < H.size → ¬ cF G q → t.heap[q]? = H[q]?) → va_S (cF G) s.heap T'.heap (locs ++ L9) := fun t T' L9 e1 hL9 c4 c5 =>
    ⟨Nat.le_trans hS.1 (by rw [e1]; exact c4), fun q h1 h2 => by rw [e1, c5 q (Nat.lt_of_lt_of_le h1 hS.1) h2]; exact hS.2.1 q h1 h2, fun q hq => by
      rcases List.mem_append.mp hq with z | z
      · exact hS.2.2 q z
      · exact hL9 q z⟩
  rcases hrun T hT Y with ⟨v, st₀, t, T', L9, e0, Y', hL9, e1, e2, ⟨⟨r, h', c1, c2, c3⟩, c4, c5⟩, sp⟩ | ⟨q, st₀, t, T', L9, E, ce, e0, Y', hL9, e1, e2, ⟨⟨h', c2, c3⟩, c4, c5⟩, hce, hcv, hcl, sp⟩
  · cases c1
    rw [e0] at c4 c5
    have hS1 := hSof t T' L9 e1 hL9 c4 c5
    rw [← e1] at c2 c3
    obtain ⟨t2, b1, b2⟩ := kk v h' _ c2 p e R s m args below meth c T'.heap (locs ++ L9) (cells + k1) (slots + n1) mc ms ls F a1 a2 (by omega) (by omega) a5 a6 c3 hS1 hL T' rfl Y'
    exact ⟨t2, sp t2 b1, b2⟩
  · rw [e0] at c4 c5
    have hS1 := hSof t T' L9 e1 hL9 c4 c5
    rw [← e1] at c2 c3 hce
    obtain ⟨t2, b1, b2⟩ := kx E h' _ c2 p e R s m args below meth c T'.heap (locs ++ L9) (cells + k1) (slots + n1) mc ms ls q ce st F a1 a2 (by omega) (by omega) a5 a6 c3 hS1 hL hce hcv hcl T' rfl Y'
    exact ⟨t2, sp.trans b1, b2⟩
theorem wp_callVx {idx na a ci sz : Nat} {C : String} {T : u_T} {fs As : List Value} (ct : CX G μ' (.ref a :: As) h N k1 n1 Q1 X1) (cv : CV (mY μ).cls idx μ' na) (d : decode (mC μ) pc = .ok (.invokevirtual idx, 3)) (rm : RM μ μ') (hst : (st.map fun v => v.category).sum ≤ 8) (hc : h a = some (eO ci fs)) (hcl : swCl[ci]? = some (C, T, sz)) (hC : C = (mY μ').cls) (hna : As.length = na) (h0 : st0 = As.reverse ++ .ref a :: st) (hk : k1 + k2 ≤ k) (hn : n1 + n2 ≤ n)
    (kk : ∀ (r : Option Value) (h' : AH) (N' : Nat), Q1 r h' N' → WP G μ Q X k2 n2 h' N' (pc + 3) L (r.toList ++ st)) (kx : ∀ (E : String) (h' : AH) (N' : Nat), X1 E h' N' → VX G μ Q X k2 n2 h' N' pc L E) : WP G μ Q X k n h N pc L st0 := by
  obtain ⟨c0, c1, c2, c3⟩ := cv
  subst hC
  refine WP.goX hk hn kk kx fun F a1 a2 a3 a4 hR hS hL => ⟨(Value.ref a :: As).toArray, ?_⟩
  have hK := F.2.2.2.2.2.2.2.2.2
  have hts := F.2.2.2.2.2.1
  refine vx_runV (nL := mL μ) ⟨F.1, F.2.1, F.2.2.1, F.2.2.2.2.1, hts⟩ ct (cwV (Ts := AW) na hts (aw_goodIn ?_) rfl rfl rfl ⟨rfl, c0.2.2.1, c0.2.2.2.1, c0.2.2.2.2⟩ ⟨Nat.le_trans rm.1 a1, Nat.le_trans rm.2 a2⟩) ⟨CPc.blind, va_recv hK.2.1 (hR.P hc) hcl (q0 := 0) rfl, CPc.pre hK hS hR⟩ rfl hna hL.1 h0 (lv_room hst) d ⟨a3, a4⟩
  intro w hw
  rcases List.mem_append.mp hw with hw | hw
  · simp only [List.mem_cons, List.not_mem_nil, or_false] at hw
    rcases hw with rfl | rfl | rfl | rfl <;> first | exact c1 | exact c2 | exact c3 | exact c0.2.1
  · exact mW_in c0 w hw
theorem wp_callSx {idx na : Nat} {As : List Value} (ct : CX G μ' As h N k1 n1 Q1 X1) (cs : CS (mY μ).cls idx μ' na) (d : decode (mC μ) pc = .ok (.invokestatic idx, 3)) (rm : RM μ μ') (hst : (st.map fun v => v.category).sum ≤ 8) (hna : As.length = na) (h0 : st0 = As.reverse ++ st) (hk : k1 + k2 ≤ k) (hn : n1 + n2 ≤ n)
    (kk : ∀ (r : Option Value) (h' : AH) (N' : Nat), Q1 r h' N' → WP G μ Q X k2 n2 h' N' (pc + 3) L (r.toList ++ st)) (kx : ∀ (E : String) (h' : AH) (N' : Nat), X1 E h' N' → VX G μ Q X k2 n2 h' N' pc L E) : WP G μ Q X k n h N pc L st0 := by
  obtain ⟨c0, c1, c2⟩ := cs
  refine WP.goX hk hn kk kx fun F a1 a2 a3 a4 hR hS hL => ⟨As.toArray, ?_⟩
  have hK := F.2.2.2.2.2.2.2.2.2
  have hts := F.2.2.2.2.2.1
  refine vx_runS (nL := mL μ) ⟨F.1, F.2.1, F.2.2.1, F.2.2.2.2.1, hts⟩ ct (va_cwS (Ts := AW) na hts (aw_goodIn ?_) rfl rfl rfl ⟨c0.2.2.1, c0.2.2.2.1, c0.2.2.2.2⟩ ⟨Nat.le_trans rm.1 a1, Nat.le_trans rm.2 a2⟩) ⟨CPc.blind, CPc.pre hK hS hR⟩ rfl hna hL.1 h0 (lv_room hst) d ⟨a3, a4⟩
  intro w hw
  rcases List.mem_append.mp hw with hw | hw
  · simp only [List.mem_cons, List.not_mem_nil, or_false] at hw
    rcases hw with rfl | rfl | rfl <;> first | exact c1 | exact c2 | exact c0.2.1
  · exact mW_in c0 w hw
end Rules6


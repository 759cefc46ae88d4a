/-! ===== contracts and calls ===== -/
def CPc (G : Ctx) (args : List Value) (h : AH) (N : Nat) : Array Value → State → Prop := va_Pc args (fun U => Rep G h N U.heap ∧ KN G U)
/-- the method μ, called with args over the heap h of N cells, comes to its end with Q; it makes at most k cells of n slots -/
def CT (G : Ctx) (μ : MI) (args : List Value) (h : AH) (N k n : Nat) (Q : PQ) : Prop := Met (cL G) (mY μ) (mW μ) (mRm μ k n) (CPc G args h N) (SQ G Q) k n (cF G)
/-- or throws with X -/
def CX (G : Ctx) (μ : MI) (args : List Value) (h : AH) (N k n : Nat) (Q : PQ) (X : PX) : Prop := vx_Met (cL G) (mY μ) (mW μ) (mRm μ k n) (CPc G args h N) (SQ G Q) (SX G X) k n (cF G)
/-- a method with handlers -/
def CH (G : Ctx) (μ : MI) (args : List Value) (h : AH) (N k n : Nat) (Q : PQ) : Prop := Met (cL G) (mY μ) (mWh μ) (mRm μ k n) (CPc G args h N) (SQ G Q) k n (cF G)
def L0 (args : List Value) (nL : Nat) : List (Option Value) := args.map some ++ List.replicate (nL - args.length) none
theorem cat1_sl : ∀ (vs : List Value), (∀ v ∈ vs, v.category = 1) → (lg_sl vs).length = vs.length
  | [], _ => rfl
  | v :: vs, hc => by
    have h1 := hc v List.mem_cons_self
    have h2 := cat1_sl vs fun w hw => hc w (List.mem_cons_of_mem _ hw)
    unfold lg_sl at h2 ⊢
    rw [List.flatMap_cons, List.length_append, h2, if_neg (by omega)]
    simp [Nat.add_comm]
theorem args_at : ∀ (vs : List Value) (j i : Nat) (v : Value), (∀ w ∈ vs, w.category = 1) → vs[i]? = some v → (j + i, v) ∈ lv_args j vs
  | [], j, i, v, _, hi => by simp at hi
  | w :: vs, j, i, v, hc, hi => by
    have h1 := hc w List.mem_cons_self
    cases i with
    | zero =>
      rw [List.getElem?_cons_zero] at hi
      cases hi
      exact List.mem_cons_self
    | succ i =>
      rw [List.getElem?_cons_succ] at hi
      refine List.mem_cons_of_mem _ ?_
      rw [if_neg (by omega)]
      have := args_at vs (j + 1) i v (fun x hx => hc x (List.mem_cons_of_mem _ hx)) hi
      rw [show j + (i + 1) = j + 1 + i by omega]
      exact this
theorem LR_entry {vs : List Value} {nL : Nat} (hc : ∀ v ∈ vs, v.category = 1) (hl : vs.length ≤ nL) : LR nL (L0 vs nL) ((lg_sl vs ++ List.replicate (nL - (lg_sl vs).length) Slot.unset).toArray) := by
  refine lv_mono (lv_entry vs (n := nL) (by rw [cat1_sl vs hc]; exact hl)) fun q hq => ?_
  obtain ⟨i, v⟩ := q
  have h1 := mem_LA.mp hq
  unfold L0 at h1
  by_cases hi : i < vs.length
  · rw [List.getElem?_append_left (by simpa using hi), List.getElem?_map] at h1
    have h2 : vs[i]? = some v := by
      cases h3 : vs[i]? with
      | none => rw [h3] at h1; cases h1
      | some w => rw [h3] at h1; cases h1; rfl
    have := args_at vs 0 i v hc h2
    rw [Nat.zero_add] at this
    exact this
  · rw [List.getElem?_append_right (by simpa using hi)] at h1
    have h2 := List.mem_of_getElem? h1
    rw [List.mem_replicate] at h2
    cases h2.2
theorem FX_of {G : Ctx} {μ : MI} {p : Program} {ws : List Cond} {k n : Nat} {e : Env} {s s₁ : State} {m : MethodId} {args : Array Value} {below : List Frame} {meth : Method} {c : Code}
    (B : BodyLoose p (cL G) (mY μ) (headSpec ws (mRm μ k n)) (mC μ) (mL μ) (mR μ) e s m args below meth c s₁) (hml : c.maxLocals = mL μ) (hws : ∀ w ∈ AW, w ∈ ws) (ht : c.exceptionTable.toList = tableOf (mH μ)) (hK : KN G s) : FX G μ p s m args meth c :=
  ⟨B.exec, B.bytes, hml, B.returns, findClass_of_methodNamed B.named, fun w hw => atoms_spec (ws := ws) B.pre w (hws w hw), B.notSynchronized, (name_of_methodNamed B.named B.method).1, ht, hK⟩
theorem CX_of {G : Ctx} {μ : MI} {args : List Value} {h : AH} {N k n : Nat} {Q : PQ} {X : PX} (hp : plainName (mY μ).cls = true) (hH : mH μ = []) (hc : ∀ v ∈ args, v.category = 1) (hl : args.length ≤ mL μ) (w : WP G μ Q X k n h N 0 (L0 args (mL μ)) []) : CX G μ args h N k n Q X := by
  refine vx_ofW (cc := mC μ) (maxL := mL μ) (ret := mR μ) hp rfl ?_
  intro p e s m args' below meth c s₁ B hml ht hv
  obtain ⟨rfl, hR, hK⟩ := hv
  have ht2 : c.exceptionTable.toList = tableOf (mH μ) := by
    rw [hH]
    exact List.eq_nil_iff_forall_not_mem.mpr fun x hx => ht x hx
  have F := FX_of B hml (fun w hw => List.mem_cons_of_mem _ hw) ht2 hK
  have hL := LR_entry hc hl
  rw [lg_entry_eq]
  exact w p e _ s m _ below meth c s.heap [] 0 0 k n _ F (Nat.le_refl _) (Nat.le_refl _) (by omega) (by omega) (Nat.le_refl _) (Nat.le_refl _) hR va_S.rf hL
theorem CT_of {G : Ctx} {μ : MI} {args : List Value} {h : AH} {N k n : Nat} {Q : PQ} (hp : plainName (mY μ).cls = true) (hH : mH μ = []) (hc : ∀ v ∈ args, v.category = 1) (hl : args.length ≤ mL μ) (w : WP G μ Q noX k n h N 0 (L0 args (mL μ)) []) : CT G μ args h N k n Q := by
  unfold CT Met
  refine MetFree.mono (CX_of hp hH hc hl w) (fun _ _ q => q) (fun _ _ _ _ _ q => q) fun a s o s' _ q => ?_
  rcases q with q | ⟨q, -, E, ce, L9, ⟨⟨h', q1, -⟩, -⟩, -⟩
  · exact q
  · exact q1.elim
theorem CH_of {G : Ctx} {μ : MI} {args : List Value} {h : AH} {N k n : Nat} {Q : PQ} (hp : plainName (mY μ).cls = true) (hc : ∀ v ∈ args, v.category = 1) (hl : args.length ≤ mL μ) (w : WP G μ Q noX k n h N 0 (L0 args (mL μ)) []) : CH G μ args h N k n Q := by
  have hx : vx_Met (cL G) (mY μ) (mWh μ) (mRm μ k n) (CPc G args h N) (SQ G Q) (SX G noX) k n (cF G) := by
    refine vx_ofWH (cc := mC μ) (maxL := mL μ) (ret := mR μ) (hh := mH μ) hp rfl ?_
    intro p e s m args' below meth c s₁ B hml hv
    obtain ⟨rfl, hR, hK⟩ := hv
    have F := FX_of B hml (fun w hw => List.mem_cons_of_mem _ hw) (vx_table (x := mY μ) B (atoms_spec (ws := mWh μ) B.pre _ List.mem_cons_self)) hK
    have hL := LR_entry hc hl
    rw [lg_entry_eq]
    exact w p e _ s m _ below meth c s.heap [] 0 0 k n _ F (Nat.le_refl _) (Nat.le_refl _) (by omega) (by omega) (Nat.le_refl _) (Nat.le_refl _) hR va_S.rf hL
  unfold CH Met
  refine MetFree.mono hx (fun _ _ q => q) (fun _ _ _ _ _ q => q) fun a s o s' _ q => ?_
  rcases q with q | ⟨q, -, E, ce, L9, ⟨⟨h', q1, -⟩, -⟩, -⟩
  · exact q
  · exact q1.elim
theorem CT.weak {G : Ctx} {μ : MI} {args : List Value} {h : AH} {N k n : Nat} {Q Q' : PQ} (c : CT G μ args h N k n Q) (i : ∀ r h' N', Q r h' N' → Q' r h' N') : CT G μ args h N k n Q' := by
  unfold CT Met at c ⊢
  refine MetFree.mono c (fun _ _ q => q) (fun _ _ _ _ _ q => q) fun a s o s' _ q => ?_
  obtain ⟨⟨⟨r, h', q1, q2, q3⟩, q4⟩, q5⟩ := q
  exact ⟨⟨⟨r, h', q1, i _ _ _ q2, q3⟩, q4⟩, q5⟩
/-- the heap stays, the answer is v -/
abbrev PV (v : Value) (h : AH) (N : Nat) : PQ := fun r h' N' => r = some v ∧ h' = h ∧ N' = N
/-! words of a call -/
def CW (μ' : MI) (na : Nat) : Prop := Cond.code (mY μ') (mC μ') (mL μ') (mR μ') ∈ AW ∧ Cond.initialized (mY μ').cls ∈ AW ∧ (mY μ').cls ≠ "java/lang/invoke/MethodHandle" ∧ (mY μ').cls ≠ "java/lang/invoke/VarHandle" ∧ (parseMethodDescriptor (mY μ').desc).map (fun d => d.parameters.length) = some na
def CV (own : String) (idx : Nat) (μ' : MI) (na : Nat) : Prop := CW μ' na ∧ Cond.methodLink own idx (mY μ') ∈ AW ∧ Cond.instanceMethod (mY μ') ∈ AW ∧ Cond.selects (mY μ').cls (mY μ') (mY μ') ∈ AW
def CS (own : String) (idx : Nat) (μ' : MI) (na : Nat) : Prop := CW μ' na ∧ Cond.methodLink own idx (mY μ') ∈ AW ∧ Cond.static (mY μ') ∈ AW
def CI (own : String) (idx : Nat) (μ' : MI) (na : Nat) : Prop := CW μ' na ∧ Cond.methodLink own idx (mY μ') ∈ AW ∧ Cond.instanceMethod (mY μ') ∈ AW ∧ (mY μ').name = "<init>" ∧ mR μ' = none
def CIN (own : String) (idx : Nat) (μ' : MI) (na : Nat) : Prop := CW μ' na ∧ (∃ host, Cond.methodLinkNest own idx (mY μ') host ∈ swNW) ∧ Cond.instanceMethod (mY μ') ∈ AW ∧ (mY μ').name = "<init>" ∧ mR μ' = none
def CSN (own : String) (idx : Nat) (μ' : MI) (na : Nat) : Prop := CW μ' na ∧ (∃ host, Cond.methodLinkNest own idx (mY μ') host ∈ swNW) ∧ Cond.static (mY μ') ∈ AW
def CSH (own : String) (idx : Nat) (μ' : MI) (na : Nat) : Prop := (Cond.codeWith (mY μ') (mC μ') (mL μ') (mR μ') (mH μ') ∈ AW ∧ Cond.initialized (mY μ').cls ∈ AW ∧ (mY μ').cls ≠ "java/lang/invoke/MethodHandle" ∧ (mY μ').cls ≠ "java/lang/invoke/VarHandle" ∧ (parseMethodDescriptor (mY μ').desc).map (fun d => d.parameters.length) = some na) ∧ Cond.methodLink own idx (mY μ') ∈ AW ∧ Cond.static (mY μ') ∈ AW
theorem mW_in {μ' : MI} {na : Nat} (c : CW μ' na) : ∀ w ∈ mW μ', w ∈ AW := fun w hw => (List.mem_cons.mp hw).elim (fun e => by rw [e]; exact c.1) id
/-- room for the callee -/
def RM (μ μ' : MI) : Prop := mF μ' + 1 ≤ mF μ ∧ 8 + (mL μ' + 11) + mO μ' ≤ mO μ
section Rules5
variable {G : Ctx} {μ μ' : MI} {Q Q1 : PQ} {X : PX} {k n k1 n1 k2 n2 : Nat} {h : AH} {N : Nat} {pc : Nat} {L : List (Option Value)} {st st0 : List Value}
theorem CPc.pre {args : List Value} {s : State} {H : Heap} {locs : List Loc} (hK : KN G s) (hS : va_S (cF G) s.heap H locs) (hR : Rep G h N H) : ∀ U : State, U.heap = H → s.WarmedH U.vm → CPc G args h N args.toArray U := by
  intro U hU hW
  exact ⟨rfl, by rw [hU]; exact hR, hK.moved hW (by rw [hU]; exact hS.1) (by rw [hU]; exact hS.2.1)⟩
theorem CPc.blind {args : List Value} : FrameBlind (CPc G args h N) := fun a U g mk q => ⟨q.1, q.2.1, q.2.2.blind g mk a⟩
/-- behind a call that returns -/
theorem WP.goC (hk : k1 + k2 ≤ k) (hn : n1 + n2 ≤ n) (kk : ∀ (r : Option Value) (h' : AH) (N' : Nat), Q1 r h' N' → WP G μ Q X k2 n2 h' N' (pc + 3) L (r.toList ++ st))
    (hs : ∀ {p : Program} {e : Env} {R : Room} {s : State} {m : MethodId} {args : Array Value} {below : List Frame} {meth : Method} {c : Code} {H : Heap} {locs : List Loc} {cells slots : Nat} {ls : Array Slot},
      FX G μ p s m args meth c → mF μ ≤ R.frames → mO μ ≤ R.locals → cells + k1 ≤ R.cells → slots + n1 ≤ R.slots → Rep G h N H → va_S (cF G) s.heap H locs → LR (mL μ) L ls →
      ∃ a : Array Value, va_Run p (cL G) e R s m args below meth c H locs cells slots k1 n1 (F0 m pc ls st0) st (SQ G Q1 a) (cF G)) : WP G μ Q X k n h N pc L st0 := by
  intro p e R s m args below meth c H locs cells slots mc ms ls F a1 a2 a3 a4 a5 a6 hR hS hL
  obtain ⟨a, hrun⟩ := hs (e := e) (below := below) (cells := cells) (slots := slots) (R := R) F a1 a2 (by omega) (by omega) hR hS hL
  intro T hT Y
  obtain ⟨v, st₀, t, T', L9, e0, Y', hL9, e1, e2, ⟨⟨r, h', c1, c2, c3⟩, c4, c5⟩, sp⟩ := hrun T hT Y
  cases c1
  rw [e0] at c4 c5
  have hS1 : va_S (cF G) s.heap T'.heap (locs ++ L9) := ⟨Nat.le_trans hS.1 (by rw [e1]; exact c4), fun q h1 h2 => by rw [e1, c5 q (Nat.lt_of_lt_of_le h1 hS.1) h2]; exact hS.2.1 q h1 h2, fun q hq => by
      rcases List.mem_append.mp hq with z | z
      · exact hS.2.2 q z
      · exact hL9 q z⟩
  rw [← e1] at c2 c3
  obtain ⟨t2, b1, b2⟩ := kk v h' _ c2 p e R s m args below meth c T'.heap (locs ++ L9) (cells + k1) (slots + n1) mc ms ls F a1 a2 (by omega) (by omega) a5 a6 c3 hS1 hL T' rfl Y'
  exact ⟨t2, sp t2 b1, b2⟩
theorem wp_callV {idx na a ci sz : Nat} {C : String} {T : u_T} {fs As : List Value} (ct : CT G μ' (.ref a :: As) h N k1 n1 Q1) (cv : CV (mY μ).cls idx μ' na) (d : decode (mC μ) pc = .ok (.invokevirtual idx, 3)) (rm : RM μ μ') (hst : (st.map fun v => v.category).sum ≤ 8) (hc : h a = some (eO ci fs)) (hcl : swCl[ci]? = some (C, T, sz)) (hC : C = (mY μ').cls) (hna : As.length = na) (h0 : st0 = As.reverse ++ .ref a :: st) (hk : k1 + k2 ≤ k) (hn : n1 + n2 ≤ n)
    (kk : ∀ (r : Option Value) (h' : AH) (N' : Nat), Q1 r h' N' → WP G μ Q X k2 n2 h' N' (pc + 3) L (r.toList ++ st)) : WP G μ Q X k n h N pc L st0 := by
  obtain ⟨c0, c1, c2, c3⟩ := cv
  subst hC
  refine WP.goC hk hn kk fun F a1 a2 a3 a4 hR hS hL => ⟨(Value.ref a :: As).toArray, ?_⟩
  have hK := F.2.2.2.2.2.2.2.2.2
  have hts := F.2.2.2.2.2.1
  refine va_runV (nL := mL μ) ⟨F.1, F.2.1, F.2.2.1, F.2.2.2.2.1, hts⟩ ct (cwV (Ts := AW) na hts (aw_goodIn ?_) rfl rfl rfl ⟨rfl, c0.2.2.1, c0.2.2.2.1, c0.2.2.2.2⟩ ⟨Nat.le_trans rm.1 a1, Nat.le_trans rm.2 a2⟩) ⟨CPc.blind, va_recv hK.2.1 (hR.P hc) hcl (q0 := 0) rfl, CPc.pre hK hS hR⟩ rfl hna hL.1 h0 (lv_room hst) d ⟨a3, a4⟩
  intro w hw
  rcases List.mem_append.mp hw with hw | hw
  · simp only [List.mem_cons, List.not_mem_nil, or_false] at hw
    rcases hw with rfl | rfl | rfl | rfl <;> first | exact c1 | exact c2 | exact c3 | exact c0.2.1
  · exact mW_in c0 w hw
theorem wp_callS {idx na : Nat} {As : List Value} (ct : CT G μ' As h N k1 n1 Q1) (cs : CS (mY μ).cls idx μ' na) (d : decode (mC μ) pc = .ok (.invokestatic idx, 3)) (rm : RM μ μ') (hst : (st.map fun v => v.category).sum ≤ 8) (hna : As.length = na) (h0 : st0 = As.reverse ++ st) (hk : k1 + k2 ≤ k) (hn : n1 + n2 ≤ n)
    (kk : ∀ (r : Option Value) (h' : AH) (N' : Nat), Q1 r h' N' → WP G μ Q X k2 n2 h' N' (pc + 3) L (r.toList ++ st)) : WP G μ Q X k n h N pc L st0 := by
  obtain ⟨c0, c1, c2⟩ := cs
  refine WP.goC hk hn kk fun F a1 a2 a3 a4 hR hS hL => ⟨As.toArray, ?_⟩
  have hK := F.2.2.2.2.2.2.2.2.2
  have hts := F.2.2.2.2.2.1
  refine va_runS (nL := mL μ) ⟨F.1, F.2.1, F.2.2.1, F.2.2.2.2.1, hts⟩ ct (va_cwS (Ts := AW) na hts (aw_goodIn ?_) rfl rfl rfl ⟨c0.2.2.1, c0.2.2.2.1, c0.2.2.2.2⟩ ⟨Nat.le_trans rm.1 a1, Nat.le_trans rm.2 a2⟩) ⟨CPc.blind, CPc.pre hK hS hR⟩ rfl hna hL.1 h0 (lv_room hst) d ⟨a3, a4⟩
  intro w hw
  rcases List.mem_append.mp hw with hw | hw
  · simp only [List.mem_cons, List.not_mem_nil, or_false] at hw
    rcases hw with rfl | rfl | rfl <;> first | exact c1 | exact c2 | exact c0.2.1
  · exact mW_in c0 w hw
theorem wp_callI {idx na a : Nat} {As : List Value} (ct : CT G μ' (.ref a :: As) h N k1 n1 Q1) (ci : CI (mY μ).cls idx μ' na) (d : decode (mC μ) pc = .ok (.invokespecial idx, 3)) (rm : RM μ μ') (hst : (st.map fun v => v.category).sum ≤ 8) (hna : As.length = na) (h0 : st0 = As.reverse ++ .ref a :: st) (hk : k1 + k2 ≤ k) (hn : n1 + n2 ≤ n)
    (kk : ∀ (r : Option Value) (h' : AH) (N' : Nat), Q1 r h' N' → WP G μ Q X k2 n2 h' N' (pc + 3) L (r.toList ++ st)) : WP G μ Q X k n h N pc L st0 := by
  obtain ⟨c0, c1, c2, c3, c4⟩ := ci
  refine WP.goC hk hn kk fun F a1 a2 a3 a4 hR hS hL => ⟨(Value.ref a :: As).toArray, ?_⟩
  have hK := F.2.2.2.2.2.2.2.2.2
  have hts := F.2.2.2.2.2.1
  refine va_runI (nL := mL μ) (bytes := mC μ') (maxL := mL μ') ⟨F.1, F.2.1, F.2.2.1, F.2.2.2.2.1, hts⟩ ct (cwI (Ts := AW) na hts (aw_goodIn (mW_in c0)) (ws' := AW) (by unfold mW; rw [c4]) rfl rfl (hts _ c0.2.1) (hts _ c1) (hts _ c2) c3 ⟨c0.2.2.1, c0.2.2.2.1, c0.2.2.2.2⟩ ⟨Nat.le_trans rm.1 a1, Nat.le_trans rm.2 a2⟩) ⟨CPc.blind, CPc.pre hK hS hR⟩ rfl hna hL.1 h0 (lv_room hst) d ⟨a3, a4⟩
theorem wp_callIN {idx na a : Nat} {As : List Value} (ct : CT G μ' (.ref a :: As) h N k1 n1 Q1) (ci : CIN (mY μ).cls idx μ' na) (d : decode (mC μ) pc = .ok (.invokespecial idx, 3)) (rm : RM μ μ') (hst : (st.map fun v => v.category).sum ≤ 8) (hna : As.length = na) (h0 : st0 = As.reverse ++ .ref a :: st) (hk : k1 + k2 ≤ k) (hn : n1 + n2 ≤ n)
    (kk : ∀ (r : Option Value) (h' : AH) (N' : Nat), Q1 r h' N' → WP G μ Q X k2 n2 h' N' (pc + 3) L (r.toList ++ st)) : WP G μ Q X k n h N pc L st0 := by
  obtain ⟨c0, ⟨host, c1⟩, c2, c3, c4⟩ := ci
  refine WP.goC hk hn kk fun F a1 a2 a3 a4 hR hS hL => ⟨(Value.ref a :: As).toArray, ?_⟩
  have hK := F.2.2.2.2.2.2.2.2.2
  have hts := F.2.2.2.2.2.1
  refine va_runIN (nL := mL μ) (bytes := mC μ') (maxL := mL μ') ⟨F.1, F.2.1, F.2.2.1, F.2.2.2.2.1, hts⟩ ct ⟨va_cnB (Ts := AW) na hts (aw_goodIn (mW_in c0)) (ws' := AW) (by unfold mW; rw [c4]) rfl rfl (hK.2.2.1 _ c1) (hts _ c0.2.1) ⟨c0.2.2.1, c0.2.2.2.1, c0.2.2.2.2⟩ ⟨Nat.le_trans rm.1 a1, Nat.le_trans rm.2 a2⟩, c3, hts _ c2⟩ ⟨CPc.blind, CPc.pre hK hS hR⟩ rfl hna hL.1 h0 (lv_room hst) d ⟨a3, a4⟩
theorem wp_callSN {idx na : Nat} {As : List Value} (ct : CT G μ' As h N k1 n1 Q1) (ci : CSN (mY μ).cls idx μ' na) (d : decode (mC μ) pc = .ok (.invokestatic idx, 3)) (rm : RM μ μ') (hst : (st.map fun v => v.category).sum ≤ 8) (hna : As.length = na) (h0 : st0 = As.reverse ++ st) (hk : k1 + k2 ≤ k) (hn : n1 + n2 ≤ n)
    (kk : ∀ (r : Option Value) (h' : AH) (N' : Nat), Q1 r h' N' → WP G μ Q X k2 n2 h' N' (pc + 3) L (r.toList ++ st)) : WP G μ Q X k n h N pc L st0 := by
  obtain ⟨c0, ⟨host, c1⟩, c2⟩ := ci
  refine WP.goC hk hn kk fun F a1 a2 a3 a4 hR hS hL => ⟨As.toArray, ?_⟩
  have hK := F.2.2.2.2.2.2.2.2.2
  have hts := F.2.2.2.2.2.1
  refine va_runSN (nL := mL μ) (bytes := mC μ') (maxL := mL μ') ⟨F.1, F.2.1, F.2.2.1, F.2.2.2.2.1, hts⟩ ct ⟨va_cnB (Ts := AW) na hts (aw_goodIn (mW_in c0)) (ws' := AW) rfl rfl rfl (hK.2.2.1 _ c1) (hts _ c0.2.1) ⟨c0.2.2.1, c0.2.2.2.1, c0.2.2.2.2⟩ ⟨Nat.le_trans rm.1 a1, Nat.le_trans rm.2 a2⟩, hts _ c2, trivial⟩ ⟨CPc.blind, CPc.pre hK hS hR⟩ rfl hna hL.1 h0 (lv_room hst) d ⟨a3, a4⟩
theorem wp_callSH {idx na : Nat} {As : List Value} (ct : CH G μ' As h N k1 n1 Q1) (cs : CSH (mY μ).cls idx μ' na) (d : decode (mC μ) pc = .ok (.invokestatic idx, 3)) (rm : RM μ μ') (hst : (st.map fun v => v.category).sum ≤ 8) (hna : As.length = na) (h0 : st0 = As.reverse ++ st) (hk : k1 + k2 ≤ k) (hn : n1 + n2 ≤ n)
    (kk : ∀ (r : Option Value) (h' : AH) (N' : Nat), Q1 r h' N' → WP G μ Q X k2 n2 h' N' (pc + 3) L (r.toList ++ st)) : WP G μ Q X k n h N pc L st0 := by
  obtain ⟨c0, c1, c2⟩ := cs
  refine WP.goC hk hn kk fun F a1 a2 a3 a4 hR hS hL => ⟨As.toArray, ?_⟩
  have hK := F.2.2.2.2.2.2.2.2.2
  have hts := F.2.2.2.2.2.1
  refine vx_runSW (nL := mL μ) ⟨F.1, F.2.1, F.2.2.1, F.2.2.2.2.1, hts⟩ ct (vx_cwSW (Ts := AW) na hts (aw_goodIn ?_) rfl rfl rfl ⟨c0.2.2.1, c0.2.2.2.1, c0.2.2.2.2⟩ ⟨Nat.le_trans rm.1 a1, Nat.le_trans rm.2 a2⟩) ⟨CPc.blind, CPc.pre hK hS hR⟩ rfl hna hL.1 h0 (lv_room hst) d ⟨a3, a4⟩
  intro w hw
  rcases List.mem_append.mp hw with hw | hw
  · simp only [List.mem_cons, List.not_mem_nil, or_false] at hw
    rcases hw with rfl | rfl | rfl <;> first | exact c1 | exact c2 | exact c0.2.1
  · rcases List.mem_cons.mp hw with rfl | hw
    · exact c0.1
    · exact hw
/-- Object() -/
theorem wp_obj {idx a : Nat} (d : decode (mC μ) pc = .ok (.invokespecial idx, 3)) (hl : Cond.methodLink (mY μ).cls idx Lib.objectInit ∈ AW) (hw : Cond.instanceMethod Lib.objectInit ∈ AW ∧ Cond.code Lib.objectInit ⟨#[0xb1]⟩ 1 none ∈ AW) (hf : 1 ≤ mF μ) (ho : (st.map fun v => v.category).sum + 12 ≤ mO μ) (kk : WP G μ Q X k n h N (pc + 3) L st) : WP G μ Q X k n h N pc L (.ref a :: st) :=
  kk.go fun {p e R s m args below meth c H locs cells slots ls Z} F _ _ hL a1 a2 _ _ w => W.objInit F.1 F.2.1 F.2.2.2.2.1 (F.2.2.2.2.2.1 _ hl) (F.2.2.2.2.2.1 _ hw.1) (F.2.2.2.2.2.1 _ hw.2) rfl (by show ls.size = c.maxLocals; rw [F.2.2.1]; exact hL.1) rfl d (Nat.le_trans hf a1) (by show 2 * 0 + _ + 12 ≤ _; omega) w
end Rules5


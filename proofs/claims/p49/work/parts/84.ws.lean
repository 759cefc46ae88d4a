/-- what the law's walk stands on (its name and handlers are not asked) -/
def FW (G : Ctx) (μ : MI) (p : Program) (s : State) (m : MethodId) (args : Array Value) (meth : Method) (c : Code) : Prop :=
  p.tables.exec = Jvm.exec ∧ c.code = mC μ ∧ c.maxLocals = mL μ ∧ meth.sig.returnType = mR μ ∧ s.vm.findClass (mY μ).cls = some m.cls ∧ (∀ w ∈ AW, w.before args s = true) ∧ meth.locks = false ∧ True ∧ True ∧ KN G s
/-! ===== the law's own walk: the same predicate at one start, whose script is known, with the law's own end ===== -/
/-- as WP, from the start s with the arguments args alone, to an end Z -/
def WS (G : Ctx) (s : State) (args : Array Value) (Z : List Frame → State → Prop) (μ : MI) (k n : Nat) (h : AH) (N : Nat) (pc : Nat) (L : List (Option Value)) (st : List Value) : Prop :=
  ∀ (p : Program) (e : Env) (R : Room) (m : MethodId) (below : List Frame) (meth : Method) (c : Code) (H : Heap) (locs : List Loc) (cells slots mc ms : Nat) (ls : Array Slot),
    (R = room_1 ∧ mc = 600104 ∧ ms = 7301313) → FW G μ p s m args meth c → mF μ ≤ R.frames → mO μ ≤ R.locals → cells + k ≤ mc → slots + n ≤ ms → mc ≤ R.cells → ms ≤ R.slots → Rep G h N H → va_S (cF G) s.heap H locs → LR (mL μ) L ls →
    W p (cL G) e R s m args below meth c H locs cells slots (Z below) (F0 m pc ls st)
section WS
variable {G : Ctx} {s : State} {args : Array Value} {Z : List Frame → State → Prop} {μ μ' : MI} {Q1 : PQ} {k n k1 n1 k2 n2 : Nat} {h : AH} {N : Nat} {pc : Nat} {L : List (Option Value)} {st st0 : List Value}
theorem WS.le {k' n' : Nat} (h1 : k' ≤ k) (h2 : n' ≤ n) (w : WS G s args Z μ k' n' h N pc L st) : WS G s args Z μ k n h N pc L st := by
  intro p e R m below meth c H locs cells slots mc ms ls hE F a1 a2 a3 a4
  exact w p e R m below meth c H locs cells slots mc ms ls hE F a1 a2 (by omega) (by omega)
theorem WS.go {pc' : Nat} {st' : List Value} (kk : WS G s args Z μ k n h N pc' L st')
    (hs : ∀ {p : Program} {e : Env} {R : Room} {s : State} {m : MethodId} {args : Array Value} {below : List Frame} {meth : Method} {c : Code} {H : Heap} {locs : List Loc} {cells slots : Nat} {ls : Array Slot} {Z0 : State → Prop},
      FW G μ p s m args meth c → Rep G h N H → va_S (cF G) s.heap H locs → LR (mL μ) L ls → mF μ ≤ R.frames → mO μ ≤ R.locals → cells ≤ R.cells → slots ≤ R.slots → W p (cL G) e R s m args below meth c H locs cells slots Z0 (F0 m pc' ls st') → W p (cL G) e R s m args below meth c H locs cells slots Z0 (F0 m pc ls st)) : WS G s args Z μ k n h N pc L st := by
  intro p e R m below meth c H locs cells slots mc ms ls hE F a1 a2 a3 a4 a5 a6 hR hS hL
  exact hs F hR hS hL a1 a2 (by omega) (by omega) (kk p e R m below meth c H locs cells slots mc ms ls hE F a1 a2 a3 a4 a5 a6 hR hS hL)
theorem WS.goL {pc' : Nat} {st' : List Value} {L' : List (Option Value)} (kk : WS G s args Z μ k n h N pc' L' st')
    (hs : ∀ {p : Program} {e : Env} {R : Room} {s : State} {m : MethodId} {args : Array Value} {below : List Frame} {meth : Method} {c : Code} {H : Heap} {locs : List Loc} {cells slots : Nat} {ls : Array Slot} {Z0 : State → Prop},
      FW G μ p s m args meth c → LR (mL μ) L ls → (∀ ls' : Array Slot, LR (mL μ) L' ls' → W p (cL G) e R s m args below meth c H locs cells slots Z0 (F0 m pc' ls' st')) → W p (cL G) e R s m args below meth c H locs cells slots Z0 (F0 m pc ls st)) : WS G s args Z μ k n h N pc L st := by
  intro p e R m below meth c H locs cells slots mc ms ls hE F a1 a2 a3 a4 a5 a6 hR hS hL
  exact hs F hL fun ls' hL' => kk p e R m below meth c H locs cells slots mc ms ls' hE F a1 a2 a3 a4 a5 a6 hR hS hL'
theorem WS.br {p1 p2 : Nat} {st1 : List Value} {P1 P2 : Prop} (k1 : P1 → WS G s args Z μ k n h N p1 L st1) (k2 : P2 → WS G s args Z μ k n h N p2 L st1)
    (hs : ∀ {p : Program} {e : Env} {R : Room} {s : State} {m : MethodId} {args : Array Value} {below : List Frame} {meth : Method} {c : Code} {H : Heap} {locs : List Loc} {cells slots : Nat} {ls : Array Slot} {Z0 : State → Prop},
      FW G μ p s m args meth c → (P1 → W p (cL G) e R s m args below meth c H locs cells slots Z0 (F0 m p1 ls st1)) → (P2 → W p (cL G) e R s m args below meth c H locs cells slots Z0 (F0 m p2 ls st1)) → W p (cL G) e R s m args below meth c H locs cells slots Z0 (F0 m pc ls st)) : WS G s args Z μ k n h N pc L st := by
  intro p e R m below meth c H locs cells slots mc ms ls hE F a1 a2 a3 a4 a5 a6 hR hS hL
  exact hs F (fun q => k1 q p e R m below meth c H locs cells slots mc ms ls hE F a1 a2 a3 a4 a5 a6 hR hS hL) (fun q => k2 q p e R m below meth c H locs cells slots mc ms ls hE F a1 a2 a3 a4 a5 a6 hR hS hL)
theorem WS.goC (hk : k1 + k2 ≤ k) (hn : n1 + n2 ≤ n) (kk : ∀ (r : Option Value) (h' : AH) (N' : Nat), Q1 r h' N' → WS G s args Z μ k2 n2 h' N' (pc + 3) L (r.toList ++ st))
    (hs : ∀ {p : Program} {e : Env} {R : Room} {s : State} {m : MethodId} {args : Array Value} {below : List Frame} {meth : Method} {c : Code} {H : Heap} {locs : List Loc} {cells slots : Nat} {ls : Array Slot},
      FW G μ p s m args meth c → mF μ ≤ R.frames → mO μ ≤ R.locals → cells + k1 ≤ R.cells → slots + n1 ≤ R.slots → Rep G h N H → va_S (cF G) s.heap H locs → LR (mL μ) L ls →
      ∃ a : Array Value, va_Run p (cL G) e R s m args below meth c H locs cells slots k1 n1 (F0 m pc ls st0) st (SQ G Q1 a) (cF G)) : WS G s args Z μ k n h N pc L st0 := by
  intro p e R m below meth c H locs cells slots mc ms ls hE F a1 a2 a3 a4 a5 a6 hR hS hL
  obtain ⟨a, hrun⟩ := hs (e := e) (below := below) (cells := cells) (slots := slots) (R := R) F a1 a2 (by omega) (by omega) hR hS hL
  intro T hT Y
  obtain ⟨v, st₀, t, T', L9, e0, Y', hL9, e1, e2, ⟨⟨r, h', c1, c2, c3⟩, c4, c5⟩, sp⟩ := hrun T hT Y
  cases c1
  rw [e0] at c4 c5
  have hS1 : va_S (cF G) s.heap T'.heap (locs ++ L9) := ⟨Nat.le_trans hS.1 (by rw [e1]; exact c4), fun q h1 h2 => by rw [e1, c5 q (Nat.lt_of_lt_of_le h1 hS.1) h2]; exact hS.2.1 q h1 h2, fun q hq => by
      rcases List.mem_append.mp hq with z | z
      · exact hS.2.2 q z
      · exact hL9 q z⟩
  rw [← e1] at c2 c3
  obtain ⟨t2, b1, b2⟩ := kk v h' _ c2 p e R m below meth c T'.heap (locs ++ L9) (cells + k1) (slots + n1) mc ms ls hE F a1 a2 (by omega) (by omega) a5 a6 c3 hS1 hL T' rfl Y'
  exact ⟨t2, sp t2 b1, b2⟩
theorem WS.goN {pc' N' k1 n1 k2 n2 : Nat} {st' : List Value} {h' : AH} (hk : k1 + k2 ≤ k) (hn : n1 + n2 ≤ n) (kk : WS G s args Z μ k2 n2 h' N' pc' L st')
    (hs : ∀ {p : Program} {e1 : Env} {R : Room} {s : State} {m : MethodId} {args : Array Value} {below : List Frame} {meth : Method} {c : Code} {H : Heap} {locs : List Loc} {cells slots : Nat} {ls : Array Slot} {Z0 : State → Prop},
      FW G μ p s m args meth c → cells + k1 ≤ R.cells → slots + n1 ≤ R.slots → Rep G h N H → va_S (cF G) s.heap H locs → (∀ (H1 : Heap), Rep G h' N' H1 → va_S (cF G) s.heap H1 locs → W p (cL G) e1 R s m args below meth c H1 locs (cells + k1) (slots + n1) Z0 (F0 m pc' ls st')) → W p (cL G) e1 R s m args below meth c H locs cells slots Z0 (F0 m pc ls st)) : WS G s args Z μ k n h N pc L st := by
  intro p e R m below meth c H locs cells slots mc ms ls hE F a1 a2 a3 a4 a5 a6 hR hS hL
  exact hs F (by omega) (by omega) hR hS fun H1 hR1 hS1 => kk p e R m below meth c H1 locs _ _ mc ms ls hE F a1 a2 (by omega) (by omega) a5 a6 hR1 hS1 hL
theorem WS.goH {pc' : Nat} {st' : List Value} {a : Nat} {e : va_E} (kk : WS G s args Z μ k n (hup h a e) N pc' L st')
    (hs : ∀ {p : Program} {e1 : Env} {R : Room} {s : State} {m : MethodId} {args : Array Value} {below : List Frame} {meth : Method} {c : Code} {H : Heap} {locs : List Loc} {cells slots : Nat} {ls : Array Slot} {Z0 : State → Prop},
      FW G μ p s m args meth c → Rep G h N H → va_S (cF G) s.heap H locs → (∀ (H1 : Heap) (locs1 : List Loc), Rep G (hup h a e) N H1 → va_S (cF G) s.heap H1 locs1 → W p (cL G) e1 R s m args below meth c H1 locs1 cells slots Z0 (F0 m pc' ls st')) → W p (cL G) e1 R s m args below meth c H locs cells slots Z0 (F0 m pc ls st)) : WS G s args Z μ k n h N pc L st := by
  intro p e R m below meth c H locs cells slots mc ms ls hE F a1 a2 a3 a4 a5 a6 hR hS hL
  exact hs F hR hS fun H1 locs1 hR1 hS1 => kk p e R m below meth c H1 locs1 cells slots mc ms ls hE F a1 a2 a3 a4 a5 a6 hR1 hS1 hL
theorem ws_iconst {i : Int} (d : decode (mC μ) pc = .ok (.iconst i, 1)) (kk : WS G s args Z μ k n h N (pc + 1) L (JV i :: st)) : WS G s args Z μ k n h N pc L st :=
  kk.go fun F _ _ _ _ _ _ _ w => lv_iconst F.1 F.2.1 d rfl w
theorem ws_bipush {i : Int} (d : decode (mC μ) pc = .ok (.bipush i, 2)) (hv : (Int8.ofInt i).toInt32 = Int32.ofInt i) (kk : WS G s args Z μ k n h N (pc + 2) L (JV i :: st)) : WS G s args Z μ k n h N pc L st :=
  kk.go fun F _ _ _ _ _ _ _ w => lv_bipush F.1 F.2.1 d hv w
theorem ws_iload {i : Nat} {x : Int32} (d : decode (mC μ) pc = .ok (.iload i, 2)) (hl : L[i]? = some (some (.int x))) (kk : WS G s args Z μ k n h N (pc + 2) L (.int x :: st)) : WS G s args Z μ k n h N pc L st :=
  kk.go fun F _ _ hL _ _ _ _ w => lv_iload F.1 F.2.1 d (hL.at hl) w
theorem ws_aload_n {i : Fin 4} {x : Nat} (d : decode (mC μ) pc = .ok (.aload_n i, 1)) (hl : L[(i : Nat)]? = some (some (.ref x))) (kk : WS G s args Z μ k n h N (pc + 1) L (.ref x :: st)) : WS G s args Z μ k n h N pc L st :=
  kk.go fun F _ _ hL _ _ _ _ w => lv_aload_n F.1 F.2.1 d rfl (hL.at hl) w
theorem ws_aload {i : Nat} {x : Nat} (d : decode (mC μ) pc = .ok (.aload i, 2)) (hl : L[i]? = some (some (.ref x))) (kk : WS G s args Z μ k n h N (pc + 2) L (.ref x :: st)) : WS G s args Z μ k n h N pc L st :=
  kk.go fun F _ _ hL _ _ _ _ w => lv_aload F.1 F.2.1 d (hL.at hl) w
theorem ws_istore {i : Nat} {x : Int32} (d : decode (mC μ) pc = .ok (.istore i, 2)) (hi : i < mL μ) (ho : okS L i = true) (kk : WS G s args Z μ k n h N (pc + 2) (L.set i (some (.int x))) st) : WS G s args Z μ k n h N pc L (.int x :: st) :=
  kk.goL fun F hL w => lv_istore F.1 F.2.1 d hL hi rfl fun ls' hl' => w ls' (LR.set1 ho hl')
theorem ws_astore_n {i : Fin 4} {x : Nat} (d : decode (mC μ) pc = .ok (.astore_n i, 1)) (hi : (i : Nat) < mL μ) (ho : okS L (i : Nat) = true) (kk : WS G s args Z μ k n h N (pc + 1) (L.set (i : Nat) (some (.ref x))) st) : WS G s args Z μ k n h N pc L (.ref x :: st) :=
  kk.goL fun F hL w => lv_astore_n F.1 F.2.1 d rfl hL hi rfl fun ls' hl' => w ls' (LR.set1 ho hl')
theorem ws_astore {i : Nat} {x : Nat} (d : decode (mC μ) pc = .ok (.astore i, 2)) (hi : i < mL μ) (ho : okS L i = true) (kk : WS G s args Z μ k n h N (pc + 2) (L.set i (some (.ref x))) st) : WS G s args Z μ k n h N pc L (.ref x :: st) :=
  kk.goL fun F hL w => lv_astore F.1 F.2.1 d hL hi rfl fun ls' hl' => w ls' (LR.set1 ho hl')
theorem ws_iinc {i : Nat} {j x : Int} (d : decode (mC μ) pc = .ok (.iinc i j, 3)) (hl : L[i]? = some (some (JV x))) (hi : i < mL μ) (ho : okS L i = true) (kk : WS G s args Z μ k n h N (pc + 3) (L.set i (some (JV (x + j)))) st) : WS G s args Z μ k n h N pc L st :=
  kk.goL fun F hL w => lv_iincL F.1 F.2.1 d hL (mem_LA.mpr hl) hi fun ls' hl' => w ls' (LR.set1 ho (by rw [← Int32.ofInt_add] at hl'; exact hl'))
theorem ws_imul {x y : Int} (d : decode (mC μ) pc = .ok (.imul, 1)) (kk : WS G s args Z μ k n h N (pc + 1) L (JV (x * y) :: st)) : WS G s args Z μ k n h N pc L (JV y :: JV x :: st) :=
  kk.go fun F _ _ _ _ _ _ _ w => lv_imul F.1 F.2.1 d (by rw [← Int32.ofInt_mul]; exact w)
theorem ws_idiv {x y : Int} (d : decode (mC μ) pc = .ok (.idiv, 1)) (hx : InR x) (hx0 : 0 ≤ x) (hy : InR y) (hy0 : 0 < y) (kk : WS G s args Z μ k n h N (pc + 1) L (JV (x / y) :: st)) : WS G s args Z μ k n h N pc L (JV y :: JV x :: st) :=
  kk.go fun F _ _ _ _ _ _ _ w => lv_idiv F.1 F.2.1 d (by rw [show (0 : Int32) = Int32.ofInt 0 from rfl, J_eq hy ⟨by omega, by omega⟩]; omega) (by rw [J_div hx hx0 hy hy0]; exact w)
theorem ws_irem {x y : Int} (d : decode (mC μ) pc = .ok (.irem, 1)) (hx : InR x) (hx0 : 0 ≤ x) (hy : InR y) (hy0 : 0 < y) (kk : WS G s args Z μ k n h N (pc + 1) L (JV (x % y) :: st)) : WS G s args Z μ k n h N pc L (JV y :: JV x :: st) :=
  kk.go fun F _ _ _ _ _ _ _ w => lv_irem F.1 F.2.1 d (by rw [show (0 : Int32) = Int32.ofInt 0 from rfl, J_eq hy ⟨by omega, by omega⟩]; omega) (by rw [J_rem hx hx0 hy hy0]; exact w)
theorem ws_goto {off : Int} (tgt : Nat) (d : decode (mC μ) pc = .ok (.goto off, 3)) (ht : (pc : Int) + off = (tgt : Int)) (kk : WS G s args Z μ k n h N tgt L st) : WS G s args Z μ k n h N pc L st :=
  kk.go fun F _ _ _ _ _ _ _ w => lv_goto F.1 F.2.1 d ht w
theorem ws_dup {v : Value} (d : decode (mC μ) pc = .ok (.dup, 1)) (hv : v.category = 1) (kk : WS G s args Z μ k n h N (pc + 1) L (v :: v :: st)) : WS G s args Z μ k n h N pc L (v :: st) :=
  kk.go fun F _ _ _ _ _ _ _ w => lv_dup F.1 F.2.1 d hv w
theorem ws_icmp_eq {x y off : Int} (tgt : Nat) (d : decode (mC μ) pc = .ok (.if_icmp .eq off, 3)) (ht : (pc : Int) + off = (tgt : Int)) (hx : InR x) (hy : InR y) (k1 : x = y → WS G s args Z μ k n h N tgt L st) (k2 : ¬ x = y → WS G s args Z μ k n h N (pc + 3) L st) : WS G s args Z μ k n h N pc L (JV y :: JV x :: st) :=
  WS.br k1 k2 fun F w1 w2 => lv_icmp_eq F.1 F.2.1 d ht (fun q => w1 (by first | (have := (J_eq hx hy).mp q; assumption) | (rw [ne_eq, J_eq hx hy] at q; exact q) | (rw [J_eq hx hy] at q; exact q) | (rw [J_lt hx hy] at q; omega) | (rw [J_le hx hy] at q; omega) | (rw [J_lt hy hx] at q; omega) | (rw [J_le hy hx] at q; omega) | (rw [ge_iff_le, J_le hy hx] at q; omega) | (rw [gt_iff_lt, J_lt hy hx] at q; omega)))
    (fun q => w2 (by first | exact Classical.not_not.mp (fun z => q (fun z2 => z ((J_eq hx hy).mp z2))) | exact (J_eq hx hy).mp q | (rw [J_eq hx hy] at q; exact q) | (rw [ne_eq, J_eq hx hy] at q; exact q) | (rw [J_lt hx hy] at q; omega) | (rw [J_le hx hy] at q; omega) | (rw [J_lt hy hx] at q; omega) | (rw [J_le hy hx] at q; omega) | (rw [ge_iff_le, J_le hy hx] at q; omega) | (rw [gt_iff_lt, J_lt hy hx] at q; omega)))
theorem ws_icmp_ge {x y off : Int} (tgt : Nat) (d : decode (mC μ) pc = .ok (.if_icmp .ge off, 3)) (ht : (pc : Int) + off = (tgt : Int)) (hx : InR x) (hy : InR y) (k1 : y ≤ x → WS G s args Z μ k n h N tgt L st) (k2 : x < y → WS G s args Z μ k n h N (pc + 3) L st) : WS G s args Z μ k n h N pc L (JV y :: JV x :: st) :=
  WS.br k1 k2 fun F w1 w2 => lv_icmp_ge F.1 F.2.1 d ht (fun q => w1 (by first | (have := (J_eq hx hy).mp q; assumption) | (rw [ne_eq, J_eq hx hy] at q; exact q) | (rw [J_eq hx hy] at q; exact q) | (rw [J_lt hx hy] at q; omega) | (rw [J_le hx hy] at q; omega) | (rw [J_lt hy hx] at q; omega) | (rw [J_le hy hx] at q; omega) | (rw [ge_iff_le, J_le hy hx] at q; omega) | (rw [gt_iff_lt, J_lt hy hx] at q; omega)))
    (fun q => w2 (by first | exact Classical.not_not.mp (fun z => q (fun z2 => z ((J_eq hx hy).mp z2))) | exact (J_eq hx hy).mp q | (rw [J_eq hx hy] at q; exact q) | (rw [ne_eq, J_eq hx hy] at q; exact q) | (rw [J_lt hx hy] at q; omega) | (rw [J_le hx hy] at q; omega) | (rw [J_lt hy hx] at q; omega) | (rw [J_le hy hx] at q; omega) | (rw [ge_iff_le, J_le hy hx] at q; omega) | (rw [gt_iff_lt, J_lt hy hx] at q; omega)))
theorem ws_if_eq {x off : Int} (tgt : Nat) (d : decode (mC μ) pc = .ok (.ifCond .eq off, 3)) (ht : (pc : Int) + off = (tgt : Int)) (hx : InR x) (k1 : x = 0 → WS G s args Z μ k n h N tgt L st) (k2 : ¬ x = 0 → WS G s args Z μ k n h N (pc + 3) L st) : WS G s args Z μ k n h N pc L (JV x :: st) := by
  have hy : InR 0 := ⟨by omega, by omega⟩
  refine WS.br k1 k2 fun F w1 w2 => lv_if_eq F.1 F.2.1 d ht (fun q => w1 ?_) (fun q => w2 ?_)
  · rw [show (0 : Int32) = Int32.ofInt 0 from rfl] at q
    first | (have := (J_eq hx hy).mp q; assumption) | (rw [ne_eq, J_eq hx hy] at q; exact q) | (rw [J_eq hx hy] at q; exact q) | (rw [J_lt hx hy] at q; omega) | (rw [J_le hx hy] at q; omega) | (rw [J_lt hy hx] at q; omega) | (rw [J_le hy hx] at q; omega) | (rw [ge_iff_le, J_le hy hx] at q; omega) | (rw [gt_iff_lt, J_lt hy hx] at q; omega)
  · rw [show (0 : Int32) = Int32.ofInt 0 from rfl] at q
    first | exact Classical.not_not.mp (fun z => q (fun z2 => z ((J_eq hx hy).mp z2))) | exact (J_eq hx hy).mp q | (rw [J_eq hx hy] at q; exact q) | (rw [ne_eq, J_eq hx hy] at q; exact q) | (rw [J_lt hx hy] at q; omega) | (rw [J_le hx hy] at q; omega) | (rw [J_lt hy hx] at q; omega) | (rw [J_le hy hx] at q; omega) | (rw [ge_iff_le, J_le hy hx] at q; omega) | (rw [gt_iff_lt, J_lt hy hx] at q; omega)
theorem ws_if_ne {x off : Int} (tgt : Nat) (d : decode (mC μ) pc = .ok (.ifCond .ne off, 3)) (ht : (pc : Int) + off = (tgt : Int)) (hx : InR x) (k1 : ¬ x = 0 → WS G s args Z μ k n h N tgt L st) (k2 : x = 0 → WS G s args Z μ k n h N (pc + 3) L st) : WS G s args Z μ k n h N pc L (JV x :: st) := by
  have hy : InR 0 := ⟨by omega, by omega⟩
  refine WS.br k1 k2 fun F w1 w2 => lv_if_ne F.1 F.2.1 d ht (fun q => w1 ?_) (fun q => w2 ?_)
  · rw [show (0 : Int32) = Int32.ofInt 0 from rfl] at q
    first | (have := (J_eq hx hy).mp q; assumption) | (rw [ne_eq, J_eq hx hy] at q; exact q) | (rw [J_eq hx hy] at q; exact q) | (rw [J_lt hx hy] at q; omega) | (rw [J_le hx hy] at q; omega) | (rw [J_lt hy hx] at q; omega) | (rw [J_le hy hx] at q; omega) | (rw [ge_iff_le, J_le hy hx] at q; omega) | (rw [gt_iff_lt, J_lt hy hx] at q; omega)
  · rw [show (0 : Int32) = Int32.ofInt 0 from rfl] at q
    first | exact Classical.not_not.mp (fun z => q (fun z2 => z ((J_eq hx hy).mp z2))) | exact (J_eq hx hy).mp q | (rw [J_eq hx hy] at q; exact q) | (rw [ne_eq, J_eq hx hy] at q; exact q) | (rw [J_lt hx hy] at q; omega) | (rw [J_le hx hy] at q; omega) | (rw [J_lt hy hx] at q; omega) | (rw [J_le hy hx] at q; omega) | (rw [ge_iff_le, J_le hy hx] at q; omega) | (rw [gt_iff_lt, J_lt hy hx] at q; omega)
theorem ws_iastore {a m : Nat} {f : Nat → Int} {i x : Int} (d : decode (mC μ) pc = .ok (.iastore, 1)) (hc : h a = some (eI G m f)) (h0 : 0 ≤ i) (h1 : i < (m : Int)) (hm : m < 2147483648) (kk : WS G s args Z μ k n (hup h a (eI G m (fup f i.toNat x))) N (pc + 1) L st) : WS G s args Z μ k n h N pc L (JV x :: JV i :: .ref a :: st) := by
  refine kk.goH fun F hR hS w => ?_
  have hK : va_K (cD G) swCl (swTys (cA G)) _ := F.2.2.2.2.2.2.2.2.2.2.1
  refine W.iast F.1 F.2.1 (hR.P hc 0 _ rfl) ((hK.2 0 _ rfl).1 m (fun j => .int (Int32.ofInt (f j)))) (fun q => by cases q) (by show ¬ (Int32.ofInt i < 0 ∨ (arrV _ _ _).slots.size ≤ _); rw [arrV_size]; exact J_in h0 h1 hm) rfl rfl d fun H1 e z oq => ?_
  refine w H1 _ (hR.set hc z ?_ oq) (hS.put z oq (hR.2 _ _ hc).1)
  show H1[a]? = some (vp_cell _ _)
  rw [e, J_clamp h0 (by omega)]
  rw [vp_cell_i, vp_cell_i]
  refine congrArg some (arrV_up fun j => ?_)
  simp only [fup]
  split <;> rfl
theorem ws_new {ci idx sz k2 n2 : Nat} {C : String} {T : u_T} {ty0 : Nat → FieldType} {fs : List Value} (ck : CK ci (C, T, sz) ty0) (hl : Cond.classLink (mY μ).cls idx C ∈ AW) (hi : Cond.instantiable C sz ∈ AW) (hini : Cond.initialized C ∈ AW) (d : decode (mC μ) pc = .ok (.new idx, 3)) (hfs : ∀ j, j < sz → defaultValue (ty0 j) = vp_V fs j) (hk : 1 + k2 ≤ k) (hn : sz + n2 ≤ n)
    (kk : WS G s args Z μ k2 n2 (hup h N (eO ci fs)) (N + 1) (pc + 3) L (.ref N :: st)) : WS G s args Z μ k n h N pc L st := by
  refine kk.goN hk hn fun F c1 c2 hR hS w => ?_
  have hK := F.2.2.2.2.2.2.2.2.2
  have hts := F.2.2.2.2.2.1
  have hKn := hK.2.1.1 ci _ ck.1
  have hB := hB_of hK hS hR
  refine W.newcK F.1 F.2.1 F.2.2.2.2.1 (hts _ hl) (hts _ hi) (hts _ hini) rfl d c1 c2 hKn.2.1 hR.1 fun H1 kC hkC e1 z1 o1 => ?_
  refine w H1 (hR.new hB z1 ⟨_, ck.1, (u_born ty0 hts ck.2.1 hKn hkC e1 ck.2.2.1).to hfs⟩ o1) (hS.new (by rw [hR.1, z1]; omega) (by rw [hR.1]; exact o1))
theorem ws_newI {i : Int} {m k2 n2 : Nat} (d : decode (mC μ) pc = .ok (.newarray .int, 2)) (hw : Cond.arrayClass .int ∈ AW) (h0 : i = (m : Int)) (hm : m ≤ 100000) (hk : 1 + k2 ≤ k) (hn : m + n2 ≤ n)
    (kk : WS G s args Z μ k2 n2 (hup h N (eI G m (fun _ => 0))) (N + 1) (pc + 2) L (.ref N :: st)) : WS G s args Z μ k n h N pc L (JV i :: st) := by
  subst h0
  refine kk.goN hk hn fun F c1 c2 hR hS w => ?_
  have hK := F.2.2.2.2.2.2.2.2.2
  have hB := hB_of hK hS hR
  refine va_newaK (atype := .int) F.1 F.2.1 (F.2.2.2.2.2.1 _ hw) rfl d rfl (fun q => (J_in (x := (m : Int)) (n := m + 1) (by omega) (by omega) (by omega)) (Or.inl q)) ((J_clamp (by omega) (by omega)).trans (Int.toNat_natCast m)) (by show m * 4 ≤ _; omega) c1 c2 hR.1 fun H1 cA1 e1 z1 o1 hAr hNm => ?_
  have hc : cA1 = cA G 0 := Option.some.inj (hNm.symm.trans (hK.2.1.2 0 _ rfl).2)
  subst hc
  refine w H1 (hR.new hB z1 ?_ o1) (hS.new (by rw [hR.1, z1]; omega) (by rw [hR.1]; exact o1))
  exact e1
theorem ws_multi {idx r m : Nat} (d : decode (mC μ) pc = .ok (.multianewarray idx 2, 4)) (hl : Cond.classLink (mY μ).cls idx ("[" ++ (FieldType.array .int).toString) ∈ AW) (hw : Cond.arrayClass .int ∈ AW) (hr : r ≤ 1000) (hm : m ≤ 100000) (hk : 1 + r + k2 ≤ k) (hn : r + r * m + n2 ≤ n)
    (kk : WS G s args Z μ k2 n2 (hrows G h N r m) (N + 1 + r) (pc + 4) L (.ref N :: st)) : WS G s args Z μ k n h N pc L (JV (m : Int) :: JV (r : Int) :: st) := by
  intro p e R m9 below meth c H locs cells slots mc ms ls hE F a1 a2 a3 a4 a5 a6 hR hS hL
  have hK := F.2.2.2.2.2.2.2.2.2
  have hts := F.2.2.2.2.2.1
  have hB := hB_of hK hS hR
  have hrc : (Int32.ofInt (r : Int)).toNatClampNeg = r := (J_clamp (by omega) (by omega)).trans (Int.toNat_natCast r)
  have hmc : (Int32.ofInt (m : Int)).toNatClampNeg = m := (J_clamp (by omega) (by omega)).trans (Int.toNat_natCast m)
  intro T hT Y
  obtain ⟨vm₁, c4, comp, -, fA, fC, hO, -, Y', step⟩ := Y.multianewarray2F F.1 F.2.2.2.2.1 (hts _ hl) hK.2.2.2.2.2.2.2.2.1.over (hts _ hw) (g := F0 m9 pc ls (JV (m : Int) :: JV (r : Int) :: st)) rfl (by rw [F.2.1]; exact d) rfl
    (fun q => (J_in (x := (r : Int)) (n := r + 1) (by omega) (by omega) (by omega)) (Or.inl q)) (fun q => (J_in (x := (m : Int)) (n := m + 1) (by omega) (by omega) (by omega)) (Or.inl q)) (by rw [hrc]; omega) (by rw [hmc]; show m * 4 ≤ _; omega) (by rw [hmc]; omega) rfl rfl (by rw [hrc]; omega) (by rw [hrc, hmc]; omega)
  rw [hrc, hmc] at Y' step
  have h4 : c4 = cA G 4 := Option.some.inj (fA.symm.trans (hK.2.1.2 4 _ rfl).2)
  subst h4
  have h0 : comp = cA G 0 := Option.some.inj (fC.symm.trans (hK.2.1.2 0 _ rfl).2)
  subst h0
  generalize hF : Jvm.Free.Multi.fill (T.setVm vm₁) (cA G 4) (cA G 0) r m (defaultValue .int) r = F9 at Y' step
  have hTh : (T.setVm vm₁).heap = H := hT
  obtain ⟨f1, f2, -, -⟩ := Jvm.Free.Multi.fill_facts (T.setVm vm₁) (cA G 4) (cA G 0) r m (defaultValue .int) r
  rw [hF, hTh] at f1 f2
  have hold : ∀ x : Nat, x < H.size → F9.heap[x]? = H[x]? := fun x hx => by
    have := Jvm.Free.Multi.fill_old (T.setVm vm₁) (cA G 4) (cA G 0) r m (defaultValue .int) (a := x) (by rw [hTh]; exact hx) r
    rw [hF, hTh] at this
    exact this
  have hrow : ∀ j : Nat, j < r → F9.heap[H.size + 1 + j]? = some (vp_cell (cA G 0) (m, .inl (fun _ => 0))) := fun j hj => by
    have := Jvm.Free.Multi.fill_inner (T.setVm vm₁) (cA G 4) (cA G 0) r m (defaultValue .int) r j hj
    rw [hF, hTh] at this
    rw [this]
    show some ({ cls := cA G 0, slots := Array.replicate m (defaultValue .int), vm := .none } : Cell) = _
    rw [arrV_new]
    rfl
  rw [outer_eq, hR.1] at f2
  rw [hR.1] at f1 hold hrow
  have hz : F9.heap.size = N + 1 + r := by omega
  have hR1 : Rep G (hrows G h N r m) (N + 1 + r) F9.heap := by
    refine ⟨hz, fun b e2 hb => ?_⟩
    unfold hrows at hb
    by_cases hb1 : b = N
    · rw [if_pos hb1] at hb
      cases hb
      subst hb1
      exact ⟨hB, f2⟩
    · rw [if_neg hb1] at hb
      by_cases hb2 : N < b ∧ b ≤ N + r
      · rw [if_pos hb2] at hb
        cases hb
        refine ⟨by show cB G ≤ b; omega, ?_⟩
        have := hrow (b - N - 1) (by omega)
        rw [show N + 1 + (b - N - 1) = b by omega] at this
        exact this
      · rw [if_neg hb2] at hb
        exact ⟨(hR.2 _ _ hb).1, (hR.2 _ _ hb).2.kept (hold b (hR.lt hb))⟩
  have hS1 : va_S (cF G) s.heap F9.heap locs := hS.new (by rw [hR.1]; omega) (by rw [hR.1]; exact hold)
  obtain ⟨t2, b1, b2⟩ := kk p e R m9 below meth c F9.heap locs (cells + 1 + r) (slots + r + r * m) mc ms ls hE F a1 a2 (by omega) (by omega) a5 a6 hR1 hS1 hL F9 rfl Y'
  refine ⟨t2, step t2 ?_, b2⟩
  rw [show T.heap.size = N by rw [hT]; exact hR.1]
  exact b1
theorem ws_callV {idx na a ci sz : Nat} {C : String} {T : u_T} {fs As : List Value} (ct : CT G μ' (.ref a :: As) h N k1 n1 Q1) (cv : CV (mY μ).cls idx μ' na) (d : decode (mC μ) pc = .ok (.invokevirtual idx, 3)) (rm : RM μ μ') (hst : (st.map fun v => v.category).sum ≤ 8) (hc : h a = some (eO ci fs)) (hcl : swCl[ci]? = some (C, T, sz)) (hC : C = (mY μ').cls) (hna : As.length = na) (h0 : st0 = As.reverse ++ .ref a :: st) (hk : k1 + k2 ≤ k) (hn : n1 + n2 ≤ n)
    (kk : ∀ (r : Option Value) (h' : AH) (N' : Nat), Q1 r h' N' → WS G s args Z μ k2 n2 h' N' (pc + 3) L (r.toList ++ st)) : WS G s args Z μ k n h N pc L st0 := by
  obtain ⟨c0, c1, c2, c3⟩ := cv
  subst hC
  refine WS.goC hk hn kk fun F a1 a2 a3 a4 hR hS hL => ⟨(Value.ref a :: As).toArray, ?_⟩
  have hK := F.2.2.2.2.2.2.2.2.2
  have hts := F.2.2.2.2.2.1
  refine va_runV (nL := mL μ) ⟨F.1, F.2.1, F.2.2.1, F.2.2.2.2.1, hts⟩ ct (cwV (Ts := AW) na hts (aw_goodIn ?_) rfl rfl rfl ⟨rfl, c0.2.2.1, c0.2.2.2.1, c0.2.2.2.2⟩ ⟨Nat.le_trans rm.1 a1, Nat.le_trans rm.2 a2⟩) ⟨CPc.blind, va_recv hK.2.1 (hR.P hc) hcl (q0 := 0) rfl, CPc.pre hK hS hR⟩ rfl hna hL.1 h0 (lv_room hst) d ⟨a3, a4⟩
  intro w hw
  rcases List.mem_append.mp hw with hw | hw
  · simp only [List.mem_cons, List.not_mem_nil, or_false] at hw
    rcases hw with rfl | rfl | rfl | rfl <;> first | exact c1 | exact c2 | exact c3 | exact c0.2.1
  · exact mW_in c0 w hw
theorem ws_callI {idx na a : Nat} {As : List Value} (ct : CT G μ' (.ref a :: As) h N k1 n1 Q1) (ci : CI (mY μ).cls idx μ' na) (d : decode (mC μ) pc = .ok (.invokespecial idx, 3)) (rm : RM μ μ') (hst : (st.map fun v => v.category).sum ≤ 8) (hna : As.length = na) (h0 : st0 = As.reverse ++ .ref a :: st) (hk : k1 + k2 ≤ k) (hn : n1 + n2 ≤ n)
    (kk : ∀ (r : Option Value) (h' : AH) (N' : Nat), Q1 r h' N' → WS G s args Z μ k2 n2 h' N' (pc + 3) L (r.toList ++ st)) : WS G s args Z μ k n h N pc L st0 := by
  obtain ⟨c0, c1, c2, c3, c4⟩ := ci
  refine WS.goC hk hn kk fun F a1 a2 a3 a4 hR hS hL => ⟨(Value.ref a :: As).toArray, ?_⟩
  have hK := F.2.2.2.2.2.2.2.2.2
  have hts := F.2.2.2.2.2.1
  refine va_runI (nL := mL μ) (bytes := mC μ') (maxL := mL μ') ⟨F.1, F.2.1, F.2.2.1, F.2.2.2.2.1, hts⟩ ct (cwI (Ts := AW) na hts (aw_goodIn (mW_in c0)) (ws' := AW) (by unfold mW; rw [c4]) rfl rfl (hts _ c0.2.1) (hts _ c1) (hts _ c2) c3 ⟨c0.2.2.1, c0.2.2.2.1, c0.2.2.2.2⟩ ⟨Nat.le_trans rm.1 a1, Nat.le_trans rm.2 a2⟩) ⟨CPc.blind, CPc.pre hK hS hR⟩ rfl hna hL.1 h0 (lv_room hst) d ⟨a3, a4⟩
theorem ws_callS {idx na : Nat} {As : List Value} (ct : CT G μ' As h N k1 n1 Q1) (cs : CS (mY μ).cls idx μ' na) (d : decode (mC μ) pc = .ok (.invokestatic idx, 3)) (rm : RM μ μ') (hst : (st.map fun v => v.category).sum ≤ 8) (hna : As.length = na) (h0 : st0 = As.reverse ++ st) (hk : k1 + k2 ≤ k) (hn : n1 + n2 ≤ n)
    (kk : ∀ (r : Option Value) (h' : AH) (N' : Nat), Q1 r h' N' → WS G s args Z μ k2 n2 h' N' (pc + 3) L (r.toList ++ st)) : WS G s args Z μ k n h N pc L st0 := by
  obtain ⟨c0, c1, c2⟩ := cs
  refine WS.goC hk hn kk fun F a1 a2 a3 a4 hR hS hL => ⟨As.toArray, ?_⟩
  have hK := F.2.2.2.2.2.2.2.2.2
  have hts := F.2.2.2.2.2.1
  refine va_runS (nL := mL μ) ⟨F.1, F.2.1, F.2.2.1, F.2.2.2.2.1, hts⟩ ct (va_cwS (Ts := AW) na hts (aw_goodIn ?_) rfl rfl rfl ⟨c0.2.2.1, c0.2.2.2.1, c0.2.2.2.2⟩ ⟨Nat.le_trans rm.1 a1, Nat.le_trans rm.2 a2⟩) ⟨CPc.blind, CPc.pre hK hS hR⟩ rfl hna hL.1 h0 (lv_room hst) d ⟨a3, a4⟩
  intro w hw
  rcases List.mem_append.mp hw with hw | hw
  · simp only [List.mem_cons, List.not_mem_nil, or_false] at hw
    rcases hw with rfl | rfl | rfl <;> first | exact c1 | exact c2 | exact c0.2.1
  · exact mW_in c0 w hw
theorem ws_callSH {idx na : Nat} {As : List Value} (ct : CH G μ' As h N k1 n1 Q1) (cs : CSH (mY μ).cls idx μ' na) (d : decode (mC μ) pc = .ok (.invokestatic idx, 3)) (rm : RM μ μ') (hst : (st.map fun v => v.category).sum ≤ 8) (hna : As.length = na) (h0 : st0 = As.reverse ++ st) (hk : k1 + k2 ≤ k) (hn : n1 + n2 ≤ n)
    (kk : ∀ (r : Option Value) (h' : AH) (N' : Nat), Q1 r h' N' → WS G s args Z μ k2 n2 h' N' (pc + 3) L (r.toList ++ st)) : WS G s args Z μ k n h N pc L st0 := by
  obtain ⟨c0, c1, c2⟩ := cs
  refine WS.goC hk hn kk fun F a1 a2 a3 a4 hR hS hL => ⟨As.toArray, ?_⟩
  have hK := F.2.2.2.2.2.2.2.2.2
  have hts := F.2.2.2.2.2.1
  refine vx_runSW (nL := mL μ) ⟨F.1, F.2.1, F.2.2.1, F.2.2.2.2.1, hts⟩ ct (vx_cwSW (Ts := AW) na hts (aw_goodIn ?_) rfl rfl rfl ⟨c0.2.2.1, c0.2.2.2.1, c0.2.2.2.2⟩ ⟨Nat.le_trans rm.1 a1, Nat.le_trans rm.2 a2⟩) ⟨CPc.blind, CPc.pre hK hS hR⟩ rfl hna hL.1 h0 (lv_room hst) d ⟨a3, a4⟩
  intro w hw
  rcases List.mem_append.mp hw with hw | hw
  · simp only [List.mem_cons, List.not_mem_nil, or_false] at hw
    rcases hw with rfl | rfl | rfl <;> first | exact c1 | exact c2 | exact c0.2.1
  · rcases List.mem_cons.mp hw with rfl | hw
    · exact c0.1
    · exact hw
theorem ws_ishrR {x : Int32} {y : Int} (d : decode (mC μ) pc = .ok (.ishr, 1)) (kk : WS G s args Z μ k n h N (pc + 1) L (.int (sh x y) :: st)) : WS G s args Z μ k n h N pc L (JV y :: .int x :: st) :=
  kk.go fun F _ _ _ _ _ _ _ w => lv_ishr F.1 F.2.1 d w
theorem WS.goS {pc' : Nat} {st' : List Value} (kk : WS G s args Z μ k n h N pc' L st')
    (hs : ∀ {p : Program} {e : Env} {R : Room} {m : MethodId} {below : List Frame} {meth : Method} {c : Code} {H : Heap} {locs : List Loc} {cells slots : Nat} {ls : Array Slot} {Z0 : State → Prop},
      FW G μ p s m args meth c → Rep G h N H → va_S (cF G) s.heap H locs → LR (mL μ) L ls → mF μ ≤ R.frames → mO μ ≤ R.locals → cells ≤ R.cells → slots ≤ R.slots → W p (cL G) e R s m args below meth c H locs cells slots Z0 (F0 m pc' ls st') → W p (cL G) e R s m args below meth c H locs cells slots Z0 (F0 m pc ls st)) : WS G s args Z μ k n h N pc L st := by
  intro p e R m below meth c H locs cells slots mc ms ls hE F a1 a2 a3 a4 a5 a6 hR hS hL
  exact hs F hR hS hL a1 a2 (by omega) (by omega) (kk p e R m below meth c H locs cells slots mc ms ls hE F a1 a2 a3 a4 a5 a6 hR hS hL)
theorem WS.goCS (hk : k1 + k2 ≤ k) (hn : n1 + n2 ≤ n) (kk : ∀ (r : Option Value) (h' : AH) (N' : Nat), Q1 r h' N' → WS G s args Z μ k2 n2 h' N' (pc + 3) L (r.toList ++ st))
    (hs : ∀ {p : Program} {e : Env} {R : Room} {m : MethodId} {below : List Frame} {meth : Method} {c : Code} {H : Heap} {locs : List Loc} {cells slots : Nat} {ls : Array Slot},
      FW G μ p s m args meth c → mF μ ≤ R.frames → mO μ ≤ R.locals → cells + k1 ≤ R.cells → slots + n1 ≤ R.slots → Rep G h N H → va_S (cF G) s.heap H locs → LR (mL μ) L ls →
      ∃ a : Array Value, va_Run p (cL G) e R s m args below meth c H locs cells slots k1 n1 (F0 m pc ls st0) st (SQ G Q1 a) (cF G)) : WS G s args Z μ k n h N pc L st0 := by
  intro p e R m below meth c H locs cells slots mc ms ls hE F a1 a2 a3 a4 a5 a6 hR hS hL
  obtain ⟨a, hrun⟩ := hs (e := e) (below := below) (cells := cells) (slots := slots) (R := R) F a1 a2 (by omega) (by omega) hR hS hL
  intro T hT Y
  obtain ⟨v, st₀, t, T', L9, e0, Y', hL9, e1, e2, ⟨⟨r, h', c1, c2, c3⟩, c4, c5⟩, sp⟩ := hrun T hT Y
  cases c1
  rw [e0] at c4 c5
  have hS1 : va_S (cF G) s.heap T'.heap (locs ++ L9) := ⟨Nat.le_trans hS.1 (by rw [e1]; exact c4), fun q h1 h2 => by rw [e1, c5 q (Nat.lt_of_lt_of_le h1 hS.1) h2]; exact hS.2.1 q h1 h2, fun q hq => by
      rcases List.mem_append.mp hq with z | z
      · exact hS.2.2 q z
      · exact hL9 q z⟩
  rw [← e1] at c2 c3
  obtain ⟨t2, b1, b2⟩ := kk v h' _ c2 p e R m below meth c T'.heap (locs ++ L9) (cells + k1) (slots + n1) mc ms ls hE F a1 a2 (by omega) (by omega) a5 a6 c3 hS1 hL T' rfl Y'
  exact ⟨t2, sp t2 b1, b2⟩
theorem WS.heq {h' : AH} (e : h' = h) (w : WS G s args Z μ k n h' N pc L st) : WS G s args Z μ k n h N pc L st := e ▸ w
/-- fewer locals are known -/
theorem ws_drop {L' : List (Option Value)} (e : ∀ (i : Nat) (v : Value), L'[i]? = some (some v) → L[i]? = some (some v)) (kk : WS G s args Z μ k n h N pc L' st) : WS G s args Z μ k n h N pc L st := by
  intro p e9 R m below meth c H locs cells slots mc ms ls hE F a1 a2 a3 a4 a5 a6 hR hS hL
  exact kk p e9 R m below meth c H locs cells slots mc ms ls hE F a1 a2 a3 a4 a5 a6 hR hS (lv_mono hL fun q hq => by
    obtain ⟨i, v⟩ := q
    exact mem_LA.mpr (e i v (mem_LA.mp hq)))
theorem ws_ndrop {L' : List (Option Value)} (e : ∀ i, i < L'.length → (L'[i]? = some none ∨ L'[i]? = L[i]?)) (kk : WS G s args Z μ k n h N pc L' st) : WS G s args Z μ k n h N pc L st :=
  ws_drop (fun i v hi => by
    rcases e i (List.getElem?_eq_some_iff.mp hi).1 with q | q
    · rw [q] at hi; cases hi
    · rw [← q]; exact hi) kk
theorem ws_lcmpS {x : Int64} (d : decode (mC μ) pc = .ok (.lcmp, 1)) (kk : WS G s args Z μ k n h N (pc + 1) L (JV 0 :: st)) : WS G s args Z μ k n h N pc L (.long x :: .long x :: st) :=
  kk.go fun F _ _ _ _ _ _ _ w => W.lcmp F.1 F.2.1 d (by
    have e : lg_cmp x x = 0 := by simp [lg_cmp]
    rw [e]; exact w)
theorem ws_icmpS {x : Int32} {off : Int} (tgt : Nat) (d : decode (mC μ) pc = .ok (.if_icmp .eq off, 3)) (ht : (pc : Int) + off = (tgt : Int)) (kk : WS G s args Z μ k n h N tgt L st) : WS G s args Z μ k n h N pc L (.int x :: .int x :: st) :=
  kk.go fun F _ _ _ _ _ _ _ w => lv_icmp_eq F.1 F.2.1 d ht (fun _ => w) (fun q => absurd rfl q)
theorem ws_if0 {off : Int} (tgt : Nat) (d : decode (mC μ) pc = .ok (.ifCond .eq off, 3)) (ht : (pc : Int) + off = (tgt : Int)) (kk : WS G s args Z μ k n h N tgt L st) : WS G s args Z μ k n h N pc L (JV 0 :: st) :=
  kk.go fun F _ _ _ _ _ _ _ w => lv_if_eq F.1 F.2.1 d ht (fun _ => w) (fun q => absurd rfl q)
/-! the script -/
variable {b Ls idx : Nat} {xs : Nat → Int32}
theorem ws_lstore {i : Nat} {x : Int64} (d : decode (mC μ) pc = .ok (.lstore i, 2)) (hi : i + 1 < mL μ) (ho : okS L i = true) (kk : WS G s args Z μ k n h N (pc + 2) ((L.set i (some (.long x))).set (i + 1) none) st) : WS G s args Z μ k n h N pc L (.long x :: st) :=
  kk.goL fun F hL w => lv_lstore F.1 F.2.1 d hL hi rfl fun ls' hl' => w ls' (LR.set2 ho hl')
theorem ws_lload {i : Nat} {x : Int64} (d : decode (mC μ) pc = .ok (.lload i, 2)) (hl : L[i]? = some (some (.long x))) (kk : WS G s args Z μ k n h N (pc + 2) L (.long x :: st)) : WS G s args Z μ k n h N pc L st :=
  kk.go fun F _ _ hL _ _ _ _ w => lv_lload F.1 F.2.1 d (hL.at hl) w
/-- a cell of the script is read -/
theorem ws_cell {k9 : Int} (hk : 0 ≤ k9 ∧ k9 ≤ 1000) (hX : va_X b Ls xs s s.heap) (hbl : b < s.heap.size) (hbA : b < cB G) (hLs : Ls ≤ 260) (cs : CS (mY μ).cls idx mL_cell 2) (d : decode (mC μ) pc = .ok (.invokestatic idx, 3)) (rm : RM μ mL_cell) (hst : (st.map fun v => v.category).sum ≤ 8)
    (kk : ∀ v : Int32, WS G s args Z μ k n h N (pc + 3) L (.int v :: st)) : WS G s args Z μ k n h N pc L (JV k9 :: .ref b :: st) := by
  obtain ⟨c0, c1, c2⟩ := cs
  refine WS.goCS (k1 := 0) (n1 := 0) (k2 := k) (n2 := n) (st := st) (Q1 := fun r h' N' => (∃ v : Int32, r = some (.int v)) ∧ h' = h ∧ N' = N) (by omega) (by omega) (fun r h' N' q => ?_) fun F a1 a2 a3 a4 hR hS hL => ⟨[Value.ref b, JV k9].toArray, ?_⟩
  · obtain ⟨⟨v, rfl⟩, rfl, rfl⟩ := q
    exact kk v
  have hK := F.2.2.2.2.2.2.2.2.2
  have hts := F.2.2.2.2.2.1
  have hA : ¬ cF G b := fun q => Nat.lt_irrefl _ (Nat.lt_of_lt_of_le hbA q)
  refine va_runS (nL := mL μ) ⟨F.1, F.2.1, F.2.2.1, F.2.2.2.2.1, hts⟩ (x_cell (N := N) (h := h) (Ls := Ls) (xs := xs) hk hLs) (va_cwS (Ts := AW) 2 hts (aw_goodIn ?_) rfl rfl rfl ⟨c0.2.2.1, c0.2.2.2.1, c0.2.2.2.2⟩ ⟨Nat.le_trans rm.1 a1, Nat.le_trans rm.2 a2⟩) ⟨CPx.blind, fun U hU hW => ⟨rfl, by rw [hU]; exact hR, hK.moved hW (by rw [hU]; exact hS.1) (by rw [hU]; exact hS.2.1), ?_, ?_, hbA⟩⟩ rfl rfl hL.1 rfl (lv_room hst) d ⟨a3, a4⟩
  · intro w hw
    rcases List.mem_append.mp hw with hw | hw
    · simp only [List.mem_cons, List.not_mem_nil, or_false] at hw
      rcases hw with rfl | rfl | rfl <;> first | exact c1 | exact c2 | exact c0.2.1
    · exact mW_in c0 w hw
  · exact (va_X.moved hW.alike hX).kept (by rw [hU]; exact hS.2.1 b hbl hA)
  · rw [hU]; exact Nat.lt_of_lt_of_le hbl hS.1
end WS

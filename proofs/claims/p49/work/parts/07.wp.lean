/-! ===== a method: name, bytes, locals, answer, frames and words of locals below it, handlers ===== -/
abbrev MI : Type := MethodName × ByteArray × Nat × Option FieldType × Nat × Nat × List (Nat × Nat × Nat × Nat)
abbrev mY (μ : MI) : MethodName := μ.1
abbrev mC (μ : MI) : ByteArray := μ.2.1
abbrev mL (μ : MI) : Nat := μ.2.2.1
abbrev mR (μ : MI) : Option FieldType := μ.2.2.2.1
abbrev mF (μ : MI) : Nat := μ.2.2.2.2.1
abbrev mO (μ : MI) : Nat := μ.2.2.2.2.2.1
abbrev mH (μ : MI) : List (Nat × Nat × Nat × Nat) := μ.2.2.2.2.2.2
def mW (μ : MI) : List Cond := Cond.code (mY μ) (mC μ) (mL μ) (mR μ) :: AW
def mWh (μ : MI) : List Cond := Cond.codeWith (mY μ) (mC μ) (mL μ) (mR μ) (mH μ) :: AW
abbrev mRm (μ : MI) (k n : Nat) : Room := { frames := mF μ, cells := k, slots := n, locals := mO μ }
/-- what a walk of the method's body stands on -/
def FX (G : Ctx) (μ : MI) (p : Program) (s : State) (m : MethodId) (args : Array Value) (meth : Method) (c : Code) : Prop :=
  p.tables.exec = Jvm.exec ∧ c.code = mC μ ∧ c.maxLocals = mL μ ∧ meth.sig.returnType = mR μ ∧ s.vm.findClass (mY μ).cls = some m.cls ∧ (∀ w ∈ AW, w.before args s = true) ∧ meth.locks = false ∧ meth.name = (mY μ).name ∧ c.exceptionTable.toList = tableOf (mH μ) ∧ KN G s
abbrev PQ : Type := Option Value → AH → Nat → Prop
abbrev PX : Type := String → AH → Nat → Prop
def noX : PX := fun _ _ _ => False
def SQ (G : Ctx) (Q : PQ) : Array Value → State → Outcome → State → Prop := fun _ st o t => (∃ (r : Option Value) (h' : AH), o = .returned r ∧ Q r h' t.heap.size ∧ Rep G h' t.heap.size t.heap) ∧ va_F (cF G) st t
def SX (G : Ctx) (X : PX) : String → State → State → Prop := fun E st t => (∃ h' : AH, X E h' t.heap.size ∧ Rep G h' t.heap.size t.heap) ∧ va_F (cF G) st t
/-- from pc, with the locals L and the stack st, over the heap h of N cells: the method comes to its end with Q, or throws with X, and makes at most k cells of n slots -/
def WP (G : Ctx) (μ : MI) (Q : PQ) (X : PX) (k n : Nat) (h : AH) (N : Nat) (pc : Nat) (L : List (Option Value)) (st : List Value) : Prop :=
  ∀ (p : Program) (e : Env) (R : Room) (s : State) (m : MethodId) (args : Array Value) (below : List Frame) (meth : Method) (c : Code) (H : Heap) (locs : List Loc) (cells slots mc ms : Nat) (ls : Array Slot),
    FX G μ p s m args meth c → mF μ ≤ R.frames → mO μ ≤ R.locals → cells + k ≤ mc → slots + n ≤ ms → mc ≤ R.cells → ms ≤ R.slots → Rep G h N H → va_S (cF G) s.heap H locs → LR (mL μ) L ls →
    W p (cL G) e R s m args below meth c H locs cells slots (vx_MQ below (SQ G Q) (SX G X) args s mc ms (cF G)) (F0 m pc ls st)
section Rules
variable {G : Ctx} {μ : MI} {Q : PQ} {X : PX} {k n : Nat} {h : AH} {N : Nat} {pc : Nat} {L : List (Option Value)} {st : List Value}
theorem WP.le {k' n' : Nat} (h1 : k' ≤ k) (h2 : n' ≤ n) (w : WP G μ Q X k' n' h N pc L st) : WP G μ Q X k n h N pc L st := by
  intro p e R s m args below meth c H locs cells slots mc ms ls F a1 a2 a3 a4
  exact w p e R s m args below meth c H locs cells slots mc ms ls F a1 a2 (by omega) (by omega)
theorem W.impl {p : Program} {l : Launch} {e : Env} {R : Room} {s : State} {m : MethodId} {args : Array Value} {below : List Frame} {meth : Method} {c : Code} {H : Heap} {locs : List Loc} {cells slots : Nat} {Z Z' : State → Prop} {g : JFrame} (w : W p l e R s m args below meth c H locs cells slots Z g) (i : ∀ t, Z t → Z' t) : W p l e R s m args below meth c H locs cells slots Z' g := by
  intro T hT Y
  obtain ⟨t, a, b⟩ := w T hT Y
  exact ⟨t, a, i t b⟩
theorem WP.weak {Q' : PQ} {X' : PX} (w : WP G μ Q' X' k n h N pc L st) (hq : ∀ r h1 N1, Q' r h1 N1 → Q r h1 N1) (hx : ∀ E h1 N1, X' E h1 N1 → X E h1 N1) : WP G μ Q X k n h N pc L st := by
  intro p e R s m args below meth c H locs cells slots mc ms ls F a1 a2 a3 a4 a5 a6 hR hS hL
  refine W.impl (w p e R s m args below meth c H locs cells slots mc ms ls F a1 a2 a3 a4 a5 a6 hR hS hL) fun t ht => ?_
  obtain ⟨o, b1, b2, b3⟩ := ht
  refine ⟨o, b1, b2, ?_⟩
  rcases b3 with ⟨⟨⟨r, h', c1, c2, c3⟩, c4⟩, c5⟩ | ⟨q, d1, E, ce, L9, ⟨⟨h', d2, d3⟩, d4⟩, d5⟩
  · exact Or.inl ⟨⟨⟨r, h', c1, hq _ _ _ c2, c3⟩, c4⟩, c5⟩
  · exact Or.inr ⟨q, d1, E, ce, L9, ⟨⟨h', hx _ _ _ d2, d3⟩, d4⟩, d5⟩
/-- a step that leaves heap and locals -/
theorem WP.go {pc' : Nat} {st' : List Value} (kk : WP G μ Q X k n h N pc' L st')
    (hs : ∀ {p : Program} {e : Env} {R : Room} {s : State} {m : MethodId} {args : Array Value} {below : List Frame} {meth : Method} {c : Code} {H : Heap} {locs : List Loc} {cells slots : Nat} {ls : Array Slot} {Z : State → Prop},
      FX G μ p s m args meth c → Rep G h N H → va_S (cF G) s.heap H locs → LR (mL μ) L ls → mF μ ≤ R.frames → mO μ ≤ R.locals → cells ≤ R.cells → slots ≤ R.slots → W p (cL G) e R s m args below meth c H locs cells slots Z (F0 m pc' ls st') → W p (cL G) e R s m args below meth c H locs cells slots Z (F0 m pc ls st)) : WP G μ Q X k n h N pc L st := by
  intro p e R s m args below meth c H locs cells slots mc ms ls F a1 a2 a3 a4 a5 a6 hR hS hL
  exact hs F hR hS hL a1 a2 (by omega) (by omega) (kk p e R s m args below meth c H locs cells slots mc ms ls F a1 a2 a3 a4 a5 a6 hR hS hL)
/-- a step that leaves the heap and stores a local -/
theorem WP.goL {pc' : Nat} {st' : List Value} {L' : List (Option Value)} (kk : WP G μ Q X k n h N pc' L' st')
    (hs : ∀ {p : Program} {e : Env} {R : Room} {s : State} {m : MethodId} {args : Array Value} {below : List Frame} {meth : Method} {c : Code} {H : Heap} {locs : List Loc} {cells slots : Nat} {ls : Array Slot} {Z : State → Prop},
      FX G μ p s m args meth c → LR (mL μ) L ls → (∀ ls' : Array Slot, LR (mL μ) L' ls' → W p (cL G) e R s m args below meth c H locs cells slots Z (F0 m pc' ls' st')) → W p (cL G) e R s m args below meth c H locs cells slots Z (F0 m pc ls st)) : WP G μ Q X k n h N pc L st := by
  intro p e R s m args below meth c H locs cells slots mc ms ls F a1 a2 a3 a4 a5 a6 hR hS hL
  exact hs F hL fun ls' hL' => kk p e R s m args below meth c H locs cells slots mc ms ls' F a1 a2 a3 a4 a5 a6 hR hS hL'
/-! constants, loads, stores -/
theorem wp_iconst {i : Int} (d : decode (mC μ) pc = .ok (.iconst i, 1)) (kk : WP G μ Q X k n h N (pc + 1) L (JV i :: st)) : WP G μ Q X k n h N pc L st :=
  kk.go fun F _ _ _ _ _ _ _ w => lv_iconst F.1 F.2.1 d rfl w
theorem wp_bipush {i : Int} (d : decode (mC μ) pc = .ok (.bipush i, 2)) (hv : (Int8.ofInt i).toInt32 = Int32.ofInt i) (kk : WP G μ Q X k n h N (pc + 2) L (JV i :: st)) : WP G μ Q X k n h N pc L st :=
  kk.go fun F _ _ _ _ _ _ _ w => lv_bipush F.1 F.2.1 d hv w
theorem wp_sipush {i : Int} (d : decode (mC μ) pc = .ok (.sipush i, 3)) (hv : (Int16.ofInt i).toInt32 = Int32.ofInt i) (kk : WP G μ Q X k n h N (pc + 3) L (JV i :: st)) : WP G μ Q X k n h N pc L st :=
  kk.go fun F _ _ _ _ _ _ _ w => lv_sipush F.1 F.2.1 d hv w
theorem wp_lconst {i : Fin 2} (d : decode (mC μ) pc = .ok (.lconst i, 1)) (kk : WP G μ Q X k n h N (pc + 1) L (.long (Int64.ofNat (i : Nat)) :: st)) : WP G μ Q X k n h N pc L st :=
  kk.go fun F _ _ _ _ _ _ _ w => lv_lconst F.1 F.2.1 d rfl w
theorem wp_iload_n {i : Fin 4} {x : Int32} (d : decode (mC μ) pc = .ok (.iload_n i, 1)) (hl : L[(i : Nat)]? = some (some (.int x))) (kk : WP G μ Q X k n h N (pc + 1) L (.int x :: st)) : WP G μ Q X k n h N pc L st :=
  kk.go fun F _ _ hL _ _ _ _ w => lv_iload_n F.1 F.2.1 d rfl (hL.at hl) w
theorem wp_iload {i : Nat} {x : Int32} (d : decode (mC μ) pc = .ok (.iload i, 2)) (hl : L[i]? = some (some (.int x))) (kk : WP G μ Q X k n h N (pc + 2) L (.int x :: st)) : WP G μ Q X k n h N pc L st :=
  kk.go fun F _ _ hL _ _ _ _ w => lv_iload F.1 F.2.1 d (hL.at hl) w
theorem wp_aload_n {i : Fin 4} {x : Nat} (d : decode (mC μ) pc = .ok (.aload_n i, 1)) (hl : L[(i : Nat)]? = some (some (.ref x))) (kk : WP G μ Q X k n h N (pc + 1) L (.ref x :: st)) : WP G μ Q X k n h N pc L st :=
  kk.go fun F _ _ hL _ _ _ _ w => lv_aload_n F.1 F.2.1 d rfl (hL.at hl) w
theorem wp_aload {i : Nat} {x : Nat} (d : decode (mC μ) pc = .ok (.aload i, 2)) (hl : L[i]? = some (some (.ref x))) (kk : WP G μ Q X k n h N (pc + 2) L (.ref x :: st)) : WP G μ Q X k n h N pc L st :=
  kk.go fun F _ _ hL _ _ _ _ w => lv_aload F.1 F.2.1 d (hL.at hl) w
theorem wp_lload_n {i : Fin 4} {x : Int64} (d : decode (mC μ) pc = .ok (.lload_n i, 1)) (hl : L[(i : Nat)]? = some (some (.long x))) (kk : WP G μ Q X k n h N (pc + 1) L (.long x :: st)) : WP G μ Q X k n h N pc L st :=
  kk.go fun F _ _ hL _ _ _ _ w => lv_lload_n F.1 F.2.1 d rfl (hL.at hl) w
theorem wp_dload {i : Nat} {x : UInt64} (d : decode (mC μ) pc = .ok (.dload i, 2)) (hl : L[i]? = some (some (.double x))) (kk : WP G μ Q X k n h N (pc + 2) L (.double x :: st)) : WP G μ Q X k n h N pc L st :=
  kk.go fun F _ _ hL _ _ _ _ w => lv_dload F.1 F.2.1 d (hL.at hl) w
theorem wp_istore_n {i : Fin 4} {x : Int32} (d : decode (mC μ) pc = .ok (.istore_n i, 1)) (hi : (i : Nat) < mL μ) (ho : okS L (i : Nat) = true) (kk : WP G μ Q X k n h N (pc + 1) (L.set (i : Nat) (some (.int x))) st) : WP G μ Q X k n h N pc L (.int x :: st) :=
  kk.goL fun F hL w => lv_istore_n F.1 F.2.1 d rfl hL hi rfl fun ls' hl' => w ls' (LR.set1 ho hl')
theorem wp_istore {i : Nat} {x : Int32} (d : decode (mC μ) pc = .ok (.istore i, 2)) (hi : i < mL μ) (ho : okS L i = true) (kk : WP G μ Q X k n h N (pc + 2) (L.set i (some (.int x))) st) : WP G μ Q X k n h N pc L (.int x :: st) :=
  kk.goL fun F hL w => lv_istore F.1 F.2.1 d hL hi rfl fun ls' hl' => w ls' (LR.set1 ho hl')
theorem wp_astore_n {i : Fin 4} {x : Nat} (d : decode (mC μ) pc = .ok (.astore_n i, 1)) (hi : (i : Nat) < mL μ) (ho : okS L (i : Nat) = true) (kk : WP G μ Q X k n h N (pc + 1) (L.set (i : Nat) (some (.ref x))) st) : WP G μ Q X k n h N pc L (.ref x :: st) :=
  kk.goL fun F hL w => lv_astore_n F.1 F.2.1 d rfl hL hi rfl fun ls' hl' => w ls' (LR.set1 ho hl')
theorem wp_astore {i : Nat} {x : Nat} (d : decode (mC μ) pc = .ok (.astore i, 2)) (hi : i < mL μ) (ho : okS L i = true) (kk : WP G μ Q X k n h N (pc + 2) (L.set i (some (.ref x))) st) : WP G μ Q X k n h N pc L (.ref x :: st) :=
  kk.goL fun F hL w => lv_astore F.1 F.2.1 d hL hi rfl fun ls' hl' => w ls' (LR.set1 ho hl')
theorem wp_lstore_n {i : Fin 4} {x : Int64} (d : decode (mC μ) pc = .ok (.lstore_n i, 1)) (hi : (i : Nat) + 1 < mL μ) (ho : okS L (i : Nat) = true) (kk : WP G μ Q X k n h N (pc + 1) ((L.set (i : Nat) (some (.long x))).set ((i : Nat) + 1) none) st) : WP G μ Q X k n h N pc L (.long x :: st) :=
  kk.goL fun F hL w => lv_lstore_n F.1 F.2.1 d rfl hL hi rfl fun ls' hl' => w ls' (LR.set2 ho hl')
theorem wp_dstore {i : Nat} {x : UInt64} (d : decode (mC μ) pc = .ok (.dstore i, 2)) (hi : i + 1 < mL μ) (ho : okS L i = true) (kk : WP G μ Q X k n h N (pc + 2) ((L.set i (some (.double x))).set (i + 1) none) st) : WP G μ Q X k n h N pc L (.double x :: st) :=
  kk.goL fun F hL w => lv_dstore F.1 F.2.1 d hL hi rfl fun ls' hl' => w ls' (LR.set2 ho hl')
theorem lv_iincL {p : Program} {l : Launch} {e : Env} {R : Room} {s : State} {m : MethodId} {args : Array Value} {below : List Frame} {meth : Method} {c : Code} {H : Heap} {locs : List Loc} {cells slots : Nat} {Z : State → Prop} {cc : ByteArray} {ls : Array Slot} {rest : List Value} (hexec : p.tables.exec = Jvm.exec) (hb : c.code = cc) {i nL : Nat} {j : Int} {x : Int32} {lv : List (Nat × Value)} (hdg : decode cc pc = .ok (.iinc i j, 3)) (hh : lv_has ls nL lv) (hk : (i, Value.int x) ∈ lv) (hn : i < nL)
    (kk : ∀ ls' : Array Slot, lv_has ls' nL ((i, Value.int (x + Int32.ofInt j)) :: lv.filter (fun q => !(q.1 == i) && !(q.1 + 1 == i && q.2.category == 2))) → W p l e R s m args below meth c H locs cells slots Z (F0 m (pc + 3) ls' rest)) : W p l e R s m args below meth c H locs cells slots Z (F0 m pc ls rest) := by
  obtain ⟨a, ha⟩ := List.getElem?_of_mem hk
  exact lv_iinc hexec hb hdg hh ha rfl hn rfl kk
theorem wp_iinc {i : Nat} {j x : Int} (d : decode (mC μ) pc = .ok (.iinc i j, 3)) (hl : L[i]? = some (some (JV x))) (hi : i < mL μ) (ho : okS L i = true) (kk : WP G μ Q X k n h N (pc + 3) (L.set i (some (JV (x + j)))) st) : WP G μ Q X k n h N pc L st :=
  kk.goL fun F hL w => lv_iincL F.1 F.2.1 d hL (mem_LA.mpr hl) hi fun ls' hl' => w ls' (LR.set1 ho (by rw [← Int32.ofInt_add] at hl'; exact hl'))
/-! arithmetic -/
theorem wp_iadd {x y : Int} (d : decode (mC μ) pc = .ok (.iadd, 1)) (kk : WP G μ Q X k n h N (pc + 1) L (JV (x + y) :: st)) : WP G μ Q X k n h N pc L (JV y :: JV x :: st) :=
  kk.go fun F _ _ _ _ _ _ _ w => lv_iadd F.1 F.2.1 d (by rw [← Int32.ofInt_add]; exact w)
theorem wp_isub {x y : Int} (d : decode (mC μ) pc = .ok (.isub, 1)) (kk : WP G μ Q X k n h N (pc + 1) L (JV (x - y) :: st)) : WP G μ Q X k n h N pc L (JV y :: JV x :: st) :=
  kk.go fun F _ _ _ _ _ _ _ w => lv_isub F.1 F.2.1 d (by rw [← Int32.ofInt_sub]; exact w)
theorem wp_imul {x y : Int} (d : decode (mC μ) pc = .ok (.imul, 1)) (kk : WP G μ Q X k n h N (pc + 1) L (JV (x * y) :: st)) : WP G μ Q X k n h N pc L (JV y :: JV x :: st) :=
  kk.go fun F _ _ _ _ _ _ _ w => lv_imul F.1 F.2.1 d (by rw [← Int32.ofInt_mul]; exact w)
theorem wp_ineg {x : Int} (d : decode (mC μ) pc = .ok (.ineg, 1)) (kk : WP G μ Q X k n h N (pc + 1) L (JV (-x) :: st)) : WP G μ Q X k n h N pc L (JV x :: st) :=
  kk.go fun F _ _ _ _ _ _ _ w => lv_ineg F.1 F.2.1 d (by rw [← Int32.ofInt_neg]; exact w)
end Rules

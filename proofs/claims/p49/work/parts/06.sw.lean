/-! ===== THE LAYER: one predicate WP over the machine, with the heap as a function from addresses to cells ===== -/
/-- the words that every method of ours is given: those of the tables that keep -/
def AW : List Cond := lw_tbl.filter goodWord
theorem aw_t {w : Cond} (i : Nat) (h : tables_1[i]? = some w) (hg : goodWord w = true) : w ∈ AW :=
  List.mem_filter.mpr ⟨List.mem_append_right _ (List.mem_of_getElem? h), hg⟩
theorem aw_s {w : Cond} (i : Nat) (h : (k2_sels lw_privs)[i]? = some w) (hg : goodWord w = true) : w ∈ AW :=
  List.mem_filter.mpr ⟨List.mem_append_left _ (List.mem_of_getElem? h), hg⟩
theorem aw_good : GoodIn AW AW := fun w h => ⟨h, good_of_word (List.mem_filter.mp h).2⟩
theorem aw_goodIn {ws : List Cond} (h : ∀ w ∈ ws, w ∈ AW) : GoodIn AW ws := fun w hw => aw_good w (h w hw)
/-- the classes whose objects the worlds hold -/
abbrev swCl : List vw_C := [(RX0, TX0, 3), (RX1, TX1, 2), (RX2, TX2, 5), (RX3, TX3, 7), (RX4, TX4, 4), (RX5, TX5, 2), (RX6, TX6, 5), (RX7, TX7, 2), (RX8, TX8, 9), (RX9, TX9, 8), (RX10, TX10, 8)]
/-- launch, classes' numbers and slots, the arrays' classes, the first address that is the law's own, the texts' addresses -/
abbrev Ctx : Type := Launch × va_G × (Nat → ClassId) × Nat × (Nat → Nat)
abbrev cL (G : Ctx) : Launch := G.1
abbrev cD (G : Ctx) : va_G := G.2.1
abbrev cA (G : Ctx) : Nat → ClassId := G.2.2.1
abbrev cB (G : Ctx) : Nat := G.2.2.2.1
abbrev cS (G : Ctx) : Nat → Nat := G.2.2.2.2
abbrev cF (G : Ctx) : Nat → Prop := fun q => cB G ≤ q
abbrev AH : Type := Nat → Option va_E
def hup (h : AH) (a : Nat) (e : va_E) : AH := fun q => if q = a then some e else h q
theorem hup_self (h : AH) (a : Nat) (e : va_E) : hup h a e a = some e := if_pos rfl
theorem hup_ne {h : AH} {a b : Nat} {e : va_E} (hn : b ≠ a) : hup h a e b = h b := if_neg hn
abbrev J (i : Int) : Int32 := Int32.ofInt i
abbrev JV (i : Int) : Value := .int (Int32.ofInt i)
def InR (i : Int) : Prop := -2147483648 ≤ i ∧ i < 2147483648
theorem J_toInt {i : Int} (h : InR i) : (Int32.ofInt i).toInt = i := Int32.toInt_ofInt_of_le h.1 h.2
abbrev swTY : List FieldType := [.int, .boolean, .int, .int, .array .int, .object RX0, .object RX1, .object RX9, .object RX4]
abbrev swTys (a : Nat → ClassId) : List (ClassId × FieldType) := [(a 0, .int), (a 1, .boolean), (a 2, .int), (a 3, .int), (a 4, .array .int), (a 5, .object RX0), (a 6, .object RX1), (a 7, .object RX9), (a 8, .object RX4)]
/-- the words that don't keep of themselves -/
abbrev swNW : List Cond := [.methodLinkNest RX8 43 yX0_init RX10, .methodLinkNest RX8 44 yX1_init RX10, .methodLinkNest RX8 45 yX9_init RX10, .methodLinkNest RX8 46 yX4_init RX10, .methodLinkNest RX6 11 yX7_init RX10, .methodLinkNest RX3 11 yX7_init RX10, .methodLinkNest RX3 20 yX5_init RX10, .methodLinkNest RX10 34 yX5_init RX10, .methodLinkNest RX2 11 yX7_init RX10, .methodLinkNest RX2 36 yX0_init RX10, .methodLinkNest RX5 47 yX10_isWithin RX10]
abbrev swCA : List (String × String) := [("java/lang/IllegalArgumentException", "java/lang/IllegalArgumentException"), ("java/lang/IndexOutOfBoundsException", "java/lang/IndexOutOfBoundsException"), ("java/lang/IllegalStateException", "java/lang/IllegalStateException")]
abbrev swNC : List (String × String) := [("java/lang/IllegalArgumentException", "java/lang/IndexOutOfBoundsException"), ("java/lang/IllegalStateException", "java/lang/IndexOutOfBoundsException"), ("java/lang/IllegalArgumentException", "java/lang/IllegalStateException")]
abbrev swDE : List MethodName := [⟨"java/lang/RuntimeException", "<init>", "()V"⟩, ⟨"java/lang/RuntimeException", "<init>", "(Ljava/lang/String;)V"⟩, ⟨"java/lang/Exception", "<init>", "()V"⟩, ⟨"java/lang/Exception", "<init>", "(Ljava/lang/String;)V"⟩, ⟨"java/lang/Throwable", "<init>", "()V"⟩, ⟨"java/lang/Throwable", "<init>", "(Ljava/lang/String;)V"⟩]
abbrev swST : List (Nat × String) := [(278, "there is no such one"), (285, "a number is outside its bounds"), (290, "this can not be added")]
/-- an int[][] is an array of int[] -/
def swAOI (U : State) : Prop := (Cond.arrayOver (.array .int)).before #[] U = true
theorem swAOI.moved {u U : State} (hvm : u.vm.Alike U.vm) (h : swAOI u) : swAOI U := by
  have h1 : (Cond.arrayOver (.array .int)).before #[] (u.setVm U.vm) = true := (Cond.arrayOver_setVmC hvm (.array .int)).trans h
  exact h1
def swII (a0 a4 : ClassId) (U : State) : Prop := ∃ k0 k4 : Class, U.vm.classes[a0]? = some k0 ∧ U.vm.classes[a4]? = some k4 ∧ k4.kind = .array a0 (.array .int) ∧ (∃ c, k0.kind = .array c .int) ∧ swAOI U
theorem swII.moved {a0 a4 : ClassId} {u U : State} (hvm : u.vm.Alike U.vm) (h : swII a0 a4 u) : swII a0 a4 U := by
  obtain ⟨k0, k4, h0, h4, h1, ⟨c, h2⟩, h3⟩ := h
  obtain ⟨k0', g0, e0⟩ := hvm.2.2 _ _ h0
  obtain ⟨k4', g4, e4⟩ := hvm.2.2 _ _ h4
  exact ⟨k0', k4', g0, g4, by rw [e4]; exact h1, ⟨c, by rw [e0]; exact h2⟩, h3.moved hvm⟩
/-- what is known of a state's tables, and of the statics that a throw reads -/
def KN (G : Ctx) (s : State) : Prop :=
  (cL G).stackTraces = false ∧ va_K (cD G) swCl (swTys (cA G)) s ∧ (∀ w ∈ swNW, va_Nw w s) ∧ (∀ q ∈ swCA, va_Nw (.castable q.1 q.2) s) ∧ (∀ x ∈ swDE, va_Nw (.declares x) s) ∧
  (∀ q ∈ swNC, va_Nc q.1 q.2 s) ∧ (∀ C ∈ [RX0, RX1, RX9, RX4], va_AO C s) ∧ (∀ q ∈ swST, vk_R RX10 q.1 q.2 (cS G q.1) s) ∧ swII (cA G 0) (cA G 4) s ∧
  vx_Zq Bundle.tN "UNASSIGNED_STACK" Bundle.steD (cF G) s s.heap ∧ vx_Zq Bundle.tN "SUPPRESSED_SENTINEL" Bundle.listD (cF G) s s.heap ∧ cB G ≤ s.heap.size
theorem KN.moved {G : Ctx} {s U : State} (h : KN G s) (hW : s.WarmedH U.vm) (hz : s.heap.size ≤ U.heap.size) (hk : ∀ a : Nat, a < s.heap.size → ¬ cF G a → U.heap[a]? = s.heap[a]?) : KN G U := by
  obtain ⟨h1, h2, h3, h4, h5, h6, h7, h8, h9, h10, h11, h12⟩ := h
  refine ⟨h1, h2.moved hW.alike, fun w hw => ?_, fun q hq => (h4 q hq).warmC hW, fun x hx => (h5 x hx).warmD hW, fun q hq => (h6 q hq).moved hW.alike, fun C hC => (h7 C hC).moved hW.alike, fun q hq => (h8 q hq).warm hW, h9.moved hW.alike, (h10.moved hW.alike).kept hk, (h11.moved hW.alike).kept hk, Nat.le_trans h12 hz⟩
  have h := h3 w hw
  simp only [List.mem_cons, List.not_mem_nil, or_false] at hw
  rcases hw with rfl | rfl | rfl | rfl | rfl | rfl | rfl | rfl | rfl | rfl | rfl <;> exact h.warmM hW
theorem KN.blind {G : Ctx} {U : State} (h : KN G U) (g : JFrame) (mk : MethodId) (a : Array Value) : KN G (U.calling g mk a) := by
  obtain ⟨h1, h2, h3, h4, h5, h6, h7, h8, h9, h10, h11, h12⟩ := h
  have hA : U.vm.Alike (U.calling g mk a).vm := Vm.Alike.refl U.vm
  refine ⟨h1, h2.moved hA, fun w hw => ?_, fun q hq => (h4 q hq).same rfl rfl, fun x hx => (h5 x hx).same rfl rfl, fun q hq => (h6 q hq).moved hA, fun C hC => (h7 C hC).moved hA, fun q hq => (h8 q hq).same rfl, h9.moved hA, h10.moved hA, h11.moved hA, h12⟩
  have h := h3 w hw
  simp only [List.mem_cons, List.not_mem_nil, or_false] at hw
  rcases hw with rfl | rfl | rfl | rfl | rfl | rfl | rfl | rfl | rfl | rfl | rfl <;> exact h.same rfl rfl
/-- the real heap H, of N cells, holds what h says -/
def Rep (G : Ctx) (h : AH) (N : Nat) (H : Heap) : Prop := H.size = N ∧ ∀ (a : Nat) (e : va_E), h a = some e → cB G ≤ a ∧ va_at (cD G) swCl (a, e) H
theorem Rep.P {G : Ctx} {h : AH} {N : Nat} {H : Heap} (hR : Rep G h N H) {a : Nat} {e : va_E} (he : h a = some e) : va_P (cD G) swCl [(a, e)] H := by
  intro k q hq
  have h0 : k < 1 := (List.getElem?_eq_some_iff.mp hq).1
  rw [show k = 0 by omega] at hq
  cases hq
  exact (hR.2 a e he).2
theorem Rep.lt {G : Ctx} {h : AH} {N : Nat} {H : Heap} (hR : Rep G h N H) {a : Nat} {e : va_E} (he : h a = some e) : a < N := by
  have := (hR.2 a e he).2.lt
  rw [hR.1] at this
  exact this
theorem Rep.set {G : Ctx} {h : AH} {N a : Nat} {e0 e : va_E} {H H1 : Heap} (hR : Rep G h N H) (h0 : h a = some e0) (z : H1.size = H.size) (he : va_at (cD G) swCl (a, e) H1) (oq : ∀ q : Nat, q ≠ a → H1[q]? = H[q]?) : Rep G (hup h a e) N H1 := by
  refine ⟨z.trans hR.1, fun b e2 hb => ?_⟩
  by_cases hba : b = a
  · subst hba
    rw [hup_self] at hb
    cases hb
    exact ⟨(hR.2 _ _ h0).1, he⟩
  · rw [hup_ne hba] at hb
    exact ⟨(hR.2 _ _ hb).1, (hR.2 _ _ hb).2.kept (oq b hba)⟩
theorem Rep.new {G : Ctx} {h : AH} {N M : Nat} {e : va_E} {H H1 : Heap} (hR : Rep G h N H) (hB : cB G ≤ N) (z : H1.size = M) (he : va_at (cD G) swCl (N, e) H1) (oq : ∀ q : Nat, q < N → H1[q]? = H[q]?) : Rep G (hup h N e) M H1 := by
  refine ⟨z, fun b e2 hb => ?_⟩
  by_cases hba : b = N
  · subst hba
    rw [hup_self] at hb
    cases hb
    exact ⟨hB, he⟩
  · rw [hup_ne hba] at hb
    exact ⟨(hR.2 _ _ hb).1, (hR.2 _ _ hb).2.kept (oq b (hR.lt hb))⟩
theorem Rep.grow {G : Ctx} {h : AH} {N M : Nat} {H H1 : Heap} (hR : Rep G h N H) (z : H1.size = M) (oq : ∀ q : Nat, q < N → H1[q]? = H[q]?) : Rep G h M H1 :=
  ⟨z, fun b e2 hb => ⟨(hR.2 _ _ hb).1, (hR.2 _ _ hb).2.kept (oq b (hR.lt hb))⟩⟩
/-! locals -/
def LA (L : List (Option Value)) : List (Nat × Value) := L.zipIdx.filterMap (fun q => q.1.map (fun v => (q.2, v)))
theorem mem_LA {L : List (Option Value)} {i : Nat} {v : Value} : (i, v) ∈ LA L ↔ L[i]? = some (some v) := by
  unfold LA
  constructor
  · intro h
    obtain ⟨q, hq, he⟩ := List.mem_filterMap.mp h
    obtain ⟨o, j⟩ := q
    have h1 := List.mem_zipIdx_iff_getElem?.mp hq
    cases o with
    | none => cases he
    | some w =>
      have e2 : (j, w) = (i, v) := Option.some.inj he
      cases e2
      exact h1
  · intro h
    exact List.mem_filterMap.mpr ⟨(some v, i), List.mem_zipIdx_iff_getElem?.mpr h, rfl⟩
def LR (nL : Nat) (L : List (Option Value)) (ls : Array Slot) : Prop := lv_has ls nL (LA L)
theorem LR.at {nL : Nat} {L : List (Option Value)} {ls : Array Slot} (h : LR nL L ls) {i : Nat} {v : Value} (hi : L[i]? = some (some v)) : ls[i]? = some (.val v) := h.2.2 (i, v) (mem_LA.mpr hi)
theorem lv_mono {ls : Array Slot} {nL : Nat} {l l' : List (Nat × Value)} (h : lv_has ls nL l) (hs : ∀ q ∈ l', q ∈ l) : lv_has ls nL l' := ⟨h.1, h.2.1, fun q hq => h.2.2 q (hs q hq)⟩
/-- the local ahead of i is no long or double -/
def okS (L : List (Option Value)) (i : Nat) : Bool := match i with
  | 0 => true
  | j + 1 => match L[j]? with
    | some (some v) => v.category == 1
    | _ => true
theorem LR.set1 {nL : Nat} {L : List (Option Value)} {ls : Array Slot} {i : Nat} {v : Value} (ho : okS L i = true)
    (h : lv_has ls nL ((i, v) :: (LA L).filter (fun q => !(q.1 == i) && !(q.1 + 1 == i && q.2.category == 2)))) : LR nL (L.set i (some v)) ls := by
  refine lv_mono h fun q hq => ?_
  obtain ⟨j, w⟩ := q
  have hj := mem_LA.mp hq
  by_cases hji : j = i
  · subst hji
    have hl : j < L.length := by
      have := (List.getElem?_eq_some_iff.mp hj).1
      simpa using this
    rw [List.getElem?_set_self hl] at hj
    cases hj
    exact List.mem_cons_self
  · rw [List.getElem?_set_ne (Ne.symm hji)] at hj
    refine List.mem_cons_of_mem _ (List.mem_filter.mpr ⟨mem_LA.mpr hj, ?_⟩)
    by_cases h1 : j + 1 = i
    · subst h1
      simp only [okS, hj] at ho
      have hc : w.category = 1 := by simpa using ho
      simp [hji, hc]
    · simp [hji, h1]
theorem LR.set2 {nL : Nat} {L : List (Option Value)} {ls : Array Slot} {i : Nat} {v : Value} (ho : okS L i = true)
    (h : lv_has ls nL ((i, v) :: (LA L).filter (fun q => !(q.1 == i) && (!(q.1 == i + 1) && !(q.1 + 1 == i && q.2.category == 2))))) : LR nL ((L.set i (some v)).set (i + 1) none) ls := by
  refine lv_mono h fun q hq => ?_
  obtain ⟨j, w⟩ := q
  have hj := mem_LA.mp hq
  by_cases hj1 : j = i + 1
  · subst hj1
    exfalso
    have hl : i + 1 < ((L.set i (some v)).set (i + 1) none).length := (List.getElem?_eq_some_iff.mp hj).1
    rw [List.getElem?_set_self (by simpa using hl)] at hj
    cases hj
  rw [List.getElem?_set_ne (Ne.symm hj1)] at hj
  by_cases hji : j = i
  · subst hji
    have hl : j < L.length := by
      have := (List.getElem?_eq_some_iff.mp hj).1
      simpa using this
    rw [List.getElem?_set_self hl] at hj
    cases hj
    exact List.mem_cons_self
  · rw [List.getElem?_set_ne (Ne.symm hji)] at hj
    refine List.mem_cons_of_mem _ (List.mem_filter.mpr ⟨mem_LA.mpr hj, ?_⟩)
    by_cases h1 : j + 1 = i
    · subst h1
      simp only [okS, hj] at ho
      have hc : w.category = 1 := by simpa using ho
      simp [hji, hj1, hc]
    · simp [hji, h1, hj1]

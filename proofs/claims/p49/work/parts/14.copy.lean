/-! ===== System.arraycopy ===== -/
abbrev wArr : Prop := (Cond.native arraycopyName ∈ AW ∧ Cond.static arraycopyName ∈ AW) ∧ Cond.initialized "java/lang/System" ∈ AW
section Rules8
variable {G : Ctx} {μ : MI} {Q : PQ} {X : PX} {k n : Nat} {h : AH} {N : Nat} {pc : Nat} {L : List (Option Value)} {st : List Value}
theorem nn_of {z : Int32} (hz : ¬ z < 0) : z.toInt = (z.toNatClampNeg : Int) := by
  have hz0 : (0 : Int) ≤ z.toInt := by
    have := Int32.not_lt.mp hz
    simpa using Int32.le_iff_toInt_le.mp this
  show z.toInt = ((z.toInt.toNat : Nat) : Int)
  omega
theorem copy_set {G : Ctx} {h : AH} {N a : Nat} {e0 e : va_E} {c1 : ClassId} {x : vp_A} {H : Heap} (he : e = .inl (c1, x)) (hR : Rep G h N H) (h0 : h a = some e0) : Rep G (hup h a e) N (H.setIfInBounds a (vp_cell c1 x)) := by
  subst he
  refine hR.set h0 (by simp) ?_ fun q hq => by simp [Array.getElem?_setIfInBounds, Ne.symm hq]
  show (H.setIfInBounds a _)[a]? = some _
  have hl : a < H.size := by rw [hR.1]; exact hR.lt h0
  simp [Array.getElem?_setIfInBounds, hl]
theorem copy_S {A : Nat → Prop} {H0 H : Heap} {locs : List Loc} {a : Nat} {x : Cell} {zs : List (Value × Nat)} {dp : Nat} (hS : va_S A H0 H locs) (hA : A a) : va_S A H0 (H.setIfInBounds a x) (locs ++ zs.map fun q => (⟨a, dp + q.2⟩ : Loc)) := by
  refine ⟨by simp; exact hS.1, fun q g1 g2 => ?_, fun q hq => ?_⟩
  · have : q ≠ a := fun e => g2 (by rw [e]; exact hA)
    rw [show (H.setIfInBounds a x)[q]? = H[q]? by simp [Array.getElem?_setIfInBounds, Ne.symm this]]
    exact hS.2.1 q g1 g2
  · rcases List.mem_append.mp hq with h | h
    · exact hS.2.2 q h
    · obtain ⟨z, -, hz⟩ := List.mem_map.mp h
      rw [← hz]
      exact hA
theorem WP.goH2 {pc' : Nat} {st' : List Value} {a : Nat} {e : va_E} (kk : WP G μ Q X k n (hup h a e) N pc' L st')
    (hs : ∀ {p : Program} {e1 : Env} {R : Room} {s : State} {m : MethodId} {args : Array Value} {below : List Frame} {meth : Method} {c : Code} {H : Heap} {locs : List Loc} {cells slots : Nat} {ls : Array Slot} {Z : State → Prop},
      FX G μ p s m args meth c → mF μ ≤ R.frames → mO μ ≤ R.locals → LR (mL μ) L ls → Rep G h N H → va_S (cF G) s.heap H locs → (∀ (H1 : Heap) (locs1 : List Loc), Rep G (hup h a e) N H1 → va_S (cF G) s.heap H1 locs1 → W p (cL G) e1 R s m args below meth c H1 locs1 cells slots Z (F0 m pc' ls st')) → W p (cL G) e1 R s m args below meth c H locs cells slots Z (F0 m pc ls st)) : WP G μ Q X k n h N pc L st := by
  intro p e R s m args below meth c H locs cells slots mc ms ls F a1 a2 a3 a4 a5 a6 hR hS hL
  exact hs F a1 a2 hL hR hS fun H1 locs1 hR1 hS1 => kk p e R s m args below meth c H1 locs1 cells slots mc ms ls F a1 a2 a3 a4 a5 a6 hR1 hS1 hL
theorem wp_copyI {idx a a0 n0 n1 : Nat} {f g : Nat → Int} {sp dp len : Int} (d : decode (mC μ) pc = .ok (.invokestatic idx, 3)) (hl : Cond.methodLink (mY μ).cls idx arraycopyName ∈ AW) (hw : wArr) (hf : 1 ≤ mF μ) (ho : (st.map fun v => v.category).sum + (nativeFrameWords "java/lang/System" "arraycopy" 5 + 11) ≤ mO μ)
    (t : Nat) (ty : FieldType) (ht : swTY[t]? = some ty) (hty : ty = .int ∨ (ty = .boolean ∧ ∀ i, i < len.toNat → f (sp.toNat + i) = 0 ∨ f (sp.toNat + i) = 1))
    (hc0 : h a0 = some (.inl (cA G t, n0, .inl (fun j => Int32.ofInt (f j))))) (hc1 : h a = some (.inl (cA G t, n1, .inl (fun j => Int32.ofInt (g j))))) (h1 : 0 ≤ sp) (h2 : 0 ≤ dp) (h3 : 0 ≤ len) (h4 : sp + len ≤ (n0 : Int)) (h5 : dp + len ≤ (n1 : Int)) (h6 : n0 < 100000) (h7 : n1 < 100000)
    (kk : WP G μ Q X k n (hup h a (.inl (cA G t, n1, .inl (fun j => Int32.ofInt (va_cpy f g sp.toNat dp.toNat len.toNat j))))) N (pc + 3) L st) : WP G μ Q X k n h N pc L (JV len :: JV dp :: .ref a :: JV sp :: .ref a0 :: st) := by
  refine kk.goH2 (fun {p e1 R s m args below meth c H locs cells slots ls Z} F a1 a2 hL hR hS w => ?_)
  have hK := F.2.2.2.2.2.2.2.2.2
  have hts := F.2.2.2.2.2.1
  have ht2 := swTys_at (a := cA G) ht
  have e1 : (Int32.ofInt sp).toNatClampNeg = sp.toNat := J_clamp h1 (by omega)
  have e2 : (Int32.ofInt dp).toNatClampNeg = dp.toNat := J_clamp h2 (by omega)
  have e3 : (Int32.ofInt len).toNatClampNeg = len.toNat := J_clamp h3 (by omega)
  have g1 : ¬ Int32.ofInt sp < 0 := fun q => (J_in (x := sp) (n := sp.toNat + 1) h1 (by omega) (by omega)) (Or.inl q)
  have g2 : ¬ Int32.ofInt dp < 0 := fun q => (J_in (x := dp) (n := dp.toNat + 1) h2 (by omega) (by omega)) (Or.inl q)
  have g3 : ¬ Int32.ofInt len < 0 := fun q => (J_in (x := len) (n := len.toNat + 1) h3 (by omega) (by omega)) (Or.inl q)
  intro T hT Y
  have hq0 : H[a0]? = some (vp_cell (cA G t) (n0, .inl (fun j => Int32.ofInt (f j)))) := hR.P hc0 0 _ rfl
  have hq1 : H[a]? = some (vp_cell (cA G t) (n1, .inl (fun j => Int32.ofInt (g j)))) := hR.P hc1 0 _ rfl
  obtain ⟨-, k0, hk0, cm0, hkk0⟩ := (hK.2.1.2 t _ ht2).1 n0 (fun j => .int (Int32.ofInt (f j)))
  obtain ⟨-, k1, hk1, cm1, hkk1⟩ := (hK.2.1.2 t _ ht2).1 n1 (fun j => .int (Int32.ofInt (g j)))
  obtain ⟨vm', Y', step⟩ := Y.arraycopy F.1 F.2.2.2.2.1 (hts _ hl) (hts _ hw.1.1) (hts _ hw.1.2) (hts _ hw.2) (src := a0) (dst := a) (cs := vp_cell (cA G t) (n0, .inl (fun j => Int32.ofInt (f j)))) (cd := vp_cell (cA G t) (n1, .inl (fun j => Int32.ofInt (g j)))) (sType := ty) (dType := ty) (srcPos := Int32.ofInt sp) (destPos := Int32.ofInt dp) (n := Int32.ofInt len) (by rw [hT]; exact hq0) (by rw [hT]; exact hq1)
    (fun _ h => by cases h) (fun _ h => by cases h) (fun h => by cases h) (fun h => by cases h) hk0 hk1 hkk0 hkk1 (by rcases hty with rfl | ⟨rfl, -⟩ <;> rfl) g1 g2 g3
    (by rw [nn_of g1, nn_of g3, e1, e3]; show ¬ _ > ((arrV (cA G t) n0 (fun j => .int (Int32.ofInt (f j)))).slots.size : Int); rw [arrV_size]; omega)
    (by rw [nn_of g2, nn_of g3, e2, e3]; show ¬ _ > ((arrV (cA G t) n1 (fun j => .int (Int32.ofInt (g j)))).slots.size : Int); rw [arrV_size]; omega)
    (fun vm₁ _ i hi => by
      rw [e3] at hi
      have e : (vp_cell (cA G t) (n0, .inl (fun j => Int32.ofInt (f j)))).slots.getD ((Int32.ofInt sp).toNatClampNeg + i) .null = .int (Int32.ofInt (f (sp.toNat + i))) := by
        show (arrV (cA G t) n0 (fun j => .int (Int32.ofInt (f j)))).slots.getD _ _ = _
        rw [e1, Array.getD_eq_getD_getElem?, arrV_read _ _ (by omega)]
        rfl
      refine ⟨?_, ?_⟩
      · rw [e]
        rcases hty with rfl | ⟨rfl, hb⟩
        · rfl
        · rcases hb i hi with hz | hz <;> rw [hz] <;> rfl
      · rw [e]
        exact trivial)
    (g := F0 m pc ls (JV len :: JV dp :: .ref a :: JV sp :: .ref a0 :: st)) rfl (by show ls.size = c.maxLocals; rw [F.2.2.1]; exact hL.1) (rest := st) rfl (by rw [F.2.1]; exact d) (Nat.le_trans hf a1) (by show 2 * 0 + _ + _ ≤ _; omega)
  have ec : copied (vp_cell (cA G t) (n0, .inl (fun j => Int32.ofInt (f j)))) (vp_cell (cA G t) (n1, .inl (fun j => Int32.ofInt (g j)))) (Int32.ofInt sp) (Int32.ofInt dp) (Int32.ofInt len) = vp_cell (cA G t) (n1, .inl (fun j => Int32.ofInt (va_cpy f g sp.toNat dp.toNat len.toNat j))) := by
    have := va_copied (fun z : Int => Value.int (Int32.ofInt z)) (cA G t) (cA G t) (n0 := n0) (n1 := n1) (sp := sp.toNat) (dp := dp.toNat) (n := len.toNat) f g (by omega)
    rw [← e1, ← e2, ← e3] at this
    rw [e1, e2, e3] at this
    unfold copied
    rw [e1, e2, e3]
    exact this
  rw [ec] at Y' step
  obtain ⟨t9, b1, b2⟩ := w _ _ (copy_set rfl hR hc1) (copy_S hS (hR.2 _ _ hc1).1) _ (by rw [← hT]; rfl) Y'
  exact ⟨t9, step t9 b1, b2⟩
theorem wp_copyII {idx a a0 n0 n1 : Nat} {f g : Nat → Option Nat} {sp dp len : Int} (d : decode (mC μ) pc = .ok (.invokestatic idx, 3)) (hl : Cond.methodLink (mY μ).cls idx arraycopyName ∈ AW) (hw : wArr) (hf : 1 ≤ mF μ) (ho : (st.map fun v => v.category).sum + (nativeFrameWords "java/lang/System" "arraycopy" 5 + 11) ≤ mO μ)
    (hc0 : h a0 = some (eQ G 4 n0 f)) (hc1 : h a = some (eQ G 4 n1 g)) (h1 : 0 ≤ sp) (h2 : 0 ≤ dp) (h3 : 0 ≤ len) (h4 : sp + len ≤ (n0 : Int)) (h5 : dp + len ≤ (n1 : Int)) (h6 : n0 < 100000) (h7 : n1 < 100000)
    (hel : ∀ i, i < len.toNat → ∀ b, f (sp.toNat + i) = some b → ∃ (m2 : Nat) (z : Nat → Int), h b = some (eI G m2 z))
    (kk : WP G μ Q X k n (hup h a (eQ G 4 n1 (va_cpy f g sp.toNat dp.toNat len.toNat))) N (pc + 3) L st) : WP G μ Q X k n h N pc L (JV len :: JV dp :: .ref a :: JV sp :: .ref a0 :: st) := by
  refine kk.goH2 (fun {p e1 R s m args below meth c H locs cells slots ls Z} F a1 a2 hL hR hS w => ?_)
  have hK := F.2.2.2.2.2.2.2.2.2
  have hts := F.2.2.2.2.2.1
  have ht2 : (swTys (cA G))[4]? = some (cA G 4, .array .int) := rfl
  have e1 : (Int32.ofInt sp).toNatClampNeg = sp.toNat := J_clamp h1 (by omega)
  have e2 : (Int32.ofInt dp).toNatClampNeg = dp.toNat := J_clamp h2 (by omega)
  have e3 : (Int32.ofInt len).toNatClampNeg = len.toNat := J_clamp h3 (by omega)
  have g1 : ¬ Int32.ofInt sp < 0 := fun q => (J_in (x := sp) (n := sp.toNat + 1) h1 (by omega) (by omega)) (Or.inl q)
  have g2 : ¬ Int32.ofInt dp < 0 := fun q => (J_in (x := dp) (n := dp.toNat + 1) h2 (by omega) (by omega)) (Or.inl q)
  have g3 : ¬ Int32.ofInt len < 0 := fun q => (J_in (x := len) (n := len.toNat + 1) h3 (by omega) (by omega)) (Or.inl q)
  intro T hT Y
  have hq0 : H[a0]? = some (vp_cell (cA G 4) (n0, .inr (.inr (.inr (.inr f))))) := hR.P hc0 0 _ rfl
  have hq1 : H[a]? = some (vp_cell (cA G 4) (n1, .inr (.inr (.inr (.inr g))))) := hR.P hc1 0 _ rfl
  obtain ⟨-, k0, hk0, cm0, hkk0⟩ := (hK.2.1.2 4 _ ht2).1 n0 (fun j => va_rf (f j))
  obtain ⟨-, k1, hk1, cm1, hkk1⟩ := (hK.2.1.2 4 _ ht2).1 n1 (fun j => va_rf (g j))
  obtain ⟨q0, q4, p0, p4, p5, ⟨c5, p6⟩, -⟩ := hK.2.2.2.2.2.2.2.2.1
  obtain ⟨vm', Y', step⟩ := Y.arraycopy F.1 F.2.2.2.2.1 (hts _ hl) (hts _ hw.1.1) (hts _ hw.1.2) (hts _ hw.2) (src := a0) (dst := a) (cs := vp_cell (cA G 4) (n0, .inr (.inr (.inr (.inr f))))) (cd := vp_cell (cA G 4) (n1, .inr (.inr (.inr (.inr g))))) (sType := .array .int) (dType := .array .int) (srcPos := Int32.ofInt sp) (destPos := Int32.ofInt dp) (n := Int32.ofInt len) (by rw [hT]; exact hq0) (by rw [hT]; exact hq1)
    (fun _ h => by cases h) (fun _ h => by cases h) (fun h => by cases h) (fun h => by cases h) hk0 hk1 hkk0 hkk1 rfl g1 g2 g3
    (by rw [nn_of g1, nn_of g3, e1, e3]; show ¬ _ > ((arrV (cA G 4) n0 (fun j => va_rf (f j))).slots.size : Int); rw [arrV_size]; omega)
    (by rw [nn_of g2, nn_of g3, e2, e3]; show ¬ _ > ((arrV (cA G 4) n1 (fun j => va_rf (g j))).slots.size : Int); rw [arrV_size]; omega)
    (fun vm₁ hal i hi => by
      rw [e3] at hi
      have e : (vp_cell (cA G 4) (n0, .inr (.inr (.inr (.inr f))))).slots.getD ((Int32.ofInt sp).toNatClampNeg + i) .null = va_rf (f (sp.toNat + i)) := by
        show (arrV (cA G 4) n0 (fun j => va_rf (f j))).slots.getD _ _ = _
        rw [e1, Array.getD_eq_getD_getElem?, arrV_read _ _ (by omega)]
        rfl
      rw [e]
      cases hy : f (sp.toNat + i) with
      | none => exact ⟨rfl, trivial⟩
      | some y =>
        obtain ⟨m2, z, hz⟩ := hel i hi y hy
        have hcy : H[y]? = some (vp_cell (cA G 0) (m2, .inl (fun j => Int32.ofInt (z j)))) := hR.P hz 0 _ rfl
        cases hk1.symm.trans p4
        have hcm : cm1 = cA G 0 := by rw [hkk1] at p5; injection p5
        subst hcm
        obtain ⟨kC', hkC', -⟩ := hal.2.2 _ _ p0
        refine ⟨rfl, _, (show T.heap[y]? = some _ by rw [hT]; exact hcy), (fun q h => by cases h), ⟨kC', hkC'⟩, ?_, ?_⟩
        · exact ⟨kC', hkC'⟩
        · show vm₁.assignable _ _ = true
          rw [hal.assignable]
          exact assign_row p0 p6)
    (g := F0 m pc ls (JV len :: JV dp :: .ref a :: JV sp :: .ref a0 :: st)) rfl (by show ls.size = c.maxLocals; rw [F.2.2.1]; exact hL.1) (rest := st) rfl (by rw [F.2.1]; exact d) (Nat.le_trans hf a1) (by show 2 * 0 + _ + _ ≤ _; omega)
  have ec : copied (vp_cell (cA G 4) (n0, .inr (.inr (.inr (.inr f))))) (vp_cell (cA G 4) (n1, .inr (.inr (.inr (.inr g))))) (Int32.ofInt sp) (Int32.ofInt dp) (Int32.ofInt len) = vp_cell (cA G 4) (n1, .inr (.inr (.inr (.inr (va_cpy f g sp.toNat dp.toNat len.toNat))))) := by
    have := va_copied (fun z : Option Nat => va_rf z) (cA G 4) (cA G 4) (n0 := n0) (n1 := n1) (sp := sp.toNat) (dp := dp.toNat) (n := len.toNat) f g (by omega)
    unfold copied
    rw [e1, e2, e3]
    exact this
  rw [ec] at Y' step
  obtain ⟨t9, b1, b2⟩ := w _ _ (copy_set rfl hR hc1) (copy_S hS (hR.2 _ _ hc1).1) _ (by rw [← hT]; rfl) Y'
  exact ⟨t9, step t9 b1, b2⟩
end Rules8


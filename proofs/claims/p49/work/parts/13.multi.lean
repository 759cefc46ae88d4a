/-! ===== new int[n][m] ===== -/
/-- rows of m zeros at N + 1 .. N + r, and the array of them at N -/
def hrows (G : Ctx) (h : AH) (N r m : Nat) : AH := fun q => if q = N then some (eQ G 4 r (fun i => if i < r then some (N + 1 + i) else none)) else if N < q ∧ q ≤ N + r then some (eI G m (fun _ => 0)) else h q
section Rules7
variable {G : Ctx} {μ : MI} {Q : PQ} {X : PX} {k n k2 n2 : Nat} {h : AH} {N : Nat} {pc : Nat} {L : List (Option Value)} {st : List Value}
theorem outer_eq (c : ClassId) (N h0 : Nat) : ∀ i : Nat, Jvm.Free.Multi.outerC c N h0 i = arrV c N (fun j => va_rf (if j < i then some (h0 + 1 + j) else none))
  | 0 => by
    show ({ cls := c, slots := Array.replicate N .null, vm := .none } : Cell) = _
    rw [arrV_new]
    refine congrArg (arrV c N) (funext fun j => ?_)
    simp [va_rf]
  | i + 1 => by
    show (Jvm.Free.Multi.outerC c N h0 i).setSlot i (.ref (h0 + 1 + i)) = _
    rw [outer_eq c N h0 i, arrV_store]
    refine congrArg (arrV c N) (funext fun j => ?_)
    by_cases e : j = i
    · subst e
      simp [updV, va_rf]
    · by_cases h : j < i
      · simp [updV, e, h, Nat.lt_succ_of_lt h]
      · simp [updV, e, h, show ¬ j < i + 1 by omega]
theorem swII.over {a0 a4 : ClassId} {U : State} {A : Array Value} (h : swII a0 a4 U) : (Cond.arrayOver (.array .int)).before A U = true := by
  obtain ⟨-, -, -, -, -, -, h3⟩ := h
  exact h3
theorem wp_multi {idx r m : Nat} (d : decode (mC μ) pc = .ok (.multianewarray idx 2, 4)) (hl : Cond.classLink (mY μ).cls idx ("[" ++ (FieldType.array .int).toString) ∈ AW) (hw : Cond.arrayClass .int ∈ AW) (hr : r ≤ 1000) (hm : m ≤ 100000) (hk : 1 + r + k2 ≤ k) (hn : r + r * m + n2 ≤ n)
    (kk : WP G μ Q X k2 n2 (hrows G h N r m) (N + 1 + r) (pc + 4) L (.ref N :: st)) : WP G μ Q X k n h N pc L (JV (m : Int) :: JV (r : Int) :: st) := by
  intro p e R s m9 args below meth c H locs cells slots mc ms ls F a1 a2 a3 a4 a5 a6 hR hS hL
  have hK := F.2.2.2.2.2.2.2.2.2
  have hts := F.2.2.2.2.2.1
  have hB := hB_of hK hS hR
  have hrc : (Int32.ofInt (r : Int)).toNatClampNeg = r := (J_clamp (by omega) (by omega)).trans (Int.toNat_natCast r)
  have hmc : (Int32.ofInt (m : Int)).toNatClampNeg = m := (J_clamp (by omega) (by omega)).trans (Int.toNat_natCast m)
  intro T hT Y
  obtain ⟨vm₁, c4, comp, -, fA, fC, hO, -, Y', step⟩ := Y.multianewarray2F F.1 F.2.2.2.2.1 (hts _ hl) hK.2.2.2.2.2.2.2.2.1.over (hts _ hw) (g := F0 m9 pc ls (JV (m : Int) :: JV (r : Int) :: st)) rfl (by rw [F.2.1]; exact d) rfl
    (fun q => (J_in (x := (r : Int)) (n := r + 1) (by omega) (by omega) (by omega)) (Or.inl q)) (fun q => (J_in (x := (m : Int)) (n := m + 1) (by omega) (by omega) (by omega)) (Or.inl q)) (by rw [hrc]; omega) (by rw [hmc]; show m * 4 ≤ _; omega) (by rw [hmc]; omega) rfl rfl (by rw [hrc]; omega) (by rw [hrc, hmc]; omega)
  rw [hrc, hmc] at Y' step
  have h4 : c4 = cA G 4 := Option.some.inj (fA.symm.trans (hK.2.1.2 4 _ rfl).2)
  subst h4
  have h0 : comp = cA G 0 := Option.some.inj (fC.symm.trans (hK.2.1.2 0 _ rfl).2)
  subst h0
  generalize hF : Jvm.Free.Multi.fill (T.setVm vm₁) (cA G 4) (cA G 0) r m (defaultValue .int) r = F9 at Y' step
  have hTh : (T.setVm vm₁).heap = H := hT
  obtain ⟨f1, f2, -, -⟩ := Jvm.Free.Multi.fill_facts (T.setVm vm₁) (cA G 4) (cA G 0) r m (defaultValue .int) r
  rw [hF, hTh] at f1 f2
  have hold : ∀ x : Nat, x < H.size → F9.heap[x]? = H[x]? := fun x hx => by
    have := Jvm.Free.Multi.fill_old (T.setVm vm₁) (cA G 4) (cA G 0) r m (defaultValue .int) (a := x) (by rw [hTh]; exact hx) r
    rw [hF, hTh] at this
    exact this
  have hrow : ∀ j : Nat, j < r → F9.heap[H.size + 1 + j]? = some (vp_cell (cA G 0) (m, .inl (fun _ => 0))) := fun j hj => by
    have := Jvm.Free.Multi.fill_inner (T.setVm vm₁) (cA G 4) (cA G 0) r m (defaultValue .int) r j hj
    rw [hF, hTh] at this
    rw [this]
    show some ({ cls := cA G 0, slots := Array.replicate m (defaultValue .int), vm := .none } : Cell) = _
    rw [arrV_new]
    rfl
  rw [outer_eq, hR.1] at f2
  rw [hR.1] at f1 hold hrow
  have hz : F9.heap.size = N + 1 + r := by omega
  have hR1 : Rep G (hrows G h N r m) (N + 1 + r) F9.heap := by
    refine ⟨hz, fun b e2 hb => ?_⟩
    unfold hrows at hb
    by_cases hb1 : b = N
    · rw [if_pos hb1] at hb
      cases hb
      subst hb1
      exact ⟨hB, f2⟩
    · rw [if_neg hb1] at hb
      by_cases hb2 : N < b ∧ b ≤ N + r
      · rw [if_pos hb2] at hb
        cases hb
        refine ⟨by show cB G ≤ b; omega, ?_⟩
        have := hrow (b - N - 1) (by omega)
        rw [show N + 1 + (b - N - 1) = b by omega] at this
        exact this
      · rw [if_neg hb2] at hb
        exact ⟨(hR.2 _ _ hb).1, (hR.2 _ _ hb).2.kept (hold b (hR.lt hb))⟩
  have hS1 : va_S (cF G) s.heap F9.heap locs := hS.new (by rw [hR.1]; omega) (by rw [hR.1]; exact hold)
  obtain ⟨t2, b1, b2⟩ := kk p e R s m9 args below meth c F9.heap locs (cells + 1 + r) (slots + r + r * m) mc ms ls F a1 a2 (by omega) (by omega) a5 a6 hR1 hS1 hL F9 rfl Y'
  refine ⟨t2, step t2 ?_, b2⟩
  rw [show T.heap.size = N by rw [hT]; exact hR.1]
  exact b1
end Rules7


/-! ===== fields, arrays, new cells, ends ===== -/
abbrev eO (ci : Nat) (fs : List Value) : va_E := .inr (ci, fs)
abbrev eI (G : Ctx) (n : Nat) (f : Nat → Int) : va_E := .inl (cA G 0, n, .inl (fun j => Int32.ofInt (f j)))
abbrev eZ (G : Ctx) (n : Nat) (f : Nat → Int) : va_E := .inl (cA G 1, n, .inl (fun j => Int32.ofInt (f j)))
abbrev eQ (G : Ctx) (t n : Nat) (f : Nat → Option Nat) : va_E := .inl (cA G t, n, .inr (.inr (.inr (.inr f))))
def fup {α : Type} (f : Nat → α) (k : Nat) (x : α) : Nat → α := fun j => if j = k then x else f j
theorem fup_self {α : Type} (f : Nat → α) (k : Nat) (x : α) : fup f k x k = x := if_pos rfl
theorem fup_ne {α : Type} {f : Nat → α} {k j : Nat} {x : α} (hn : j ≠ k) : fup f k x j = f j := if_neg hn
/-- a class of ours, as the tables have it -/
def CK (ci : Nat) (r : vw_C) (ty0 : Nat → FieldType) : Prop := swCl[ci]? = some r ∧ (∀ w ∈ u_ws r.1 r.2.1 r.2.2, w ∈ AW) ∧ (∀ k, k < r.2.2 → parseFieldDescriptor (r.2.1 k).2.2.1 = some (ty0 k)) ∧ (∀ a, a < r.2.2 → ∀ b, b < r.2.2 → a ≠ b → (r.2.1 a).2.1 ≠ (r.2.1 b).2.1)
/-- the field k of class ci by the constant idx of the class own, its type -/
def FK (own : String) (idx ci k : Nat) (ty : FieldType) (fin : Bool) : Prop := ∃ (r : vw_C) (ty0 : Nat → FieldType), CK ci r ty0 ∧ k < r.2.2 ∧ Cond.fieldLink own idx (r.2.1 k).1 (r.2.1 k).2.1 (r.2.1 k).2.2.1 ∈ AW ∧ parseFieldDescriptor (r.2.1 k).2.2.1 = some ty ∧ (r.2.1 k).2.2.2 = fin
theorem hB_of {G : Ctx} {s : State} {H : Heap} {locs : List Loc} {h : AH} {N : Nat} (hK : KN G s) (hS : va_S (cF G) s.heap H locs) (hR : Rep G h N H) : cB G ≤ N := by
  obtain ⟨-, -, -, -, -, -, -, -, -, -, -, hz⟩ := hK
  have h1 := hS.1
  rw [hR.1] at h1
  exact Nat.le_trans hz h1
theorem hA_of {G : Ctx} {s : State} (hK : KN G s) : ∀ q : Nat, s.heap.size ≤ q → cF G q := by
  obtain ⟨-, -, -, -, -, -, -, -, -, -, -, hz⟩ := hK
  exact fun q hq => Nat.le_trans hz hq
theorem va_S.new {A : Nat → Prop} {H0 H H1 : Heap} {locs : List Loc} (h : va_S A H0 H locs) (z : H.size ≤ H1.size) (oq : ∀ q : Nat, q < H.size → H1[q]? = H[q]?) : va_S A H0 H1 locs :=
  ⟨Nat.le_trans h.1 z, fun q h1 h2 => (oq q (Nat.lt_of_lt_of_le h1 h.1)).trans (h.2.1 q h1 h2), h.2.2⟩
theorem swTys_at {a : Nat → ClassId} {t : Nat} {ty : FieldType} (ht : swTY[t]? = some ty) : (swTys a)[t]? = some (a t, ty) := by
  have hlt : t < 9 := (List.getElem?_eq_some_iff.mp ht).1
  rcases t with _ | _ | _ | _ | _ | _ | _ | _ | _ | t <;> first | (cases ht; rfl) | omega
theorem assign_row {vm : Vm} {a0 c5 : ClassId} {k0 : Class} (g0 : vm.classes[a0]? = some k0) (g6 : k0.kind = .array c5 .int) : vm.assignable a0 a0 = true := by
  show vm.assignableAux (255 + 1) a0 a0 = true
  rw [Vm.assignableAux]
  simp [g0, g6]
section Rules3
variable {G : Ctx} {μ : MI} {Q : PQ} {X : PX} {k n : Nat} {h : AH} {N : Nat} {pc : Nat} {L : List (Option Value)} {st : List Value}
theorem wp_get {idx ci i : Nat} {ty : FieldType} {fin : Bool} {a : Nat} {fs : List Value} {v : Value} (fk : FK (mY μ).cls idx ci i ty fin) (d : decode (mC μ) pc = .ok (.getfield idx, 3)) (hc : h a = some (eO ci fs)) (hv : fs[i]? = some v) (kk : WP G μ Q X k n h N (pc + 3) L (v :: st)) : WP G μ Q X k n h N pc L (.ref a :: st) := by
  obtain ⟨r, ty0, ck, hi, hl, -, -⟩ := fk
  refine kk.go fun F hR hS _ _ _ _ _ w => ?_
  exact va_get F.1 F.2.1 F.2.2.2.2.2.1 ck.2.1 F.2.2.2.2.1 F.2.2.2.2.2.2.2.2.2.2.1 (hR.P hc) 0 rfl ck.1 i hi (F.2.2.2.2.2.1 _ hl) (fun _ h9 => h9) hv d w
/-- a step that changes the cell at a -/
theorem WP.goH {pc' : Nat} {st' : List Value} {a : Nat} {e : va_E} (kk : WP G μ Q X k n (hup h a e) N pc' L st')
    (hs : ∀ {p : Program} {e1 : Env} {R : Room} {s : State} {m : MethodId} {args : Array Value} {below : List Frame} {meth : Method} {c : Code} {H : Heap} {locs : List Loc} {cells slots : Nat} {ls : Array Slot} {Z : State → Prop},
      FX G μ p s m args meth c → Rep G h N H → va_S (cF G) s.heap H locs → (∀ (H1 : Heap) (locs1 : List Loc), Rep G (hup h a e) N H1 → va_S (cF G) s.heap H1 locs1 → W p (cL G) e1 R s m args below meth c H1 locs1 cells slots Z (F0 m pc' ls st')) → W p (cL G) e1 R s m args below meth c H locs cells slots Z (F0 m pc ls st)) : WP G μ Q X k n h N pc L st := by
  intro p e R s m args below meth c H locs cells slots mc ms ls F a1 a2 a3 a4 a5 a6 hR hS hL
  exact hs F hR hS fun H1 locs1 hR1 hS1 => kk p e R s m args below meth c H1 locs1 cells slots mc ms ls F a1 a2 a3 a4 a5 a6 hR1 hS1 hL
theorem wp_put {idx ci i : Nat} {ty : FieldType} {a : Nat} {fs : List Value} {v : Value} (fk : FK (mY μ).cls idx ci i ty false) (d : decode (mC μ) pc = .ok (.putfield idx, 3)) (hc : h a = some (eO ci fs)) (hn : narrow ty v = v) (hf : fits ty v = true) (hl : i < fs.length) (kk : WP G μ Q X k n (hup h a (eO ci (fs.set i v))) N (pc + 3) L st) : WP G μ Q X k n h N pc L (v :: .ref a :: st) := by
  obtain ⟨r, ty0, ck, hi, hlk, hty, hfin⟩ := fk
  refine kk.goH fun F hR hS w => ?_
  have hK : va_K (cD G) swCl (swTys (cA G)) _ := F.2.2.2.2.2.2.2.2.2.2.1
  have hts := F.2.2.2.2.2.1
  have hap := va_apart (own := (mY μ).cls) hts ck.2.1 ty0 ck.2.2.1 ck.2.2.2 hK ck.1
  obtain ⟨r', h1, cell, q1, q2, q3, q4⟩ := hR.P hc 0 _ rfl
  have hr : r' = r := Option.some.inj (h1.symm.trans ck.1)
  subst hr
  obtain ⟨hS2, hfc, kC, hkC, hkind⟩ := hK.1 ci _ ck.1
  obtain ⟨cf, kf, fi, f, hif, hsl⟩ := hS2 i hi
  have hlay := hts _ (ck.2.1 _ (u_in_lay hi))
  unfold u_lay at hlay
  rw [if_neg (by rw [hfin]; decide)] at hlay
  have hst := (u_facts hfc hkC (u_lays hts ck.2.1 hi) hif).1
  have h6 := u_store hfc hkC hkind hlay hif hty hn hf
  refine W.putK F.1 F.2.1 (f := f) ⟨F.2.2.2.2.1, F.2.2.2.2.2.1 _ hlk, ⟨_, _, _, hif⟩, hst⟩ (by rw [q2]; exact h6) q1 q3 (by rw [hsl]; exact k2_hasslot (q4 i hi)) rfl rfl d fun H' e1 e2 e3 => ?_
  rw [hsl] at e1 ⊢
  exact w H' _ (hR.set hc e2 ⟨_, ck.1, t_OB.to (V := updV (vp_V fs) i v) ⟨_, e1, q2, q3, t_set q4 hap hi v⟩ (fun j _ => vp_updV_set hl v j)⟩ e3) (hS.put e2 e3 (hR.2 _ _ hc).1)
theorem wp_putF {idx ci i : Nat} {ty : FieldType} {a : Nat} {fs : List Value} {v : Value} (fk : FK (mY μ).cls idx ci i ty true) (d : decode (mC μ) pc = .ok (.putfield idx, 3)) (hin : (mY μ).name = "<init>") (hdecl : ∀ r, swCl[ci]? = some r → (r.2.1 i).1 = (mY μ).cls) (hc : h a = some (eO ci fs)) (hn : narrow ty v = v) (hf : fits ty v = true) (hl : i < fs.length) (kk : WP G μ Q X k n (hup h a (eO ci (fs.set i v))) N (pc + 3) L st) : WP G μ Q X k n h N pc L (v :: .ref a :: st) := by
  obtain ⟨r, ty0, ck, hi, hlk, hty, hfin⟩ := fk
  refine kk.goH (fun {p e1 R s m args below meth c H locs cells slots ls Z} F hR hS w => ?_)
  have hK : va_K (cD G) swCl (swTys (cA G)) _ := F.2.2.2.2.2.2.2.2.2.2.1
  have hts := F.2.2.2.2.2.1
  have hap := va_apart (own := (mY μ).cls) hts ck.2.1 ty0 ck.2.2.1 ck.2.2.2 hK ck.1
  obtain ⟨r', h1, cell, q1, q2, q3, q4⟩ := hR.P hc 0 _ rfl
  have hr : r' = r := Option.some.inj (h1.symm.trans ck.1)
  subst hr
  obtain ⟨hS2, hfc, kC, hkC, hkind⟩ := hK.1 ci _ ck.1
  obtain ⟨cf, kf, fi, f, hif, hsl⟩ := hS2 i hi
  have hlay := hts _ (ck.2.1 _ (u_in_lay hi))
  unfold u_lay at hlay
  rw [if_pos hfin] at hlay
  have hst := (u_facts hfc hkC (u_lays hts ck.2.1 hi) hif).1
  have hcf : m.cls = cf := by
    obtain ⟨_, _, c', _, _, _, -, -, hf', -, -, -, hown2, -⟩ := Cond.laysFinal_spec hlay
    have e1 : c' = cf := by have := hif.symm.trans hf'; simp at this; exact this.1.symm
    rw [hdecl _ ck.1] at hown2
    rw [← e1]; exact Option.some.inj (F.2.2.2.2.1.symm.trans hown2)
  have h6 := u_fits hfc hkC hkind (Or.inr hlay) hif hty hn hf
  refine W.putFinK F.1 F.2.1 F.2.2.2.2.1 (F.2.2.2.2.2.1 _ hlk) hif hst hcf (F.2.2.2.2.2.2.2.1.trans hin) (by rw [q2]; exact h6) q1 q3 (by rw [hsl]; exact k2_hasslot (q4 i hi)) rfl rfl d fun H' e1 e2 e3 => ?_
  rw [hsl] at e1 ⊢
  exact w H' _ (hR.set hc e2 ⟨_, ck.1, t_OB.to (V := updV (vp_V fs) i v) ⟨_, e1, q2, q3, t_set q4 hap hi v⟩ (fun j _ => vp_updV_set hl v j)⟩ e3) (hS.put e2 e3 (hR.2 _ _ hc).1)
/-! arrays -/
theorem wp_iaload {a m : Nat} {f : Nat → Int} {i : Int} (d : decode (mC μ) pc = .ok (.iaload, 1)) (hc : h a = some (eI G m f)) (h0 : 0 ≤ i) (h1 : i < (m : Int)) (hm : m < 2147483648) (kk : WP G μ Q X k n h N (pc + 1) L (JV (f i.toNat) :: st)) : WP G μ Q X k n h N pc L (JV i :: .ref a :: st) :=
  kk.go fun F hR _ _ _ _ _ _ w => va_iald F.1 F.2.1 F.2.2.2.2.2.2.2.2.2.2.1 (hR.P hc) 0 0 rfl rfl (J_in h0 h1 hm) d (by rw [J_clamp h0 (by omega)]; exact w)
theorem wp_zaload {a m : Nat} {f : Nat → Int} {i : Int} (d : decode (mC μ) pc = .ok (.baload, 1)) (hc : h a = some (eZ G m f)) (h0 : 0 ≤ i) (h1 : i < (m : Int)) (hm : m < 2147483648) (kk : WP G μ Q X k n h N (pc + 1) L (JV (f i.toNat) :: st)) : WP G μ Q X k n h N pc L (JV i :: .ref a :: st) :=
  kk.go fun F hR _ _ _ _ _ _ w => va_zald F.1 F.2.1 F.2.2.2.2.2.2.2.2.2.2.1 (hR.P hc) 0 1 rfl rfl (J_in h0 h1 hm) d (by rw [J_clamp h0 (by omega)]; exact w)
theorem wp_aaload {a m t b : Nat} {ty : FieldType} {f : Nat → Option Nat} {i : Int} (d : decode (mC μ) pc = .ok (.aaload, 1)) (hc : h a = some (eQ G t m f)) (ht : swTY[t]? = some ty) (hr : ty.isReference = true) (h0 : 0 ≤ i) (h1 : i < (m : Int)) (hm : m < 2147483648) (hb : f i.toNat = some b) (kk : WP G μ Q X k n h N (pc + 1) L (.ref b :: st)) : WP G μ Q X k n h N pc L (JV i :: .ref a :: st) := by
  refine kk.go fun F hR _ _ _ _ _ _ w => ?_
  have hK : va_K (cD G) swCl (swTys (cA G)) _ := F.2.2.2.2.2.2.2.2.2.2.1
  have ht2 := swTys_at (a := cA G) ht
  have hlt : (Int32.ofInt i).toNatClampNeg < m := by rw [J_clamp h0 (by omega)]; omega
  refine W.aald (v := va_rf (f (Int32.ofInt i).toNatClampNeg)) (ty := ty) F.1 F.2.1 (hR.P hc 0 _ rfl) ((hK.2 t _ ht2).1 m (fun j => va_rf (f j))) hr (fun q => by cases q) (by show ¬ (Int32.ofInt i < 0 ∨ (arrV _ _ _).slots.size ≤ _); rw [arrV_size]; exact J_in h0 h1 hm) (by show (arrV _ _ _).slots[_]? = _; rw [arrV_read _ _ hlt]) rfl rfl d ?_
  rw [J_clamp h0 (by omega), hb]
  exact w
theorem wp_alenI {a m : Nat} {f : Nat → Int} (d : decode (mC μ) pc = .ok (.arraylength, 1)) (hc : h a = some (eI G m f)) (kk : WP G μ Q X k n h N (pc + 1) L (JV (m : Int) :: st)) : WP G μ Q X k n h N pc L (.ref a :: st) :=
  kk.go fun F hR _ _ _ _ _ _ w => va_alen F.1 F.2.1 F.2.2.2.2.2.2.2.2.2.2.1 (hR.P hc) 0 0 rfl rfl (J_nat m).symm d w
theorem wp_alenII {a m : Nat} {f : Nat → Option Nat} (d : decode (mC μ) pc = .ok (.arraylength, 1)) (hc : h a = some (eQ G 4 m f)) (kk : WP G μ Q X k n h N (pc + 1) L (JV (m : Int) :: st)) : WP G μ Q X k n h N pc L (.ref a :: st) :=
  kk.go fun F hR _ _ _ _ _ _ w => va_alen F.1 F.2.1 F.2.2.2.2.2.2.2.2.2.2.1 (hR.P hc) 0 4 rfl rfl (J_nat m).symm d w
theorem arrV_up {c : ClassId} {m i : Nat} {f : Nat → Value} {v : Value} {g : Nat → Value} (hg : ∀ j, g j = if j = i then v else f j) : (arrV c m f).setSlot i v = arrV c m g := by
  rw [arrV_store]
  congr 1
  funext j
  rw [hg j]
  by_cases hj : j = i
  · subst hj; simp [updV]
  · simp [updV, hj]
theorem wp_iastore {a m : Nat} {f : Nat → Int} {i x : Int} (d : decode (mC μ) pc = .ok (.iastore, 1)) (hc : h a = some (eI G m f)) (h0 : 0 ≤ i) (h1 : i < (m : Int)) (hm : m < 2147483648) (kk : WP G μ Q X k n (hup h a (eI G m (fup f i.toNat x))) N (pc + 1) L st) : WP G μ Q X k n h N pc L (JV x :: JV i :: .ref a :: st) := by
  refine kk.goH fun F hR hS w => ?_
  have hK : va_K (cD G) swCl (swTys (cA G)) _ := F.2.2.2.2.2.2.2.2.2.2.1
  refine W.iast F.1 F.2.1 (hR.P hc 0 _ rfl) ((hK.2 0 _ rfl).1 m (fun j => .int (Int32.ofInt (f j)))) (fun q => by cases q) (by show ¬ (Int32.ofInt i < 0 ∨ (arrV _ _ _).slots.size ≤ _); rw [arrV_size]; exact J_in h0 h1 hm) rfl rfl d fun H1 e z oq => ?_
  refine w H1 _ (hR.set hc z ?_ oq) (hS.put z oq (hR.2 _ _ hc).1)
  show H1[a]? = some (vp_cell _ _)
  rw [e, J_clamp h0 (by omega)]
  rw [vp_cell_i, vp_cell_i]
  refine congrArg some (arrV_up fun j => ?_)
  simp only [fup]
  split <;> rfl
theorem wp_zastore {a m : Nat} {f : Nat → Int} {i x : Int} (d : decode (mC μ) pc = .ok (.bastore, 1)) (hc : h a = some (eZ G m f)) (h0 : 0 ≤ i) (h1 : i < (m : Int)) (hm : m < 2147483648) (hx : x = 0 ∨ x = 1) (kk : WP G μ Q X k n (hup h a (eZ G m (fup f i.toNat x))) N (pc + 1) L st) : WP G μ Q X k n h N pc L (JV x :: JV i :: .ref a :: st) := by
  refine kk.goH fun F hR hS w => ?_
  have hK : va_K (cD G) swCl (swTys (cA G)) _ := F.2.2.2.2.2.2.2.2.2.2.1
  refine W.zast F.1 F.2.1 (hR.P hc 0 _ rfl) ((hK.2 1 _ rfl).1 m (fun j => .int (Int32.ofInt (f j)))) (fun q => by cases q) (by show ¬ (Int32.ofInt i < 0 ∨ (arrV _ _ _).slots.size ≤ _); rw [arrV_size]; exact J_in h0 h1 hm) rfl rfl d fun H1 e z oq => ?_
  refine w H1 _ (hR.set hc z ?_ oq) (hS.put z oq (hR.2 _ _ hc).1)
  show H1[a]? = some (vp_cell _ _)
  rw [e, J_clamp h0 (by omega)]
  rw [vp_cell_i, vp_cell_i]
  have hnx : narrow .boolean (.int (Int32.ofInt x)) = .int (Int32.ofInt x) := by rcases hx with rfl | rfl <;> rfl
  rw [hnx]
  refine congrArg some (arrV_up fun j => ?_)
  simp only [fup]
  split <;> rfl
theorem wp_aastore {a m t b ci : Nat} {C : String} {T : u_T} {sz : Nat} {vs : List Value} {f : Nat → Option Nat} {i : Int} (d : decode (mC μ) pc = .ok (.aastore, 1)) (hc : h a = some (eQ G t m f)) (hb : h b = some (eO ci vs)) (hcl : swCl[ci]? = some (C, T, sz)) (ht : swTY[t]? = some (.object C)) (h0 : 0 ≤ i) (h1 : i < (m : Int)) (hm : m < 2147483648) (kk : WP G μ Q X k n (hup h a (eQ G t m (fup f i.toNat (some b)))) N (pc + 1) L st) : WP G μ Q X k n h N pc L (.ref b :: JV i :: .ref a :: st) := by
  refine kk.goH fun F hR hS w => ?_
  have hK : va_K (cD G) swCl (swTys (cA G)) _ := F.2.2.2.2.2.2.2.2.2.2.1
  have ht2 := swTys_at (a := cA G) ht
  have hlt : (Int32.ofInt i).toNatClampNeg < m := by rw [J_clamp h0 (by omega)]; omega
  obtain ⟨r', hr', cellV, g1, g2, g3, -⟩ := hR.P hb 0 _ rfl
  have hcls := (hK.1 ci _ hcl).2
  obtain ⟨kA, comp, k1, k2, k3, -⟩ := (hK.2 t _ ht2).2
  have hcomp : comp = (cD G).1 ci := Option.some.inj (k3.symm.trans hcls.1)
  subst hcomp
  obtain ⟨kC, hkC, -⟩ := hcls.2
  refine W.aast F.1 F.2.1 (hR.P hc 0 _ rfl) (fun q h => by cases h) (fun h => by cases h) k1 k2 rfl hkC ⟨fun q => (J_in h0 h1 hm) (Or.inl q), by show _ < (arrV _ _ _).slots.size; rw [arrV_size]; exact hlt⟩ g1 (fun q h => by rw [g3] at h; cases h) (by rw [g2]; exact hkC) (by rw [g2]; exact va_assign hcls) rfl rfl d fun H1 e z oq => ?_
  refine w H1 _ (hR.set hc z ?_ oq) (hS.put z oq (hR.2 _ _ hc).1)
  show H1[a]? = some (vp_cell _ _)
  rw [e, J_clamp h0 (by omega)]
  rw [vp_cell_q, vp_cell_q]
  refine congrArg some (arrV_up fun j => ?_)
  simp only [fup]
  split <;> rfl
/-- a row of ints into an int[][] -/
theorem wp_aastoreI {a m b m2 : Nat} {g : Nat → Int} {f : Nat → Option Nat} {i : Int} (d : decode (mC μ) pc = .ok (.aastore, 1)) (hc : h a = some (eQ G 4 m f)) (hb : h b = some (eI G m2 g)) (h0 : 0 ≤ i) (h1 : i < (m : Int)) (hm : m < 2147483648) (kk : WP G μ Q X k n (hup h a (eQ G 4 m (fup f i.toNat (some b)))) N (pc + 1) L st) : WP G μ Q X k n h N pc L (.ref b :: JV i :: .ref a :: st) := by
  refine kk.goH fun F hR hS w => ?_
  have hlt : (Int32.ofInt i).toNatClampNeg < m := by rw [J_clamp h0 (by omega)]; omega
  obtain ⟨k0, k4, g0, g4, g5, ⟨c5, g6⟩, -⟩ := F.2.2.2.2.2.2.2.2.2.2.2.2.2.2.2.2.2.1
  refine W.aast F.1 F.2.1 (hR.P hc 0 _ rfl) (fun q h => by cases h) (fun h => by cases h) g4 g5 rfl g0 ⟨fun q => (J_in h0 h1 hm) (Or.inl q), by show _ < (arrV _ _ _).slots.size; rw [arrV_size]; exact hlt⟩ (hR.P hb 0 _ rfl) (fun q h => by cases h) g0 (assign_row g0 g6) rfl rfl d fun H1 e z oq => ?_
  refine w H1 _ (hR.set hc z ?_ oq) (hS.put z oq (hR.2 _ _ hc).1)
  show H1[a]? = some (vp_cell _ _)
  rw [e, J_clamp h0 (by omega)]
  rw [vp_cell_q, vp_cell_q]
  refine congrArg some (arrV_up fun j => ?_)
  simp only [fup]
  split <;> rfl
end Rules3

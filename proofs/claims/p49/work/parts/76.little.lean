/-! ===== the law's little methods: below, cell, the JDK's bitCount; is it done ===== -/
/-- x >> c -/
def sh (x : Int32) (c : Int) : Int32 := x >>> (Int32.ofInt c &&& 31)
/-- (x & 0x7fffffff) % m -/
def bw (x : Int32) (m : Int) : Int := (x &&& 2147483647).toInt % m
theorem bw_e (x : Int32) : ∃ j : Nat, j < 2 ^ 31 ∧ x &&& 2147483647 = Int32.ofInt (j : Int) ∧ (x &&& 2147483647).toInt = (j : Int) := by
  obtain ⟨j, h1, h2⟩ := pk_andE x (m := (2147483647 : Int32)) 31 (by decide)
  have e : x &&& 2147483647 = Int32.ofInt (j : Int) := by rw [J_nat]; exact h2
  exact ⟨j, h1, e, by rw [e]; exact J_toInt ⟨by omega, by omega⟩⟩
theorem bw_r (x : Int32) {m : Int} (hm : 1 ≤ m) : 0 ≤ bw x m ∧ bw x m < m := ⟨Int.emod_nonneg _ (by omega), Int.emod_lt_of_pos _ (by omega)⟩
theorem bw_n (x : Int32) {m : Int} (hm : 1 ≤ m) : ∃ t : Nat, bw x m = (t : Int) ∧ (t : Int) < m := by
  have q := bw_r x hm
  exact ⟨(bw x m).toNat, by omega, by omega⟩
section Lit
variable {G : Ctx} {μ : MI} {Q : PQ} {X : PX} {k n : Nat} {h : AH} {N : Nat} {pc : Nat} {L : List (Option Value)} {st : List Value}
theorem wp_ldc {i : Nat} {v : Int32} (d : decode (mC μ) pc = .ok (.ldc i, 2)) (hw : Cond.constant (mY μ).cls i v ∈ AW) (kk : WP G μ Q X k n h N (pc + 2) L (.int v :: st)) : WP G μ Q X k n h N pc L st :=
  kk.go fun F _ _ _ _ _ _ _ w => lv_ldc F.1 F.2.1 F.2.2.2.2.1 (F.2.2.2.2.2.1 _ hw) d w
theorem wp_ishrR {x : Int32} {y : Int} (d : decode (mC μ) pc = .ok (.ishr, 1)) (kk : WP G μ Q X k n h N (pc + 1) L (.int (sh x y) :: st)) : WP G μ Q X k n h N pc L (JV y :: .int x :: st) :=
  kk.go fun F _ _ _ _ _ _ _ w => lv_ishr F.1 F.2.1 d w
theorem wp_iushrR {x y v : Int32} (d : decode (mC μ) pc = .ok (.iushr, 1)) (hv : (x.toUInt32 >>> (y.toUInt32 &&& Int32.toUInt32 31)).toInt32 = v) (kk : WP G μ Q X k n h N (pc + 1) L (.int v :: st)) : WP G μ Q X k n h N pc L (.int y :: .int x :: st) :=
  kk.go fun F _ _ _ _ _ _ _ w => lv_iushr F.1 F.2.1 d hv w
theorem wp_iaddR {x y : Int32} (d : decode (mC μ) pc = .ok (.iadd, 1)) (kk : WP G μ Q X k n h N (pc + 1) L (.int (x + y) :: st)) : WP G μ Q X k n h N pc L (.int y :: .int x :: st) :=
  kk.go fun F _ _ _ _ _ _ _ w => lv_iadd F.1 F.2.1 d w
theorem wp_isubR {x y : Int32} (d : decode (mC μ) pc = .ok (.isub, 1)) (kk : WP G μ Q X k n h N (pc + 1) L (.int (x - y) :: st)) : WP G μ Q X k n h N pc L (.int y :: .int x :: st) :=
  kk.go fun F _ _ _ _ _ _ _ w => lv_isub F.1 F.2.1 d w
theorem c_below {x : Int32} {m : Int} (hm : 1 ≤ m ∧ m ≤ 1000000) : CT G mL_below [.int x, JV m] h N 0 0 (PV (JV (bw x m)) h N) := by
  obtain ⟨j, h1, h2, h3⟩ := bw_e x
  refine CT_of (by decide +kernel) rfl (by simp [Value.category]) (Nat.le_of_ble_eq_true rfl) ?_
  change WP G mL_below _ noX _ _ h N 0 [some (.int x), some (JV m)] []
  refine wp_iload_n dL_below_0 rfl ?_
  refine wp_ldc dL_below_1 ctL_7 ?_
  refine wp_iand dL_below_3 ?_
  rw [h2]
  refine wp_iload_n dL_below_4 rfl ?_
  refine wp_irem dL_below_5 ⟨by omega, by omega⟩ (by omega) ⟨by omega, by omega⟩ (by omega) ?_
  refine wp_iret dL_below_6 rfl ?_
  refine ⟨?_, rfl, rfl⟩
  unfold bw
  rw [h3]
/-! the script's cells -/
def CPx (G : Ctx) (args : List Value) (h : AH) (N b Ls : Nat) (xs : Nat → Int32) : Array Value → State → Prop := va_Pc args (fun U => Rep G h N U.heap ∧ KN G U ∧ va_X b Ls xs U U.heap ∧ b < U.heap.size ∧ b < cB G)
theorem CPx.blind {args : List Value} {b Ls : Nat} {xs : Nat → Int32} : FrameBlind (CPx G args h N b Ls xs) := fun a U g mk q => ⟨q.1, q.2.1, q.2.2.1.blind g mk a, va_X.moved (Vm.Alike.refl U.vm) q.2.2.2.1, q.2.2.2.2⟩
theorem W_iret {p : Program} {e : Env} {R : Room} {s : State} {m : MethodId} {args : Array Value} {below : List Frame} {meth : Method} {c : Code} {H : Heap} {locs : List Loc} {cells slots mc ms : Nat} {ls : Array Slot} {v : Int32} (F : FX G μ p s m args meth c) (hR : Rep G h N H) (hS : va_S (cF G) s.heap H locs) (h1 : cells ≤ mc) (h2 : slots ≤ ms) (d : decode (mC μ) pc = .ok (.ireturn, 1)) (hr : mR μ = some .int) (q : Q (some (.int v)) h N) :
    W p (cL G) e R s m args below meth c H locs cells slots (vx_MQ below (SQ G Q) (SX G X) args s mc ms (cF G)) (F0 m pc ls [.int v]) := by
  refine W.widen (k := mc) (n := ms) (by omega) (by omega) (vx_ret (W.iret F.1 F.2.1 (F.2.2.2.1.trans hr) (fun t ht hW => ?_) hS.2.2 d F.2.2.2.2.2.2.1))
  refine ⟨⟨_, h, rfl, ?_, ?_⟩, hS.F ht⟩
  · rw [ht, hR.1]; exact q
  · rw [ht, hR.1]; exact hR
theorem x_cell {k9 : Int} {b Ls : Nat} {xs : Nat → Int32} (hk : 0 ≤ k9 ∧ k9 ≤ 1000) (hLs : Ls ≤ 260) : Met (cL G) (mY mL_cell) (mW mL_cell) (mRm mL_cell 0 0) (CPx G [.ref b, JV k9] h N b Ls xs) (SQ G (fun r h' N' => (∃ v : Int32, r = some (.int v)) ∧ h' = h ∧ N' = N)) 0 0 (cF G) := by
  have hx : vx_Met (cL G) (mY mL_cell) (mW mL_cell) (mRm mL_cell 0 0) (CPx G [.ref b, JV k9] h N b Ls xs) (SQ G (fun r h' N' => (∃ v : Int32, r = some (.int v)) ∧ h' = h ∧ N' = N)) (SX G noX) 0 0 (cF G) := by
    refine vx_ofW (cc := mC mL_cell) (maxL := mL mL_cell) (ret := mR mL_cell) (by decide +kernel) rfl ?_
    intro p e s m args' below meth c s₁ B hml ht hv
    obtain ⟨rfl, hR, hK, hX, hbl, hbA⟩ := hv
    have ht2 : c.exceptionTable.toList = tableOf (mH mL_cell) := List.eq_nil_iff_forall_not_mem.mpr fun x hx => ht x hx
    have F := FX_of B hml (fun w hw => List.mem_cons_of_mem _ hw) ht2 hK
    have hL := LR_entry (vs := [Value.ref b, JV k9]) (nL := 2) (by simp [Value.category]) (Nat.le_of_ble_eq_true rfl)
    have hA : ¬ cF G b := fun q => Nat.lt_irrefl _ (Nat.lt_of_lt_of_le hbA q)
    rw [lg_entry_eq]
    generalize (lg_sl [Value.ref b, JV k9] ++ List.replicate (2 - (lg_sl [Value.ref b, JV k9]).length) Slot.unset).toArray = ls at hL ⊢
    have l0 : ls[0]? = some (.val (.ref b)) := hL.at rfl
    have l1 : ls[1]? = some (.val (JV k9)) := hL.at rfl
    refine lv_iload_n F.1 F.2.1 dL_cell_0 rfl l1 ?_
    refine lv_aload_n F.1 F.2.1 dL_cell_1 rfl l0 ?_
    refine va_slen F.1 F.2.1 hX hbl hA va_S.rf dL_cell_2 ?_
    refine lv_icmp_ge (tgt := 12) F.1 F.2.1 dL_cell_3 (by decide) (fun q => ?_) (fun q => ?_)
    · refine lv_ldc F.1 F.2.1 F.2.2.2.2.1 (F.2.2.2.2.2.1 _ ctL_8) dL_cell_12 ?_
      refine lv_iload_n F.1 F.2.1 dL_cell_14 rfl l1 ?_
      refine lv_iconst F.1 F.2.1 dL_cell_15 rfl ?_
      refine lv_iadd F.1 F.2.1 dL_cell_16 ?_
      refine lv_imul F.1 F.2.1 dL_cell_17 ?_
      exact W_iret F hR va_S.rf (Nat.le_refl _) (Nat.le_refl _) dL_cell_18 rfl ⟨⟨_, rfl⟩, rfl, rfl⟩
    · refine lv_aload_n F.1 F.2.1 dL_cell_6 rfl l0 ?_
      refine lv_iload_n F.1 F.2.1 dL_cell_7 rfl l1 ?_
      rw [← J_nat, J_le ⟨by omega, by omega⟩ ⟨by omega, by omega⟩] at q
      refine va_sld F.1 F.2.1 hX hbl hA va_S.rf (J_in (n := Ls) hk.1 (by omega) (by omega)) dL_cell_8 ?_
      refine lv_goto (tgt := 18) F.1 F.2.1 dL_cell_9 (by decide) ?_
      exact W_iret F hR va_S.rf (Nat.le_refl _) (Nat.le_refl _) dL_cell_18 rfl ⟨⟨_, rfl⟩, rfl, rfl⟩
  unfold Met
  refine MetFree.mono hx (fun _ _ q => q) (fun _ _ _ _ _ q => q) fun a s o s' _ q => ?_
  rcases q with q | ⟨q, -, E, ce, L9, ⟨⟨h', q1, -⟩, -⟩, -⟩
  · exact q
  · exact q1.elim
/-! how many bits -/
def pc9 (m : Nat) : Nat := m % 2 + m / 2 % 2 + m / 4 % 2 + m / 8 % 2 + m / 16 % 2 + m / 32 % 2 + m / 64 % 2 + m / 128 % 2 + m / 256 % 2
def us (x : Int32) (c : Int32) : Int32 := (x.toUInt32 >>> (c.toUInt32 &&& Int32.toUInt32 31)).toInt32
def bc1 (x : Int32) : Int32 := x - (us x 1 &&& 1431655765)
def bc2 (x : Int32) : Int32 := (x &&& 858993459) + (us x 2 &&& 858993459)
def bc3 (x : Int32) : Int32 := (x + us x 4) &&& 252645135
def bc4 (x : Int32) : Int32 := x + us x 8
def bc5 (x : Int32) : Int32 := x + us x 16
theorem bc_all : ∀ m, m < 512 → bc5 (bc4 (bc3 (bc2 (bc1 (Int32.ofNat m))))) &&& 63 = Int32.ofNat (pc9 m) := by decide +kernel
theorem c_bitCount {m : Nat} (hm : m < 512) : CT G mJ6_bitCount_0f7a4 [JV (m : Int)] h N 0 0 (PV (JV (pc9 m : Int)) h N) := by
  refine CT_of (by decide +kernel) rfl (by simp [Value.category]) (Nat.le_of_ble_eq_true rfl) ?_
  change WP G mJ6_bitCount_0f7a4 _ noX _ _ h N 0 [some (JV (m : Int))] []
  rw [show (JV (m : Int) : Value) = .int (Int32.ofNat m) from congrArg Value.int (J_nat m)]
  obtain ⟨x0, e0⟩ : ∃ x0 : Int32, Int32.ofNat m = x0 := ⟨_, rfl⟩
  rw [e0]
  refine wp_iload_n dJ6_bitCount_0f7a4_0 rfl ?_
  refine wp_iload_n dJ6_bitCount_0f7a4_1 rfl ?_
  refine wp_iconst dJ6_bitCount_0f7a4_2 ?_
  refine wp_iushrR (v := us x0 1) dJ6_bitCount_0f7a4_3 rfl ?_
  refine wp_ldcw dJ6_bitCount_0f7a4_4 ctJ6_265 ?_
  refine wp_iand dJ6_bitCount_0f7a4_7 ?_
  refine wp_isubR dJ6_bitCount_0f7a4_8 ?_
  refine wp_istore_n dJ6_bitCount_0f7a4_9 (Nat.le_of_ble_eq_true rfl) rfl ?_
  obtain ⟨x1, e1⟩ : ∃ x1 : Int32, bc1 x0 = x1 := ⟨_, rfl⟩
  change WP G mJ6_bitCount_0f7a4 _ _ _ _ h N 10 [some (.int (bc1 x0))] []
  rw [e1]
  refine wp_iload_n dJ6_bitCount_0f7a4_10 rfl ?_
  refine wp_ldcw dJ6_bitCount_0f7a4_11 ctJ6_266 ?_
  refine wp_iand dJ6_bitCount_0f7a4_14 ?_
  refine wp_iload_n dJ6_bitCount_0f7a4_15 rfl ?_
  refine wp_iconst dJ6_bitCount_0f7a4_16 ?_
  refine wp_iushrR (v := us x1 2) dJ6_bitCount_0f7a4_17 rfl ?_
  refine wp_ldcw dJ6_bitCount_0f7a4_18 ctJ6_266 ?_
  refine wp_iand dJ6_bitCount_0f7a4_21 ?_
  refine wp_iaddR dJ6_bitCount_0f7a4_22 ?_
  refine wp_istore_n dJ6_bitCount_0f7a4_23 (Nat.le_of_ble_eq_true rfl) rfl ?_
  obtain ⟨x2, e2⟩ : ∃ x2 : Int32, bc2 x1 = x2 := ⟨_, rfl⟩
  change WP G mJ6_bitCount_0f7a4 _ _ _ _ h N 24 [some (.int (bc2 x1))] []
  rw [e2]
  refine wp_iload_n dJ6_bitCount_0f7a4_24 rfl ?_
  refine wp_iload_n dJ6_bitCount_0f7a4_25 rfl ?_
  refine wp_iconst dJ6_bitCount_0f7a4_26 ?_
  refine wp_iushrR (v := us x2 4) dJ6_bitCount_0f7a4_27 rfl ?_
  refine wp_iaddR dJ6_bitCount_0f7a4_28 ?_
  refine wp_ldcw dJ6_bitCount_0f7a4_29 ctJ6_267 ?_
  refine wp_iand dJ6_bitCount_0f7a4_32 ?_
  refine wp_istore_n dJ6_bitCount_0f7a4_33 (Nat.le_of_ble_eq_true rfl) rfl ?_
  obtain ⟨x3, e3⟩ : ∃ x3 : Int32, bc3 x2 = x3 := ⟨_, rfl⟩
  change WP G mJ6_bitCount_0f7a4 _ _ _ _ h N 34 [some (.int (bc3 x2))] []
  rw [e3]
  refine wp_iload_n dJ6_bitCount_0f7a4_34 rfl ?_
  refine wp_iload_n dJ6_bitCount_0f7a4_35 rfl ?_
  refine wp_bipush dJ6_bitCount_0f7a4_36 rfl ?_
  refine wp_iushrR (v := us x3 8) dJ6_bitCount_0f7a4_38 rfl ?_
  refine wp_iaddR dJ6_bitCount_0f7a4_39 ?_
  refine wp_istore_n dJ6_bitCount_0f7a4_40 (Nat.le_of_ble_eq_true rfl) rfl ?_
  obtain ⟨x4, e4⟩ : ∃ x4 : Int32, bc4 x3 = x4 := ⟨_, rfl⟩
  change WP G mJ6_bitCount_0f7a4 _ _ _ _ h N 41 [some (.int (bc4 x3))] []
  rw [e4]
  refine wp_iload_n dJ6_bitCount_0f7a4_41 rfl ?_
  refine wp_iload_n dJ6_bitCount_0f7a4_42 rfl ?_
  refine wp_bipush dJ6_bitCount_0f7a4_43 rfl ?_
  refine wp_iushrR (v := us x4 16) dJ6_bitCount_0f7a4_45 rfl ?_
  refine wp_iaddR dJ6_bitCount_0f7a4_46 ?_
  refine wp_istore_n dJ6_bitCount_0f7a4_47 (Nat.le_of_ble_eq_true rfl) rfl ?_
  change WP G mJ6_bitCount_0f7a4 _ _ _ _ h N 48 [some (.int (bc5 x4))] []
  refine wp_iload_n dJ6_bitCount_0f7a4_48 rfl ?_
  refine wp_bipush dJ6_bitCount_0f7a4_49 rfl ?_
  refine wp_iand dJ6_bitCount_0f7a4_51 ?_
  refine wp_iret dJ6_bitCount_0f7a4_52 rfl ?_
  refine ⟨?_, rfl, rfl⟩
  rw [← e4, ← e3, ← e2, ← e1, ← e0, show (JV (pc9 m : Int) : Value) = .int (Int32.ofNat (pc9 m)) from congrArg Value.int (J_nat _)]
  exact congrArg (fun v => some (Value.int v)) (bc_all m hm)
theorem pc_or : ∀ m, m < 512 → ∀ o, o < 9 → Nat.testBit m o = false → pc9 (m ||| 2 ^ o) = pc9 m + 1 ∧ (m ||| 2 ^ o) < 512 := by decide +kernel
end Lit
section Isd
variable {G : Ctx} {h : AH} {N : Nat} {S : ST} {st : Int} {K : KTup} {eb ee lb le rm : Nat → Int} {ld : Int} {s : LState}
theorem L_isDone (pl : PL S eb ee lb le rm ld s) (sp : SPI G h S st K) (db : DBE S) {t : Nat} (ht : (t : Int) < S 13 0 0) : CT G mL_isDone [.ref (cB G), JV (t : Int)] h N 0 0 (GQ G S K N (JV (S 9 t 0))) := by
  have w := sp.2.2.1
  have tp := sp.2.2.2.1
  have tf := pl.tf w tp db ht
  have tc := tf.tc
  obtain ⟨-, ⟨-, t9, -, -, t5, -⟩, -, -⟩ := tf
  obtain ⟨hv, ehv⟩ : ∃ hv : Int, holdF S s.1 s.2.1 s.2.2.1 t = hv := ⟨_, rfl⟩
  rw [ehv] at tc
  have hr : -1 ≤ hv ∧ hv ≤ 2 := by omega
  have br : -1 ≤ s.1 t := by omega
  refine CT_of (by decide +kernel) rfl (by simp [Value.category]) (Nat.le_of_ble_eq_true rfl) ?_
  change WP G mL_isDone _ noX _ _ h N 0 [some (.ref (cB G)), some (JV (t : Int))] []
  refine wp_aload_n dL_isDone_0 rfl ?_
  refine wp_iload_n dL_isDone_1 rfl ?_
  refine wp_v1 0 0 (g_holds (N := N) pl sp ht) cvL_70 dL_isDone_2 ⟨Nat.le_of_ble_eq_true rfl, Nat.le_of_ble_eq_true rfl⟩ (Nat.le_of_ble_eq_true rfl) sp.1 rfl rfl (by omega) (by omega) (fun r h1 N1 hq => ?_)
  obtain ⟨rfl, hN1, sp1⟩ := hq
  rw [hN1, ehv]
  change WP G mL_isDone _ noX _ _ h1 N 5 [some (.ref (cB G)), some (JV (t : Int))] [JV hv]
  refine wp_iconst dL_isDone_5 ?_
  refine wp_icmp_ne 21 dL_isDone_6 (by decide) ⟨by omega, by omega⟩ ⟨by omega, by omega⟩ (fun c_6 => ?_) (fun c_6 => ?_)
  · refine wp_iconst dL_isDone_21 ?_
    refine wp_zret dL_isDone_22 rfl (Or.inl rfl) ?_
    exact ⟨by rw [show S 9 t 0 = 0 by omega], rfl, sp1⟩
  · refine wp_aload_n dL_isDone_9 rfl ?_
    refine wp_iload_n dL_isDone_10 rfl ?_
    refine wp_v1 0 0 (g_begin (N := N) pl sp1 ht) cvL_115 dL_isDone_11 ⟨Nat.le_of_ble_eq_true rfl, Nat.le_of_ble_eq_true rfl⟩ (Nat.le_of_ble_eq_true rfl) sp1.1 rfl rfl (by omega) (by omega) (fun r h2 N2 hq => ?_)
    obtain ⟨rfl, hN2, sp2⟩ := hq
    rw [hN2]
    change WP G mL_isDone _ noX _ _ h2 N 14 [some (.ref (cB G)), some (JV (t : Int))] [JV (s.1 t)]
    refine wp_if_lt 21 dL_isDone_14 (by decide) ⟨by omega, by omega⟩ (fun c_14 => ?_) (fun c_14 => ?_)
    · refine wp_iconst dL_isDone_21 ?_
      refine wp_zret dL_isDone_22 rfl (Or.inl rfl) ?_
      exact ⟨by rw [show S 9 t 0 = 0 by omega], rfl, sp2⟩
    · refine wp_iconst dL_isDone_17 ?_
      refine wp_goto 22 dL_isDone_18 (by decide) ?_
      refine wp_zret dL_isDone_22 rfl (Or.inr rfl) ?_
      exact ⟨by rw [show S 9 t 0 = 1 by omega], rfl, sp2⟩
end Isd

/-! ===== branches, division, bits, longs, doubles, ends ===== -/
theorem J_lt {x y : Int} (hx : InR x) (hy : InR y) : Int32.ofInt x < Int32.ofInt y ↔ x < y := by
  rw [Int32.lt_iff_toInt_lt, J_toInt hx, J_toInt hy]
theorem J_le {x y : Int} (hx : InR x) (hy : InR y) : Int32.ofInt x ≤ Int32.ofInt y ↔ x ≤ y := by
  rw [Int32.le_iff_toInt_le, J_toInt hx, J_toInt hy]
theorem J_eq {x y : Int} (hx : InR x) (hy : InR y) : Int32.ofInt x = Int32.ofInt y ↔ x = y := by
  rw [← Int32.toInt_inj, J_toInt hx, J_toInt hy]
theorem J_nat (n : Nat) : Int32.ofInt (n : Int) = Int32.ofNat n := by
  apply Int32.toBitVec_inj.mp
  rw [Int32.toBitVec_ofInt]
  exact BitVec.ofInt_natCast 32 n
theorem J_clamp {x : Int} (h0 : 0 ≤ x) (h1 : x < 2147483648) : (Int32.ofInt x).toNatClampNeg = x.toNat := by
  unfold Int32.toNatClampNeg
  rw [J_toInt ⟨by omega, h1⟩]
theorem J_in {x : Int} {n : Nat} (h0 : 0 ≤ x) (h1 : x < (n : Int)) (hn : n < 2147483648) : vp_in (Int32.ofInt x) n := by
  intro hc
  rcases hc with hc | hc
  · rw [show (0 : Int32) = Int32.ofInt 0 from rfl, J_lt ⟨by omega, by omega⟩ ⟨by omega, by omega⟩] at hc
    omega
  · rw [J_clamp h0 (by omega)] at hc
    omega
theorem J_div {x y : Int} (hx : InR x) (hx0 : 0 ≤ x) (hy : InR y) (hy0 : 0 < y) : Int32.ofInt x / Int32.ofInt y = Int32.ofInt (x / y) := by
  apply Int32.toInt_inj.mp
  have h2 : Int32.ofInt y ≠ -1 := by
    intro hc
    have := congrArg Int32.toInt hc
    rw [J_toInt hy] at this
    have h3 : (-1 : Int32).toInt = -1 := by decide
    omega
  have h4 : x / y ≤ x := Int.ediv_le_self y hx0
  have h5 : 0 ≤ x / y := Int.ediv_nonneg hx0 (by omega)
  rw [Int32.toInt_div_of_ne_right _ _ h2, J_toInt hx, J_toInt hy, J_toInt ⟨by omega, by have := hx.2; omega⟩, Int.tdiv_eq_ediv_of_nonneg hx0]
theorem J_rem {x y : Int} (hx : InR x) (hx0 : 0 ≤ x) (hy : InR y) (hy0 : 0 < y) : Int32.ofInt x - Int32.ofInt x / Int32.ofInt y * Int32.ofInt y = Int32.ofInt (x % y) := by
  rw [J_div hx hx0 hy hy0, ← Int32.ofInt_mul, ← Int32.ofInt_sub]
  congr 1
  have := Int.mul_ediv_add_emod x y
  have h2 : x / y * y = y * (x / y) := Int.mul_comm _ _
  omega
theorem sw_s : ∀ n, n < 32 → ((Int32.ofNat n &&& 31).toBitVec.smod 32).toNat = n := by decide +kernel
theorem J_shr {x y : Int} (hx0 : 0 ≤ x) (hx : x < 2147483648) (hy0 : 0 ≤ y) (hy : y < 32) : Int32.ofInt x >>> (Int32.ofInt y &&& 31) = Int32.ofInt ((x.toNat / 2 ^ y.toNat : Nat) : Int) := by
  obtain ⟨a, rfl⟩ := Int.eq_ofNat_of_zero_le hx0
  obtain ⟨b, rfl⟩ := Int.eq_ofNat_of_zero_le hy0
  rw [J_nat, J_nat, J_nat, Int.toNat_natCast, Int.toNat_natCast]
  exact pk_shrN (by omega) _ _ (sw_s b (by omega))
theorem J_shl {x y : Int} (hx0 : 0 ≤ x) (hy0 : 0 ≤ y) (hy : y < 32) (hz : x.toNat * 2 ^ y.toNat < 2 ^ 32) : Int32.ofInt x <<< (Int32.ofInt y &&& 31) = Int32.ofInt ((x.toNat * 2 ^ y.toNat : Nat) : Int) := by
  obtain ⟨a, rfl⟩ := Int.eq_ofNat_of_zero_le hx0
  obtain ⟨b, rfl⟩ := Int.eq_ofNat_of_zero_le hy0
  rw [J_nat, J_nat, J_nat]
  rw [Int.toNat_natCast, Int.toNat_natCast] at hz ⊢
  exact pk_shlN _ _ (sw_s b (by omega)) hz
theorem J_or (a b : Nat) : Int32.ofInt (a : Int) ||| Int32.ofInt (b : Int) = Int32.ofInt ((a ||| b : Nat) : Int) := by
  rw [J_nat, J_nat, J_nat]
  apply Int32.toBitVec_inj.mp
  rw [Int32.toBitVec_or]
  show BitVec.ofNat 32 a ||| BitVec.ofNat 32 b = BitVec.ofNat 32 (a ||| b)
  exact BitVec.ofNat_or.symm
theorem J_and1 {x : Int} (hx0 : 0 ≤ x) (hx : x < 2147483648) : Int32.ofInt x &&& Int32.ofInt 1 = Int32.ofInt (x % 2) := by
  obtain ⟨a, rfl⟩ := Int.eq_ofNat_of_zero_le hx0
  rw [J_nat, show Int32.ofInt 1 = (1 : Int32) from rfl]
  have := pk_andN (n := a) (by omega) (m := (1 : Int32)) 1 (by decide)
  rw [show nI a = Int32.ofNat a from rfl] at this
  rw [this]
  show Int32.ofNat _ = _
  rw [← J_nat]
  congr 1
theorem J_and63 (x : Int32) : ∃ j : Nat, j < 64 ∧ x &&& Int32.ofInt 63 = Int32.ofInt (j : Int) := by
  obtain ⟨j, h1, h2⟩ := pk_andE x (m := (63 : Int32)) 6 (by decide)
  exact ⟨j, h1, by rw [J_nat]; exact h2⟩
section Rules2
variable {G : Ctx} {μ : MI} {Q : PQ} {X : PX} {k n : Nat} {h : AH} {N : Nat} {pc : Nat} {L : List (Option Value)} {st : List Value}
theorem WP.br {p1 p2 : Nat} {st1 : List Value} {P1 P2 : Prop} (k1 : P1 → WP G μ Q X k n h N p1 L st1) (k2 : P2 → WP G μ Q X k n h N p2 L st1)
    (hs : ∀ {p : Program} {e : Env} {R : Room} {s : State} {m : MethodId} {args : Array Value} {below : List Frame} {meth : Method} {c : Code} {H : Heap} {locs : List Loc} {cells slots : Nat} {ls : Array Slot} {Z : State → Prop},
      FX G μ p s m args meth c → (P1 → W p (cL G) e R s m args below meth c H locs cells slots Z (F0 m p1 ls st1)) → (P2 → W p (cL G) e R s m args below meth c H locs cells slots Z (F0 m p2 ls st1)) → W p (cL G) e R s m args below meth c H locs cells slots Z (F0 m pc ls st)) : WP G μ Q X k n h N pc L st := by
  intro p e R s m args below meth c H locs cells slots mc ms ls F a1 a2 a3 a4 a5 a6 hR hS hL
  exact hs F (fun q => k1 q p e R s m args below meth c H locs cells slots mc ms ls F a1 a2 a3 a4 a5 a6 hR hS hL) (fun q => k2 q p e R s m args below meth c H locs cells slots mc ms ls F a1 a2 a3 a4 a5 a6 hR hS hL)
theorem wp_goto {off : Int} (tgt : Nat) (d : decode (mC μ) pc = .ok (.goto off, 3)) (ht : (pc : Int) + off = (tgt : Int)) (kk : WP G μ Q X k n h N tgt L st) : WP G μ Q X k n h N pc L st :=
  kk.go fun F _ _ _ _ _ _ _ w => lv_goto F.1 F.2.1 d ht w
theorem wp_dup {v : Value} (d : decode (mC μ) pc = .ok (.dup, 1)) (hv : v.category = 1) (kk : WP G μ Q X k n h N (pc + 1) L (v :: v :: st)) : WP G μ Q X k n h N pc L (v :: st) :=
  kk.go fun F _ _ _ _ _ _ _ w => lv_dup F.1 F.2.1 d hv w
theorem wp_dup2 {v u : Value} (d : decode (mC μ) pc = .ok (.dup2, 1)) (hv : v.category = 1) (hu : u.category = 1) (kk : WP G μ Q X k n h N (pc + 1) L (v :: u :: v :: u :: st)) : WP G μ Q X k n h N pc L (v :: u :: st) :=
  kk.go fun F _ _ _ _ _ _ _ w => lv_dup2_11 F.1 F.2.1 d hv hu w
theorem wp_idiv {x y : Int} (d : decode (mC μ) pc = .ok (.idiv, 1)) (hx : InR x) (hx0 : 0 ≤ x) (hy : InR y) (hy0 : 0 < y) (kk : WP G μ Q X k n h N (pc + 1) L (JV (x / y) :: st)) : WP G μ Q X k n h N pc L (JV y :: JV x :: st) :=
  kk.go fun F _ _ _ _ _ _ _ w => lv_idiv F.1 F.2.1 d (by rw [show (0 : Int32) = Int32.ofInt 0 from rfl, J_eq hy ⟨by omega, by omega⟩]; omega) (by rw [J_div hx hx0 hy hy0]; exact w)
theorem wp_irem {x y : Int} (d : decode (mC μ) pc = .ok (.irem, 1)) (hx : InR x) (hx0 : 0 ≤ x) (hy : InR y) (hy0 : 0 < y) (kk : WP G μ Q X k n h N (pc + 1) L (JV (x % y) :: st)) : WP G μ Q X k n h N pc L (JV y :: JV x :: st) :=
  kk.go fun F _ _ _ _ _ _ _ w => lv_irem F.1 F.2.1 d (by rw [show (0 : Int32) = Int32.ofInt 0 from rfl, J_eq hy ⟨by omega, by omega⟩]; omega) (by rw [J_rem hx hx0 hy hy0]; exact w)
theorem wp_ishr {x y : Int} (d : decode (mC μ) pc = .ok (.ishr, 1)) (hx0 : 0 ≤ x) (hx : x < 2147483648) (hy0 : 0 ≤ y) (hy : y < 32) (kk : WP G μ Q X k n h N (pc + 1) L (JV ((x.toNat / 2 ^ y.toNat : Nat) : Int) :: st)) : WP G μ Q X k n h N pc L (JV y :: JV x :: st) :=
  kk.go fun F _ _ _ _ _ _ _ w => lv_ishr F.1 F.2.1 d (by rw [J_shr hx0 hx hy0 hy]; exact w)
theorem wp_ishl {x y : Int} (d : decode (mC μ) pc = .ok (.ishl, 1)) (hx0 : 0 ≤ x) (hy0 : 0 ≤ y) (hy : y < 32) (hz : x.toNat * 2 ^ y.toNat < 2 ^ 32) (kk : WP G μ Q X k n h N (pc + 1) L (JV ((x.toNat * 2 ^ y.toNat : Nat) : Int) :: st)) : WP G μ Q X k n h N pc L (JV y :: JV x :: st) :=
  kk.go fun F _ _ _ _ _ _ _ w => lv_ishl F.1 F.2.1 d (by rw [J_shl hx0 hy0 hy hz]; exact w)
theorem wp_and1 {x : Int} (d : decode (mC μ) pc = .ok (.iand, 1)) (hx0 : 0 ≤ x) (hx : x < 2147483648) (kk : WP G μ Q X k n h N (pc + 1) L (JV (x % 2) :: st)) : WP G μ Q X k n h N pc L (JV 1 :: JV x :: st) :=
  kk.go fun F _ _ _ _ _ _ _ w => lv_iand F.1 F.2.1 d (by rw [J_and1 hx0 hx]; exact w)
theorem wp_iand {x y : Int32} (d : decode (mC μ) pc = .ok (.iand, 1)) (kk : WP G μ Q X k n h N (pc + 1) L (.int (x &&& y) :: st)) : WP G μ Q X k n h N pc L (.int y :: .int x :: st) :=
  kk.go fun F _ _ _ _ _ _ _ w => lv_iand F.1 F.2.1 d w
theorem wp_ior {x y : Nat} (d : decode (mC μ) pc = .ok (.ior, 1)) (kk : WP G μ Q X k n h N (pc + 1) L (JV ((x ||| y : Nat) : Int) :: st)) : WP G μ Q X k n h N pc L (JV (y : Int) :: JV (x : Int) :: st) :=
  kk.go fun F _ _ _ _ _ _ _ w => lv_ior F.1 F.2.1 d (by rw [J_or]; exact w)
theorem wp_i2l {x : Int32} (d : decode (mC μ) pc = .ok (.i2l, 1)) (kk : WP G μ Q X k n h N (pc + 1) L (.long x.toInt64 :: st)) : WP G μ Q X k n h N pc L (.int x :: st) :=
  kk.go fun F _ _ _ _ _ _ _ w => lv_i2l F.1 F.2.1 d rfl w
theorem wp_ladd {x y : Int64} (d : decode (mC μ) pc = .ok (.ladd, 1)) (kk : WP G μ Q X k n h N (pc + 1) L (.long (x + y) :: st)) : WP G μ Q X k n h N pc L (.long y :: .long x :: st) :=
  kk.go fun F _ _ _ _ _ _ _ w => lv_ladd F.1 F.2.1 d w
theorem wp_lmul {x y : Int64} (d : decode (mC μ) pc = .ok (.lmul, 1)) (kk : WP G μ Q X k n h N (pc + 1) L (.long (x * y) :: st)) : WP G μ Q X k n h N pc L (.long y :: .long x :: st) :=
  kk.go fun F _ _ _ _ _ _ _ w => lv_lmul F.1 F.2.1 d w
theorem wp_ldc2 {i : Nat} {v : Int64} (d : decode (mC μ) pc = .ok (.ldc2_w i, 3)) (hw : Cond.constantLong (mY μ).cls i v ∈ AW) (kk : WP G μ Q X k n h N (pc + 3) L (.long v :: st)) : WP G μ Q X k n h N pc L st :=
  kk.go fun F _ _ _ _ _ _ _ w => lv_ldc2 F.1 F.2.1 F.2.2.2.2.1 (F.2.2.2.2.2.1 _ hw) d w
theorem wp_ldcw {i : Nat} {v : Int32} (d : decode (mC μ) pc = .ok (.ldc_w i, 3)) (hw : Cond.constant (mY μ).cls i v ∈ AW) (kk : WP G μ Q X k n h N (pc + 3) L (.int v :: st)) : WP G μ Q X k n h N pc L st :=
  kk.go fun F _ _ _ _ _ _ _ w => lv_ldcw F.1 F.2.1 F.2.2.2.2.1 (F.2.2.2.2.2.1 _ hw) d w
theorem wp_i2d {x : Int32} (d : decode (mC μ) pc = .ok (.i2d, 1)) (kk : WP G μ Q X k n h N (pc + 1) L (.double (FP.i2d x) :: st)) : WP G μ Q X k n h N pc L (.int x :: st) :=
  kk.go fun F _ _ _ _ _ _ _ w => lv_i2d F.1 F.2.1 d w
theorem wp_dconst0 (d : decode (mC μ) pc = .ok (.dconst 0, 1)) (kk : WP G μ Q X k n h N (pc + 1) L (.double 0 :: st)) : WP G μ Q X k n h N pc L st :=
  kk.go fun F _ _ _ _ _ _ _ w => lv_dconst0 F.1 F.2.1 d w
theorem wp_ddiv {x y : UInt64} (d : decode (mC μ) pc = .ok (.ddiv, 1)) (hn : vf_n64 (FP.ddiv x y)) (kk : WP G μ Q X k n h N (pc + 1) L (.double (FP.ddiv x y) :: st)) : WP G μ Q X k n h N pc L (.double y :: .double x :: st) :=
  kk.go fun F _ _ _ _ _ _ _ w => lv_ddiv F.1 F.2.1 d hn w
theorem wp_dcmp {x y : UInt64} {op : CmpOp} (d : decode (mC μ) pc = .ok (.dcmp op, 1)) (kk : WP G μ Q X k n h N (pc + 1) L (.int (Op.cmpValue (FP.dcmp x y) op) :: st)) : WP G μ Q X k n h N pc L (.double y :: .double x :: st) :=
  kk.go fun F _ _ _ _ _ _ _ w => lv_dcmp F.1 F.2.1 d w

theorem wp_icmp_eq {x y off : Int} (tgt : Nat) (d : decode (mC μ) pc = .ok (.if_icmp .eq off, 3)) (ht : (pc : Int) + off = (tgt : Int)) (hx : InR x) (hy : InR y) (k1 : x = y → WP G μ Q X k n h N tgt L st) (k2 : ¬ x = y → WP G μ Q X k n h N (pc + 3) L st) : WP G μ Q X k n h N pc L (JV y :: JV x :: st) :=
  WP.br k1 k2 fun F w1 w2 => lv_icmp_eq F.1 F.2.1 d ht (fun q => w1 (by first | (have := (J_eq hx hy).mp q; assumption) | (rw [ne_eq, J_eq hx hy] at q; exact q) | (rw [J_eq hx hy] at q; exact q) | (rw [J_lt hx hy] at q; omega) | (rw [J_le hx hy] at q; omega) | (rw [J_lt hy hx] at q; omega) | (rw [J_le hy hx] at q; omega) | (rw [ge_iff_le, J_le hy hx] at q; omega) | (rw [gt_iff_lt, J_lt hy hx] at q; omega)))
    (fun q => w2 (by first | exact Classical.not_not.mp (fun z => q (fun z2 => z ((J_eq hx hy).mp z2))) | exact (J_eq hx hy).mp q | (rw [J_eq hx hy] at q; exact q) | (rw [ne_eq, J_eq hx hy] at q; exact q) | (rw [J_lt hx hy] at q; omega) | (rw [J_le hx hy] at q; omega) | (rw [J_lt hy hx] at q; omega) | (rw [J_le hy hx] at q; omega) | (rw [ge_iff_le, J_le hy hx] at q; omega) | (rw [gt_iff_lt, J_lt hy hx] at q; omega)))
theorem wp_if_eq {x off : Int} (tgt : Nat) (d : decode (mC μ) pc = .ok (.ifCond .eq off, 3)) (ht : (pc : Int) + off = (tgt : Int)) (hx : InR x) (k1 : x = 0 → WP G μ Q X k n h N tgt L st) (k2 : ¬ x = 0 → WP G μ Q X k n h N (pc + 3) L st) : WP G μ Q X k n h N pc L (JV x :: st) := by
  have hy : InR 0 := ⟨by omega, by omega⟩
  refine WP.br k1 k2 fun F w1 w2 => lv_if_eq F.1 F.2.1 d ht (fun q => w1 ?_) (fun q => w2 ?_)
  · rw [show (0 : Int32) = Int32.ofInt 0 from rfl] at q
    first | (have := (J_eq hx hy).mp q; assumption) | (rw [ne_eq, J_eq hx hy] at q; exact q) | (rw [J_eq hx hy] at q; exact q) | (rw [J_lt hx hy] at q; omega) | (rw [J_le hx hy] at q; omega) | (rw [J_lt hy hx] at q; omega) | (rw [J_le hy hx] at q; omega) | (rw [ge_iff_le, J_le hy hx] at q; omega) | (rw [gt_iff_lt, J_lt hy hx] at q; omega)
  · rw [show (0 : Int32) = Int32.ofInt 0 from rfl] at q
    first | exact Classical.not_not.mp (fun z => q (fun z2 => z ((J_eq hx hy).mp z2))) | exact (J_eq hx hy).mp q | (rw [J_eq hx hy] at q; exact q) | (rw [ne_eq, J_eq hx hy] at q; exact q) | (rw [J_lt hx hy] at q; omega) | (rw [J_le hx hy] at q; omega) | (rw [J_lt hy hx] at q; omega) | (rw [J_le hy hx] at q; omega) | (rw [ge_iff_le, J_le hy hx] at q; omega) | (rw [gt_iff_lt, J_lt hy hx] at q; omega)
theorem wp_icmp_ne {x y off : Int} (tgt : Nat) (d : decode (mC μ) pc = .ok (.if_icmp .ne off, 3)) (ht : (pc : Int) + off = (tgt : Int)) (hx : InR x) (hy : InR y) (k1 : ¬ x = y → WP G μ Q X k n h N tgt L st) (k2 : x = y → WP G μ Q X k n h N (pc + 3) L st) : WP G μ Q X k n h N pc L (JV y :: JV x :: st) :=
  WP.br k1 k2 fun F w1 w2 => lv_icmp_ne F.1 F.2.1 d ht (fun q => w1 (by first | (have := (J_eq hx hy).mp q; assumption) | (rw [ne_eq, J_eq hx hy] at q; exact q) | (rw [J_eq hx hy] at q; exact q) | (rw [J_lt hx hy] at q; omega) | (rw [J_le hx hy] at q; omega) | (rw [J_lt hy hx] at q; omega) | (rw [J_le hy hx] at q; omega) | (rw [ge_iff_le, J_le hy hx] at q; omega) | (rw [gt_iff_lt, J_lt hy hx] at q; omega)))
    (fun q => w2 (by first | exact Classical.not_not.mp (fun z => q (fun z2 => z ((J_eq hx hy).mp z2))) | exact (J_eq hx hy).mp q | (rw [J_eq hx hy] at q; exact q) | (rw [ne_eq, J_eq hx hy] at q; exact q) | (rw [J_lt hx hy] at q; omega) | (rw [J_le hx hy] at q; omega) | (rw [J_lt hy hx] at q; omega) | (rw [J_le hy hx] at q; omega) | (rw [ge_iff_le, J_le hy hx] at q; omega) | (rw [gt_iff_lt, J_lt hy hx] at q; omega)))
theorem wp_if_ne {x off : Int} (tgt : Nat) (d : decode (mC μ) pc = .ok (.ifCond .ne off, 3)) (ht : (pc : Int) + off = (tgt : Int)) (hx : InR x) (k1 : ¬ x = 0 → WP G μ Q X k n h N tgt L st) (k2 : x = 0 → WP G μ Q X k n h N (pc + 3) L st) : WP G μ Q X k n h N pc L (JV x :: st) := by
  have hy : InR 0 := ⟨by omega, by omega⟩
  refine WP.br k1 k2 fun F w1 w2 => lv_if_ne F.1 F.2.1 d ht (fun q => w1 ?_) (fun q => w2 ?_)
  · rw [show (0 : Int32) = Int32.ofInt 0 from rfl] at q
    first | (have := (J_eq hx hy).mp q; assumption) | (rw [ne_eq, J_eq hx hy] at q; exact q) | (rw [J_eq hx hy] at q; exact q) | (rw [J_lt hx hy] at q; omega) | (rw [J_le hx hy] at q; omega) | (rw [J_lt hy hx] at q; omega) | (rw [J_le hy hx] at q; omega) | (rw [ge_iff_le, J_le hy hx] at q; omega) | (rw [gt_iff_lt, J_lt hy hx] at q; omega)
  · rw [show (0 : Int32) = Int32.ofInt 0 from rfl] at q
    first | exact Classical.not_not.mp (fun z => q (fun z2 => z ((J_eq hx hy).mp z2))) | exact (J_eq hx hy).mp q | (rw [J_eq hx hy] at q; exact q) | (rw [ne_eq, J_eq hx hy] at q; exact q) | (rw [J_lt hx hy] at q; omega) | (rw [J_le hx hy] at q; omega) | (rw [J_lt hy hx] at q; omega) | (rw [J_le hy hx] at q; omega) | (rw [ge_iff_le, J_le hy hx] at q; omega) | (rw [gt_iff_lt, J_lt hy hx] at q; omega)
theorem wp_icmp_lt {x y off : Int} (tgt : Nat) (d : decode (mC μ) pc = .ok (.if_icmp .lt off, 3)) (ht : (pc : Int) + off = (tgt : Int)) (hx : InR x) (hy : InR y) (k1 : x < y → WP G μ Q X k n h N tgt L st) (k2 : y ≤ x → WP G μ Q X k n h N (pc + 3) L st) : WP G μ Q X k n h N pc L (JV y :: JV x :: st) :=
  WP.br k1 k2 fun F w1 w2 => lv_icmp_lt F.1 F.2.1 d ht (fun q => w1 (by first | (have := (J_eq hx hy).mp q; assumption) | (rw [ne_eq, J_eq hx hy] at q; exact q) | (rw [J_eq hx hy] at q; exact q) | (rw [J_lt hx hy] at q; omega) | (rw [J_le hx hy] at q; omega) | (rw [J_lt hy hx] at q; omega) | (rw [J_le hy hx] at q; omega) | (rw [ge_iff_le, J_le hy hx] at q; omega) | (rw [gt_iff_lt, J_lt hy hx] at q; omega)))
    (fun q => w2 (by first | exact Classical.not_not.mp (fun z => q (fun z2 => z ((J_eq hx hy).mp z2))) | exact (J_eq hx hy).mp q | (rw [J_eq hx hy] at q; exact q) | (rw [ne_eq, J_eq hx hy] at q; exact q) | (rw [J_lt hx hy] at q; omega) | (rw [J_le hx hy] at q; omega) | (rw [J_lt hy hx] at q; omega) | (rw [J_le hy hx] at q; omega) | (rw [ge_iff_le, J_le hy hx] at q; omega) | (rw [gt_iff_lt, J_lt hy hx] at q; omega)))
theorem wp_if_lt {x off : Int} (tgt : Nat) (d : decode (mC μ) pc = .ok (.ifCond .lt off, 3)) (ht : (pc : Int) + off = (tgt : Int)) (hx : InR x) (k1 : x < 0 → WP G μ Q X k n h N tgt L st) (k2 : 0 ≤ x → WP G μ Q X k n h N (pc + 3) L st) : WP G μ Q X k n h N pc L (JV x :: st) := by
  have hy : InR 0 := ⟨by omega, by omega⟩
  refine WP.br k1 k2 fun F w1 w2 => lv_if_lt F.1 F.2.1 d ht (fun q => w1 ?_) (fun q => w2 ?_)
  · rw [show (0 : Int32) = Int32.ofInt 0 from rfl] at q
    first | (have := (J_eq hx hy).mp q; assumption) | (rw [ne_eq, J_eq hx hy] at q; exact q) | (rw [J_eq hx hy] at q; exact q) | (rw [J_lt hx hy] at q; omega) | (rw [J_le hx hy] at q; omega) | (rw [J_lt hy hx] at q; omega) | (rw [J_le hy hx] at q; omega) | (rw [ge_iff_le, J_le hy hx] at q; omega) | (rw [gt_iff_lt, J_lt hy hx] at q; omega)
  · rw [show (0 : Int32) = Int32.ofInt 0 from rfl] at q
    first | exact Classical.not_not.mp (fun z => q (fun z2 => z ((J_eq hx hy).mp z2))) | exact (J_eq hx hy).mp q | (rw [J_eq hx hy] at q; exact q) | (rw [ne_eq, J_eq hx hy] at q; exact q) | (rw [J_lt hx hy] at q; omega) | (rw [J_le hx hy] at q; omega) | (rw [J_lt hy hx] at q; omega) | (rw [J_le hy hx] at q; omega) | (rw [ge_iff_le, J_le hy hx] at q; omega) | (rw [gt_iff_lt, J_lt hy hx] at q; omega)
theorem wp_icmp_ge {x y off : Int} (tgt : Nat) (d : decode (mC μ) pc = .ok (.if_icmp .ge off, 3)) (ht : (pc : Int) + off = (tgt : Int)) (hx : InR x) (hy : InR y) (k1 : y ≤ x → WP G μ Q X k n h N tgt L st) (k2 : x < y → WP G μ Q X k n h N (pc + 3) L st) : WP G μ Q X k n h N pc L (JV y :: JV x :: st) :=
  WP.br k1 k2 fun F w1 w2 => lv_icmp_ge F.1 F.2.1 d ht (fun q => w1 (by first | (have := (J_eq hx hy).mp q; assumption) | (rw [ne_eq, J_eq hx hy] at q; exact q) | (rw [J_eq hx hy] at q; exact q) | (rw [J_lt hx hy] at q; omega) | (rw [J_le hx hy] at q; omega) | (rw [J_lt hy hx] at q; omega) | (rw [J_le hy hx] at q; omega) | (rw [ge_iff_le, J_le hy hx] at q; omega) | (rw [gt_iff_lt, J_lt hy hx] at q; omega)))
    (fun q => w2 (by first | exact Classical.not_not.mp (fun z => q (fun z2 => z ((J_eq hx hy).mp z2))) | exact (J_eq hx hy).mp q | (rw [J_eq hx hy] at q; exact q) | (rw [ne_eq, J_eq hx hy] at q; exact q) | (rw [J_lt hx hy] at q; omega) | (rw [J_le hx hy] at q; omega) | (rw [J_lt hy hx] at q; omega) | (rw [J_le hy hx] at q; omega) | (rw [ge_iff_le, J_le hy hx] at q; omega) | (rw [gt_iff_lt, J_lt hy hx] at q; omega)))
theorem wp_if_ge {x off : Int} (tgt : Nat) (d : decode (mC μ) pc = .ok (.ifCond .ge off, 3)) (ht : (pc : Int) + off = (tgt : Int)) (hx : InR x) (k1 : 0 ≤ x → WP G μ Q X k n h N tgt L st) (k2 : x < 0 → WP G μ Q X k n h N (pc + 3) L st) : WP G μ Q X k n h N pc L (JV x :: st) := by
  have hy : InR 0 := ⟨by omega, by omega⟩
  refine WP.br k1 k2 fun F w1 w2 => lv_if_ge F.1 F.2.1 d ht (fun q => w1 ?_) (fun q => w2 ?_)
  · rw [show (0 : Int32) = Int32.ofInt 0 from rfl] at q
    first | (have := (J_eq hx hy).mp q; assumption) | (rw [ne_eq, J_eq hx hy] at q; exact q) | (rw [J_eq hx hy] at q; exact q) | (rw [J_lt hx hy] at q; omega) | (rw [J_le hx hy] at q; omega) | (rw [J_lt hy hx] at q; omega) | (rw [J_le hy hx] at q; omega) | (rw [ge_iff_le, J_le hy hx] at q; omega) | (rw [gt_iff_lt, J_lt hy hx] at q; omega)
  · rw [show (0 : Int32) = Int32.ofInt 0 from rfl] at q
    first | exact Classical.not_not.mp (fun z => q (fun z2 => z ((J_eq hx hy).mp z2))) | exact (J_eq hx hy).mp q | (rw [J_eq hx hy] at q; exact q) | (rw [ne_eq, J_eq hx hy] at q; exact q) | (rw [J_lt hx hy] at q; omega) | (rw [J_le hx hy] at q; omega) | (rw [J_lt hy hx] at q; omega) | (rw [J_le hy hx] at q; omega) | (rw [ge_iff_le, J_le hy hx] at q; omega) | (rw [gt_iff_lt, J_lt hy hx] at q; omega)
theorem wp_icmp_gt {x y off : Int} (tgt : Nat) (d : decode (mC μ) pc = .ok (.if_icmp .gt off, 3)) (ht : (pc : Int) + off = (tgt : Int)) (hx : InR x) (hy : InR y) (k1 : y < x → WP G μ Q X k n h N tgt L st) (k2 : x ≤ y → WP G μ Q X k n h N (pc + 3) L st) : WP G μ Q X k n h N pc L (JV y :: JV x :: st) :=
  WP.br k1 k2 fun F w1 w2 => lv_icmp_gt F.1 F.2.1 d ht (fun q => w1 (by first | (have := (J_eq hx hy).mp q; assumption) | (rw [ne_eq, J_eq hx hy] at q; exact q) | (rw [J_eq hx hy] at q; exact q) | (rw [J_lt hx hy] at q; omega) | (rw [J_le hx hy] at q; omega) | (rw [J_lt hy hx] at q; omega) | (rw [J_le hy hx] at q; omega) | (rw [ge_iff_le, J_le hy hx] at q; omega) | (rw [gt_iff_lt, J_lt hy hx] at q; omega)))
    (fun q => w2 (by first | exact Classical.not_not.mp (fun z => q (fun z2 => z ((J_eq hx hy).mp z2))) | exact (J_eq hx hy).mp q | (rw [J_eq hx hy] at q; exact q) | (rw [ne_eq, J_eq hx hy] at q; exact q) | (rw [J_lt hx hy] at q; omega) | (rw [J_le hx hy] at q; omega) | (rw [J_lt hy hx] at q; omega) | (rw [J_le hy hx] at q; omega) | (rw [ge_iff_le, J_le hy hx] at q; omega) | (rw [gt_iff_lt, J_lt hy hx] at q; omega)))
theorem wp_if_gt {x off : Int} (tgt : Nat) (d : decode (mC μ) pc = .ok (.ifCond .gt off, 3)) (ht : (pc : Int) + off = (tgt : Int)) (hx : InR x) (k1 : 0 < x → WP G μ Q X k n h N tgt L st) (k2 : x ≤ 0 → WP G μ Q X k n h N (pc + 3) L st) : WP G μ Q X k n h N pc L (JV x :: st) := by
  have hy : InR 0 := ⟨by omega, by omega⟩
  refine WP.br k1 k2 fun F w1 w2 => lv_if_gt F.1 F.2.1 d ht (fun q => w1 ?_) (fun q => w2 ?_)
  · rw [show (0 : Int32) = Int32.ofInt 0 from rfl] at q
    first | (have := (J_eq hx hy).mp q; assumption) | (rw [ne_eq, J_eq hx hy] at q; exact q) | (rw [J_eq hx hy] at q; exact q) | (rw [J_lt hx hy] at q; omega) | (rw [J_le hx hy] at q; omega) | (rw [J_lt hy hx] at q; omega) | (rw [J_le hy hx] at q; omega) | (rw [ge_iff_le, J_le hy hx] at q; omega) | (rw [gt_iff_lt, J_lt hy hx] at q; omega)
  · rw [show (0 : Int32) = Int32.ofInt 0 from rfl] at q
    first | exact Classical.not_not.mp (fun z => q (fun z2 => z ((J_eq hx hy).mp z2))) | exact (J_eq hx hy).mp q | (rw [J_eq hx hy] at q; exact q) | (rw [ne_eq, J_eq hx hy] at q; exact q) | (rw [J_lt hx hy] at q; omega) | (rw [J_le hx hy] at q; omega) | (rw [J_lt hy hx] at q; omega) | (rw [J_le hy hx] at q; omega) | (rw [ge_iff_le, J_le hy hx] at q; omega) | (rw [gt_iff_lt, J_lt hy hx] at q; omega)
theorem wp_icmp_le {x y off : Int} (tgt : Nat) (d : decode (mC μ) pc = .ok (.if_icmp .le off, 3)) (ht : (pc : Int) + off = (tgt : Int)) (hx : InR x) (hy : InR y) (k1 : x ≤ y → WP G μ Q X k n h N tgt L st) (k2 : y < x → WP G μ Q X k n h N (pc + 3) L st) : WP G μ Q X k n h N pc L (JV y :: JV x :: st) :=
  WP.br k1 k2 fun F w1 w2 => lv_icmp_le F.1 F.2.1 d ht (fun q => w1 (by first | (have := (J_eq hx hy).mp q; assumption) | (rw [ne_eq, J_eq hx hy] at q; exact q) | (rw [J_eq hx hy] at q; exact q) | (rw [J_lt hx hy] at q; omega) | (rw [J_le hx hy] at q; omega) | (rw [J_lt hy hx] at q; omega) | (rw [J_le hy hx] at q; omega) | (rw [ge_iff_le, J_le hy hx] at q; omega) | (rw [gt_iff_lt, J_lt hy hx] at q; omega)))
    (fun q => w2 (by first | exact Classical.not_not.mp (fun z => q (fun z2 => z ((J_eq hx hy).mp z2))) | exact (J_eq hx hy).mp q | (rw [J_eq hx hy] at q; exact q) | (rw [ne_eq, J_eq hx hy] at q; exact q) | (rw [J_lt hx hy] at q; omega) | (rw [J_le hx hy] at q; omega) | (rw [J_lt hy hx] at q; omega) | (rw [J_le hy hx] at q; omega) | (rw [ge_iff_le, J_le hy hx] at q; omega) | (rw [gt_iff_lt, J_lt hy hx] at q; omega)))
theorem wp_if_le {x off : Int} (tgt : Nat) (d : decode (mC μ) pc = .ok (.ifCond .le off, 3)) (ht : (pc : Int) + off = (tgt : Int)) (hx : InR x) (k1 : x ≤ 0 → WP G μ Q X k n h N tgt L st) (k2 : 0 < x → WP G μ Q X k n h N (pc + 3) L st) : WP G μ Q X k n h N pc L (JV x :: st) := by
  have hy : InR 0 := ⟨by omega, by omega⟩
  refine WP.br k1 k2 fun F w1 w2 => lv_if_le F.1 F.2.1 d ht (fun q => w1 ?_) (fun q => w2 ?_)
  · rw [show (0 : Int32) = Int32.ofInt 0 from rfl] at q
    first | (have := (J_eq hx hy).mp q; assumption) | (rw [ne_eq, J_eq hx hy] at q; exact q) | (rw [J_eq hx hy] at q; exact q) | (rw [J_lt hx hy] at q; omega) | (rw [J_le hx hy] at q; omega) | (rw [J_lt hy hx] at q; omega) | (rw [J_le hy hx] at q; omega) | (rw [ge_iff_le, J_le hy hx] at q; omega) | (rw [gt_iff_lt, J_lt hy hx] at q; omega)
  · rw [show (0 : Int32) = Int32.ofInt 0 from rfl] at q
    first | exact Classical.not_not.mp (fun z => q (fun z2 => z ((J_eq hx hy).mp z2))) | exact (J_eq hx hy).mp q | (rw [J_eq hx hy] at q; exact q) | (rw [ne_eq, J_eq hx hy] at q; exact q) | (rw [J_lt hx hy] at q; omega) | (rw [J_le hx hy] at q; omega) | (rw [J_lt hy hx] at q; omega) | (rw [J_le hy hx] at q; omega) | (rw [ge_iff_le, J_le hy hx] at q; omega) | (rw [gt_iff_lt, J_lt hy hx] at q; omega)
end Rules2

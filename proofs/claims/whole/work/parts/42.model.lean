/-! ===== the reference's state: a table of numbers (field, i, j), its link rows, its sum; and its cells ===== -/
abbrev mA1 : List (Nat × Nat × Nat × Bool) := [(1, 170, 4, false), (2, 171, 4, false), (4, 177, 4, false), (5, 178, 4, false), (7, 179, 24, false), (8, 180, 24, false), (9, 181, 24, false), (10, 182, 24, false), (12, 208, 24, true), (18, 253, 24, false), (21, 260, 24, false), (23, 264, 24, false), (30, 273, 24, false), (31, 274, 4, false), (32, 275, 4, false)]
abbrev mA2 : List (Nat × Nat × Nat × Nat) := [(3, 172, 4, 12), (11, 183, 24, 4), (13, 209, 2, 24), (19, 254, 2, 24), (20, 257, 2, 24), (22, 261, 2, 24), (27, 265, 4, 16000), (29, 270, 2, 24), (33, 276, 4, 12)]
abbrev mSC : List Nat := [0, 6, 14, 16, 17, 24, 25, 26, 28]
def e1 (G : Ctx) (b : Bool) (n : Nat) (f : Nat → Int) : va_E := match b with
  | true => eZ G n f
  | false => eI G n f
abbrev cMod (b : Nat) (M : ST) (z : Int64) : va_E := eO 11 [JV (M 0 0 0), .ref (b + 170), .ref (b + 171), .ref (b + 172), .ref (b + 177), .ref (b + 178), JV (M 6 0 0), .ref (b + 179), .ref (b + 180), .ref (b + 181), .ref (b + 182), .ref (b + 183), .ref (b + 208), .ref (b + 209), JV (M 14 0 0), .ref (b + 212), JV (M 16 0 0), JV (M 17 0 0), .ref (b + 253), .ref (b + 254), .ref (b + 257), .ref (b + 260), .ref (b + 261), .ref (b + 264), JV (M 24 0 0), JV (M 25 0 0), JV (M 26 0 0), .ref (b + 265), JV (M 28 0 0), .ref (b + 270), .ref (b + 273), .ref (b + 274), .ref (b + 275), .ref (b + 276), .long z]
def MP (G : Ctx) (N : Nat) (M : ST) (L : Nat → Nat) (z : Int64) (h : AH) : Prop :=
  h (cB G + 169) = some (cMod (cB G) M z) ∧
  (∀ q, q ∈ mA1 → h (cB G + q.2.1) = some (e1 G q.2.2.2 q.2.2.1 (fun i => M q.1 i 0))) ∧
  (∀ q, q ∈ mA2 → h (cB G + q.2.1) = some (eQ G 4 q.2.2.1 (fun i => if i < q.2.2.1 then some (cB G + (q.2.1 + 1) + i) else none)) ∧ ∀ i, i < q.2.2.1 → h (cB G + (q.2.1 + 1) + i) = some (eI G q.2.2.2 (fun j => M q.1 i j))) ∧
  h (cB G + 212) = some (eQ G 4 40 (fun i => if i < 40 then some (L i) else none)) ∧
  (∀ i, i < 40 → h (L i) = some (eI G 4 (fun j => M 15 i j)) ∧ ((cB G + 213 ≤ L i ∧ L i < cB G + 253) ∨ cB G + 283 ≤ L i) ∧ L i < N) ∧ cB G + 283 ≤ N
theorem mA1_r : ∀ q ∈ mA1, (169 < q.2.1 ∧ q.2.1 < 281 ∧ (q.2.1 < 212 ∨ 253 ≤ q.2.1)) ∧ q.1 ≠ 15 ∧ ∀ f ∈ mSC, f ≠ q.1 := by decide
theorem mA2_r : ∀ q ∈ mA2, (169 < q.2.1 ∧ q.2.1 + q.2.2.1 < 281 ∧ (q.2.1 + q.2.2.1 < 212 ∨ 253 ≤ q.2.1)) ∧ q.1 ≠ 15 ∧ ∀ f ∈ mSC, f ≠ q.1 := by decide
theorem mA1_d : ∀ q ∈ mA1, ∀ q' ∈ mA1, q' ≠ q → q'.2.1 ≠ q.2.1 ∧ q'.1 ≠ q.1 := by decide
theorem mA2_d : ∀ q ∈ mA2, ∀ q' ∈ mA2, q' ≠ q → (q'.2.1 + q'.2.2.1 < q.2.1 ∨ q.2.1 + q.2.2.1 < q'.2.1) ∧ q'.1 ≠ q.1 := by decide
theorem mA12_d : ∀ q ∈ mA1, ∀ q' ∈ mA2, (q.2.1 < q'.2.1 ∨ q'.2.1 + q'.2.2.1 < q.2.1) ∧ q'.1 ≠ q.1 := by decide
theorem mSC_d : ∀ f ∈ mSC, (∀ q ∈ mA1, q.1 ≠ f) ∧ (∀ q ∈ mA2, q.1 ≠ f) ∧ 15 ≠ f := by decide
theorem cMod_c {b : Nat} {M M' : ST} {z : Int64} (h : ∀ f ∈ mSC, M' f = M f) : cMod b M' z = cMod b M z := by
  unfold cMod
  rw [h 0 (by decide), h 6 (by decide), h 14 (by decide), h 16 (by decide), h 17 (by decide), h 24 (by decide), h 25 (by decide), h 26 (by decide), h 28 (by decide)]
section MPU
variable {G : Ctx} {N N' : Nat} {M M' : ST} {L L' : Nat → Nat} {z z' : Int64} {h h1 : AH}
theorem MP.frame (H : MP G N M L z h) (hN : N ≤ N') (k : ∀ q, cB G + 169 ≤ q → q < N → q ≠ cB G + 281 → q ≠ cB G + 282 → h1 q = h q) : MP G N' M L z h1 := by
  obtain ⟨p1, p2, p3, p4, p5, p6⟩ := H
  refine ⟨by rw [k _ (by omega) (by omega) (by omega) (by omega)]; exact p1, fun q hq => ?_, fun q hq => ⟨?_, fun i hi => ?_⟩, by rw [k _ (by omega) (by omega) (by omega) (by omega)]; exact p4, fun i hi => ?_, by omega⟩
  · have r := mA1_r q hq
    rw [k _ (by omega) (by omega) (by omega) (by omega)]; exact p2 q hq
  · have r := mA2_r q hq
    rw [k _ (by omega) (by omega) (by omega) (by omega)]; exact (p3 q hq).1
  · have r := mA2_r q hq
    rw [k _ (by omega) (by omega) (by omega) (by omega)]; exact (p3 q hq).2 i hi
  · have r := p5 i hi
    rw [k _ (by omega) (by omega) (by omega) (by omega)]; exact ⟨r.1, r.2.1, by omega⟩
theorem MP.u1 {q : Nat × Nat × Nat × Bool} (hq : q ∈ mA1) {i : Nat} {v : Int} (H : MP G N M L z h) (e : h1 = hup h (cB G + q.2.1) (e1 G q.2.2.2 q.2.2.1 (fup (fun x => M q.1 x 0) i v))) : MP G N (su M q.1 i 0 v) L z h1 := by
  obtain ⟨p1, p2, p3, p4, p5, p6⟩ := H
  have nn : ∀ a, a ≠ cB G + q.2.1 → h1 a = h a := fun a ha => hup_at e ha
  have hr := mA1_r q hq
  refine ⟨?_, fun q' hq' => ?_, fun q' hq' => ⟨?_, fun x hx => ?_⟩, ?_, fun x hx => ⟨?_, (p5 x hx).2⟩, p6⟩
  · rw [nn _ (by omega), p1, cMod_c (fun f hf => su_f (hr.2.2 f hf))]
  · by_cases hqq : q' = q
    · subst hqq
      rw [e, hup_self, su_fup]
    · have d := mA1_d q hq q' hq' hqq
      rw [nn _ (by omega), p2 q' hq', su_f d.2]
  · have d := mA12_d q hq q' hq'
    rw [nn _ (by omega), (p3 q' hq').1]
  · have d := mA12_d q hq q' hq'
    rw [nn _ (by omega), (p3 q' hq').2 x hx, su_f d.2]
  · rw [nn _ (by omega), p4]
  · have r := (p5 x hx).2
    rw [nn _ (by omega), (p5 x hx).1, su_f (fun z => hr.2.1 z.symm)]
theorem MP.u2 {q : Nat × Nat × Nat × Nat} (hq : q ∈ mA2) {i j : Nat} {v : Int} (hi : i < q.2.2.1) (H : MP G N M L z h) (e : h1 = hup h (cB G + (q.2.1 + 1) + i) (eI G q.2.2.2 (fup (fun x => M q.1 i x) j v))) : MP G N (su M q.1 i j v) L z h1 := by
  obtain ⟨p1, p2, p3, p4, p5, p6⟩ := H
  have nn : ∀ a, a ≠ cB G + (q.2.1 + 1) + i → h1 a = h a := fun a ha => hup_at e ha
  have hr := mA2_r q hq
  refine ⟨?_, fun q' hq' => ?_, fun q' hq' => ⟨?_, fun x hx => ?_⟩, ?_, fun x hx => ⟨?_, (p5 x hx).2⟩, p6⟩
  · rw [nn _ (by omega), p1, cMod_c (fun f hf => su_f (hr.2.2 f hf))]
  · have d := mA12_d q' hq' q hq
    rw [nn _ (by omega), p2 q' hq', su_f (fun z => d.2 z.symm)]
  · by_cases hqq : q' = q
    · subst hqq
      rw [nn _ (by omega), (p3 q' hq').1]
    · have d := mA2_d q hq q' hq' hqq
      rw [nn _ (by omega), (p3 q' hq').1]
  · by_cases hqq : q' = q
    · subst hqq
      by_cases hxi : x = i
      · subst hxi
        rw [e, hup_self, su_fup2]
      · rw [nn _ (by omega), (p3 q' hq').2 x hx]
        refine congrArg (fun f => some (eI G q'.2.2.2 f)) (funext fun y => (su_i hxi).symm)
    · have d := mA2_d q hq q' hq' hqq
      rw [nn _ (by omega), (p3 q' hq').2 x hx, su_f d.2]
  · rw [nn _ (by omega), p4]
  · have r := (p5 x hx).2
    rw [nn _ (by omega), (p5 x hx).1, su_f (fun z => hr.2.1 z.symm)]
theorem MP.sc {f : Nat} (hf : f ∈ mSC) {v : Int} (H : MP G N M L z h) (e : h1 = hup h (cB G + 169) (cMod (cB G) (su M f 0 0 v) z')) : MP G N (su M f 0 0 v) L z' h1 := by
  obtain ⟨p1, p2, p3, p4, p5, p6⟩ := H
  have nn : ∀ a, a ≠ cB G + 169 → h1 a = h a := fun a ha => hup_at e ha
  have d := mSC_d f hf
  refine ⟨by rw [e, hup_self], fun q' hq' => ?_, fun q' hq' => ⟨?_, fun x hx => ?_⟩, ?_, fun x hx => ⟨?_, (p5 x hx).2⟩, p6⟩
  · have r := mA1_r q' hq'
    rw [nn _ (by omega), p2 q' hq', su_f (d.1 q' hq')]
  · have r := mA2_r q' hq'
    rw [nn _ (by omega), (p3 q' hq').1]
  · have r := mA2_r q' hq'
    rw [nn _ (by omega), (p3 q' hq').2 x hx, su_f (d.2.1 q' hq')]
  · rw [nn _ (by omega), p4]
  · have r := (p5 x hx).2
    rw [nn _ (by omega), (p5 x hx).1, su_f d.2.2]
theorem MP.sum (H : MP G N M L z h) (e : h1 = hup h (cB G + 169) (cMod (cB G) M z')) : MP G N M L z' h1 := by
  obtain ⟨p1, p2, p3, p4, p5, p6⟩ := H
  have nn : ∀ a, a ≠ cB G + 169 → h1 a = h a := fun a ha => hup_at e ha
  refine ⟨by rw [e, hup_self], fun q' hq' => ?_, fun q' hq' => ⟨?_, fun x hx => ?_⟩, ?_, fun x hx => ⟨?_, (p5 x hx).2⟩, p6⟩
  · have r := mA1_r q' hq'
    rw [nn _ (by omega), p2 q' hq']
  · have r := mA2_r q' hq'
    rw [nn _ (by omega), (p3 q' hq').1]
  · have r := mA2_r q' hq'
    rw [nn _ (by omega), (p3 q' hq').2 x hx]
  · rw [nn _ (by omega), p4]
  · have r := (p5 x hx).2
    rw [nn _ (by omega), (p5 x hx).1]
theorem MP.frame2 (H : MP G N M L z h) (hN : N ≤ N') (k : ∀ q, cB G + 169 ≤ q → q < cB G + 281 → h1 q = h q) (kl : ∀ i, i < 40 → h1 (L i) = h (L i)) : MP G N' M L z h1 := by
  obtain ⟨p1, p2, p3, p4, p5, p6⟩ := H
  refine ⟨by rw [k _ (by omega) (by omega)]; exact p1, fun q hq => ?_, fun q hq => ⟨?_, fun i hi => ?_⟩, by rw [k _ (by omega) (by omega)]; exact p4, fun i hi => ?_, by omega⟩
  · have r := mA1_r q hq
    rw [k _ (by omega) (by omega)]; exact p2 q hq
  · have r := mA2_r q hq
    rw [k _ (by omega) (by omega)]; exact (p3 q hq).1
  · have r := mA2_r q hq
    rw [k _ (by omega) (by omega)]; exact (p3 q hq).2 i hi
  · have r := p5 i hi
    rw [kl i hi]; exact ⟨r.1, r.2.1, by omega⟩
theorem MP.loc {a : Nat} {x : va_E} (H : MP G N M L z h) (ha : a < cB G + 169 ∨ cB G + 281 ≤ a) (hl : ∀ i, i < 40 → L i ≠ a) (e : h1 = hup h a x) : MP G N M L z h1 := H.frame2 (Nat.le_refl _) (fun q h1 h2 => hup_at e (by omega)) (fun i hi => hup_at e (hl i hi))
theorem MP.rlt (H : MP G N M L z h) {i : Nat} (hi : i < 40) : L i < N := (H.2.2.2.2.1 i hi).2.2
theorem MP.up (H : MP G N M L z h) (hN : N ≤ N') : MP G N' M L z h := H.frame hN (fun _ _ _ _ _ => rfl)
theorem MP.nN (H : MP G N M L z h) : cB G + 283 ≤ N := H.2.2.2.2.2
theorem MP.c0 (H : MP G N M L z h) : h (cB G + 169) = some (cMod (cB G) M z) := H.1
theorem MP.qL (H : MP G N M L z h) : h (cB G + 212) = some (eQ G 4 40 (fun i => if i < 40 then some (L i) else none)) := H.2.2.2.1
theorem MP.rL {i : Nat} (H : MP G N M L z h) (hi : i < 40) : h (L i) = some (eI G 4 (fun j => M 15 i j)) := (H.2.2.2.2.1 i hi).1
theorem MP.c1 (H : MP G N M L z h) : h (cB G + 170) = some (eI G 4 (fun i => M 1 i 0)) := H.2.1 (1, 170, 4, false) (by decide)
theorem MP.c2 (H : MP G N M L z h) : h (cB G + 171) = some (eI G 4 (fun i => M 2 i 0)) := H.2.1 (2, 171, 4, false) (by decide)
theorem MP.c4 (H : MP G N M L z h) : h (cB G + 177) = some (eI G 4 (fun i => M 4 i 0)) := H.2.1 (4, 177, 4, false) (by decide)
theorem MP.c5 (H : MP G N M L z h) : h (cB G + 178) = some (eI G 4 (fun i => M 5 i 0)) := H.2.1 (5, 178, 4, false) (by decide)
theorem MP.c7 (H : MP G N M L z h) : h (cB G + 179) = some (eI G 24 (fun i => M 7 i 0)) := H.2.1 (7, 179, 24, false) (by decide)
theorem MP.c8 (H : MP G N M L z h) : h (cB G + 180) = some (eI G 24 (fun i => M 8 i 0)) := H.2.1 (8, 180, 24, false) (by decide)
theorem MP.c9 (H : MP G N M L z h) : h (cB G + 181) = some (eI G 24 (fun i => M 9 i 0)) := H.2.1 (9, 181, 24, false) (by decide)
theorem MP.c10 (H : MP G N M L z h) : h (cB G + 182) = some (eI G 24 (fun i => M 10 i 0)) := H.2.1 (10, 182, 24, false) (by decide)
theorem MP.c12 (H : MP G N M L z h) : h (cB G + 208) = some (eZ G 24 (fun i => M 12 i 0)) := H.2.1 (12, 208, 24, true) (by decide)
theorem MP.c18 (H : MP G N M L z h) : h (cB G + 253) = some (eI G 24 (fun i => M 18 i 0)) := H.2.1 (18, 253, 24, false) (by decide)
theorem MP.c21 (H : MP G N M L z h) : h (cB G + 260) = some (eI G 24 (fun i => M 21 i 0)) := H.2.1 (21, 260, 24, false) (by decide)
theorem MP.c23 (H : MP G N M L z h) : h (cB G + 264) = some (eI G 24 (fun i => M 23 i 0)) := H.2.1 (23, 264, 24, false) (by decide)
theorem MP.c30 (H : MP G N M L z h) : h (cB G + 273) = some (eI G 24 (fun i => M 30 i 0)) := H.2.1 (30, 273, 24, false) (by decide)
theorem MP.c31 (H : MP G N M L z h) : h (cB G + 274) = some (eI G 4 (fun i => M 31 i 0)) := H.2.1 (31, 274, 4, false) (by decide)
theorem MP.c32 (H : MP G N M L z h) : h (cB G + 275) = some (eI G 4 (fun i => M 32 i 0)) := H.2.1 (32, 275, 4, false) (by decide)
theorem MP.q3 (H : MP G N M L z h) : h (cB G + 172) = some (eQ G 4 4 (fun i => if i < 4 then some (cB G + 173 + i) else none)) := (H.2.2.1 (3, 172, 4, 12) (by decide)).1
theorem MP.r3 {i : Nat} (H : MP G N M L z h) (hi : i < 4) : h (cB G + 173 + i) = some (eI G 12 (fun j => M 3 i j)) := (H.2.2.1 (3, 172, 4, 12) (by decide)).2 i hi
theorem MP.q11 (H : MP G N M L z h) : h (cB G + 183) = some (eQ G 4 24 (fun i => if i < 24 then some (cB G + 184 + i) else none)) := (H.2.2.1 (11, 183, 24, 4) (by decide)).1
theorem MP.r11 {i : Nat} (H : MP G N M L z h) (hi : i < 24) : h (cB G + 184 + i) = some (eI G 4 (fun j => M 11 i j)) := (H.2.2.1 (11, 183, 24, 4) (by decide)).2 i hi
theorem MP.q13 (H : MP G N M L z h) : h (cB G + 209) = some (eQ G 4 2 (fun i => if i < 2 then some (cB G + 210 + i) else none)) := (H.2.2.1 (13, 209, 2, 24) (by decide)).1
theorem MP.r13 {i : Nat} (H : MP G N M L z h) (hi : i < 2) : h (cB G + 210 + i) = some (eI G 24 (fun j => M 13 i j)) := (H.2.2.1 (13, 209, 2, 24) (by decide)).2 i hi
theorem MP.q19 (H : MP G N M L z h) : h (cB G + 254) = some (eQ G 4 2 (fun i => if i < 2 then some (cB G + 255 + i) else none)) := (H.2.2.1 (19, 254, 2, 24) (by decide)).1
theorem MP.r19 {i : Nat} (H : MP G N M L z h) (hi : i < 2) : h (cB G + 255 + i) = some (eI G 24 (fun j => M 19 i j)) := (H.2.2.1 (19, 254, 2, 24) (by decide)).2 i hi
theorem MP.q20 (H : MP G N M L z h) : h (cB G + 257) = some (eQ G 4 2 (fun i => if i < 2 then some (cB G + 258 + i) else none)) := (H.2.2.1 (20, 257, 2, 24) (by decide)).1
theorem MP.r20 {i : Nat} (H : MP G N M L z h) (hi : i < 2) : h (cB G + 258 + i) = some (eI G 24 (fun j => M 20 i j)) := (H.2.2.1 (20, 257, 2, 24) (by decide)).2 i hi
theorem MP.q22 (H : MP G N M L z h) : h (cB G + 261) = some (eQ G 4 2 (fun i => if i < 2 then some (cB G + 262 + i) else none)) := (H.2.2.1 (22, 261, 2, 24) (by decide)).1
theorem MP.r22 {i : Nat} (H : MP G N M L z h) (hi : i < 2) : h (cB G + 262 + i) = some (eI G 24 (fun j => M 22 i j)) := (H.2.2.1 (22, 261, 2, 24) (by decide)).2 i hi
theorem MP.q27 (H : MP G N M L z h) : h (cB G + 265) = some (eQ G 4 4 (fun i => if i < 4 then some (cB G + 266 + i) else none)) := (H.2.2.1 (27, 265, 4, 16000) (by decide)).1
theorem MP.r27 {i : Nat} (H : MP G N M L z h) (hi : i < 4) : h (cB G + 266 + i) = some (eI G 16000 (fun j => M 27 i j)) := (H.2.2.1 (27, 265, 4, 16000) (by decide)).2 i hi
theorem MP.q29 (H : MP G N M L z h) : h (cB G + 270) = some (eQ G 4 2 (fun i => if i < 2 then some (cB G + 271 + i) else none)) := (H.2.2.1 (29, 270, 2, 24) (by decide)).1
theorem MP.r29 {i : Nat} (H : MP G N M L z h) (hi : i < 2) : h (cB G + 271 + i) = some (eI G 24 (fun j => M 29 i j)) := (H.2.2.1 (29, 270, 2, 24) (by decide)).2 i hi
theorem MP.q33 (H : MP G N M L z h) : h (cB G + 276) = some (eQ G 4 4 (fun i => if i < 4 then some (cB G + 277 + i) else none)) := (H.2.2.1 (33, 276, 4, 12) (by decide)).1
theorem MP.r33 {i : Nat} (H : MP G N M L z h) (hi : i < 4) : h (cB G + 277 + i) = some (eI G 12 (fun j => M 33 i j)) := (H.2.2.1 (33, 276, 4, 12) (by decide)).2 i hi
end MPU

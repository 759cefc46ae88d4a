/-! ===== both planners between two calls ===== -/
section Inv
variable {G : Ctx} {h h1 h2 h3 : AH} {N N1 N3 : Nat} {S S1 M M' : ST} {st st1 : Int} {K K1 K2 : KTup} {L L' : Nat → Nat} {z z' : Int64} {t t0 : Int}
/-- class and reference tell the same; the reference threw t -/
def INV3 (G : Ctx) (h : AH) (N : Nat) (S : ST) (st : Int) (K : KTup) (M : ST) (L : Nat → Nat) (z : Int64) (t : Int) : Prop :=
  SPI G h S st K ∧ XI S ∧ MP G N M L z h ∧ RS S M ∧ (M 17 0 0 = 0 ∨ (M 17 0 0 = 1 ∧ LAID S M)) ∧ KM S K M ∧ M 0 0 0 = t
def OUT (G : Ctx) (h : AH) : Prop := (∃ o, h (cB G + 281) = some (eL G 1 o)) ∧ ∃ o, h (cB G + 282) = some (eD G 1 o)
def INVt (G : Ctx) (h : AH) (N : Nat) (t : Int) : Prop := ∃ S st K M L z, INV3 G h N S st K M L z t ∧ OUT G h
theorem INV3.sp (I : INV3 G h N S st K M L z t) : SPI G h S st K := I.1
theorem INV3.xi (I : INV3 G h N S st K M L z t) : XI S := I.2.1
theorem INV3.mp (I : INV3 G h N S st K M L z t) : MP G N M L z h := I.2.2.1
theorem INV3.rs (I : INV3 G h N S st K M L z t) : RS S M := I.2.2.2.1
theorem INV3.hl (I : INV3 G h N S st K M L z t) : M 17 0 0 = 0 ∨ (M 17 0 0 = 1 ∧ LAID S M) := I.2.2.2.2.1
theorem INV3.km (I : INV3 G h N S st K M L z t) : KM S K M := I.2.2.2.2.2.1
theorem INV3.wf (I : INV3 G h N S st K M L z t) : WF S := I.1.2.2.1
theorem INV3.tp (I : INV3 G h N S st K M L z t) : TOP S := I.1.2.2.2.1
theorem INV3.kc (I : INV3 G h N S st K M L z t) : KC K := I.1.2.2.2.2.2.2.1.kc
theorem INV3.nN (I : INV3 G h N S st K M L z t) : cB G + 283 ≤ N := I.2.2.1.nN
theorem SPI.gh (sp : SPI G h S st K) : ∀ q, cB G + 169 ≤ q → h q = K.1 q := sp.2.2.2.2.2.2.2.2
/-- behind a call of the class that changed the class's cells alone, and the answer's cell -/
theorem INV3.cls (I : INV3 G h N S st K M L z t) (sp1 : SPI G h1 S1 st1 K1) (eK : K1.1 = K.1) (e : ∀ q, q ≠ cB G + 281 → q ≠ cB G + 282 → h2 q = h1 q) : SPI G h2 S1 st1 (h2, K1.2) ∧ MP G N M L z h2 :=
  ⟨sp1.reghost (fun q hq => e q (by omega) (by omega)), I.mp.frame (Nat.le_refl _) (fun q a b c d => (e q c d).trans ((sp1.gh q a).trans (by rw [eK]; exact (I.sp.gh q a).symm)))⟩
theorem OUT.keep (ou : OUT G h2) (fa : FA G N h2 h3) (hN : cB G + 283 ≤ N) : OUT G h3 ∧ h3 (cB G + 281) = h2 (cB G + 281) ∧ h3 (cB G + 282) = h2 (cB G + 282) := by
  have e1 := fa (cB G + 281) (Or.inr (Or.inr (by omega))) (by omega)
  have e2 := fa (cB G + 282) (Or.inr (Or.inr (by omega))) (by omega)
  exact ⟨⟨by rw [e1]; exact ou.1, by rw [e2]; exact ou.2⟩, e1, e2⟩
/-- what a call of the reference leaves: the invariant, the answers' cells -/
def FIN (G : Ctx) (h2 h3 : AH) (N3 : Nat) (t : Int) : Prop := INVt G h3 N3 t ∧ h3 (cB G + 281) = h2 (cB G + 281) ∧ h3 (cB G + 282) = h2 (cB G + 282)
theorem FIN.of (sp2 : SPI G h2 S1 st1 K2) (xi : XI S1) (P' : MP G N3 M' L' z' h3) (r' : RS S1 M') (hl : M' 17 0 0 = 0 ∨ (M' 17 0 0 = 1 ∧ LAID S1 M')) (km : KM S1 K2 M') (ht : M' 0 0 0 = t) (fa : FA G N h2 h3) (ou : OUT G h2) (hN : cB G + 283 ≤ N) : FIN G h2 h3 N3 t := by
  have o := ou.keep fa hN
  exact ⟨⟨S1, st1, (h3, K2.2), M', L', z', ⟨sp2.reghost (fun q hq => fa q (Or.inl hq) (by omega)), xi, P', r', hl, km, ht⟩, o.1⟩, o.2.1, o.2.2⟩
theorem fin_G (sp2 : SPI G h2 S1 st1 K2) (xi : XI S1) (km : KM S K2 M) (h13 : S 13 0 0 ≤ S1 13 0 0) (ou : OUT G h2) (hN : cB G + 283 ≤ N) (g : MRG G S1 M L' z' h2 N M' h3 N3) : FIN G h2 h3 N3 0 := by
  obtain ⟨g1, g2, g3, g4, g5, g6, g7, g8⟩ := g
  exact FIN.of sp2 xi g3 g4 (Or.inl g6) ((km.of g7).grow h13) g5 g8 ou hN
theorem fin_B (sp2 : SPI G h2 S st1 K2) (xi : XI S) (hl : M 17 0 0 = 0 ∨ (M 17 0 0 = 1 ∧ LAID S M)) (km : KM S K2 M) (ou : OUT G h2) (hN : cB G + 283 ≤ N) (g : MRB G S M L' z' h2 N t M' h3 N3) : FIN G h2 h3 N3 t := by
  obtain ⟨g1, g2, g3, g4, g5, g6, g7⟩ := g
  refine FIN.of sp2 xi g3 g4 ?_ (km.of (fun f hf => g6 f (by revert f; decide))) g5 g7 ou hN
  rw [g6 17 (by decide)]
  rcases hl with q | ⟨q, la⟩
  · exact Or.inl q
  · exact Or.inr ⟨q, la.of (fun f hf => g6 f (by revert f; decide))⟩
theorem fin_E (sp2 : SPI G h2 S st1 K2) (xi : XI S) (km : KM S K2 M) (ou : OUT G h2) (hN : cB G + 283 ≤ N) (g : MRE G S M L' z' h2 N t M' h3 N3) : FIN G h2 h3 N3 t := by
  obtain ⟨g1, g2, g3, g4, g5, g6, g7, g8, g9⟩ := g
  exact FIN.of sp2 xi g3 g4 (Or.inr ⟨g6, g7⟩) (km.of (fun f hf => g8 f (by revert f; decide) (by revert f; decide))) g5 g9 ou hN
theorem fin_X (sp2 : SPI G h2 S st1 K2) (xi : XI S) (km : KM S K2 M) (ou : OUT G h2) (hN : cB G + 283 ≤ N) (g : MRX G S M L' z' h2 N M' h3 N3) : FIN G h2 h3 N3 0 := by
  obtain ⟨g1, g2, g3, g4, g5, g6, g7, g8⟩ := g
  exact FIN.of sp2 xi g3 g4 (Or.inl g6) (km.of g7) g5 g8 ou hN
/-- the reference's call, with room of its own -/
def MCT (G : Ctx) (mm : MI) (as : List Value) (h : AH) (N : Nat) (Q : PQ) : Prop := ∃ kk nn, kk ≤ 42 ∧ nn ≤ 1008 ∧ CT G mm (.ref (cB G + 169) :: as) h N kk nn Q
theorem MCT.mk {mm : MI} {as : List Value} {kk nn : Nat} {Q Q' : PQ} (hk : kk ≤ 42) (hn : nn ≤ 1008) (c : CT G mm (.ref (cB G + 169) :: as) h N kk nn Q') (i : ∀ r h3 N3, Q' r h3 N3 → Q r h3 N3) : MCT G mm as h N Q := ⟨kk, nn, hk, hn, c.weak i⟩
/-- behind the law's own little method: the number c of what was thrown, the answer v in its cell, and the reference's call agrees -/
def JQ (G : Ctx) (mm : MI) (as : List Value) (bo : Bool) : PQ := fun r h1 N1 => ∃ c v : Int, r = some (JV c) ∧ (0 ≤ c ∧ c ≤ 3) ∧ (c = 0 → (bo = true → v = 0 ∨ v = 1) ∧ ∃ o, h1 (cB G + 281) = some (eL G 1 o) ∧ o 0 = (Int32.ofInt v).toInt64) ∧ (∃ fs, h1 (cB G + 169) = some (eO 11 fs)) ∧ MCT G mm as h1 N1 (fun r' h2 N2 => ∃ v' : Int, r' = some (JV v') ∧ (c = 0 → v' = v) ∧ FIN G h1 h2 N2 c)
theorem JQ.good (I : INV3 G h N S st K M L z t0) (ou : OUT G h) {v : Int} {mm : MI} {as : List Value} {bo : Bool} (sp1 : SPI G h1 S1 st1 K1) (eK : K1.1 = K.1) (hb : bo = true → v = 0 ∨ v = 1) (hm : ∀ h2 : AH, SPI G h2 S1 st1 (h2, K1.2) → MP G N M L z h2 → OUT G h2 → MCT G mm as h2 N (fun r' h3 N3 => r' = some (JV v) ∧ FIN G h2 h3 N3 0)) : ∃ o, h1 (cB G + 281) = some (eL G 1 o) ∧ JQ G mm as bo (some (JV 0)) (hup h1 (cB G + 281) (eL G 1 (fup o 0 ((Int32.ofInt v).toInt64)))) N := by
  obtain ⟨⟨o, ho⟩, ⟨o2, ho2⟩⟩ := ou
  have g : ∀ q, cB G + 169 ≤ q → h1 q = h q := fun q hq => (sp1.gh q hq).trans (by rw [eK]; exact (I.sp.gh q hq).symm)
  refine ⟨o, by rw [g _ (by omega)]; exact ho, ?_⟩
  obtain ⟨h9, e9⟩ : ∃ h9 : AH, h9 = hup h1 (cB G + 281) (eL G 1 (fup o 0 ((Int32.ofInt v).toInt64))) := ⟨_, rfl⟩
  rw [← e9]
  have c1 : h9 (cB G + 281) = some (eL G 1 (fup o 0 ((Int32.ofInt v).toInt64))) := by rw [e9]; exact hup_self _ _ _
  have q9 : ∀ q, q ≠ cB G + 281 → h9 q = h1 q := fun q hq => hup_at e9 hq
  obtain ⟨sp2, P2⟩ := I.cls sp1 eK (fun q a _ => q9 q a)
  have ou2 : OUT G h9 := ⟨⟨_, c1⟩, ⟨o2, by rw [q9 _ (by omega), g _ (by omega)]; exact ho2⟩⟩
  obtain ⟨kk, nn, k1, k2, ct⟩ := hm h9 sp2 P2 ou2
  refine ⟨0, v, rfl, ⟨by omega, by omega⟩, fun _ => ⟨hb, _, c1, fup_self _ _ _⟩, ⟨_, P2.c0⟩, kk, nn, k1, k2, ct.weak ?_⟩
  intro r h3 N3 q
  exact ⟨v, q.1, fun _ => rfl, q.2⟩
theorem JQ.bad (I : INV3 G h N S st K M L z t0) {c : Int} {mm : MI} {as : List Value} {bo : Bool} (hc : 1 ≤ c ∧ c ≤ 3) (sp1 : SPI G h1 S1 st1 K1) (eK : K1.1 = K.1) (hN : N ≤ N1) (ou : OUT G h) (hm : ∀ h2 : AH, SPI G h2 S1 st1 (h2, K1.2) → MP G N1 M L z h2 → OUT G h2 → MCT G mm as h2 N1 (fun r' h3 N3 => (∃ v' : Int, r' = some (JV v')) ∧ FIN G h2 h3 N3 c)) : JQ G mm as bo (some (JV c)) h1 N1 := by
  obtain ⟨sp2, P2⟩ := I.cls sp1 eK (fun q a _ => rfl)
  have g : ∀ q, cB G + 169 ≤ q → h1 q = h q := fun q hq => (sp1.gh q hq).trans (by rw [eK]; exact (I.sp.gh q hq).symm)
  have ou2 : OUT G h1 := ⟨by rw [g _ (by omega)]; exact ou.1, by rw [g _ (by omega)]; exact ou.2⟩
  obtain ⟨kk, nn, k1, k2, ct⟩ := hm h1 sp2 (P2.up hN) ou2
  refine ⟨c, 0, rfl, ⟨by omega, by omega⟩, fun q => absurd q (by omega), ⟨_, P2.c0⟩, kk, nn, k1, k2, ct.weak ?_⟩
  intro r h3 N3 q
  obtain ⟨⟨v', e1⟩, e2⟩ := q
  exact ⟨v', e1, fun q => absurd q (by omega), e2⟩
/-- a call that returns is one that may throw -/
theorem CT.cx {μ : MI} {args : List Value} {k n : Nat} {Q : PQ} {X : PX} (c : CT G μ args h N k n Q) : CX G μ args h N k n Q X := by
  unfold CX vx_Met
  unfold CT Met at c
  refine MetFree.mono c (fun _ _ q => q) (fun _ _ _ _ _ q => q) fun a s o s' _ q => Or.inl q
end Inv
section Inv2
variable {G : Ctx} {h h1 : AH} {N N1 : Nat} {S S1 M : ST} {st st1 : Int} {K K1 : KTup} {L : Nat → Nat} {z : Int64} {t0 : Int}
/-- the same for what the law calls itself -/
def JW {α : Type} (G : Ctx) (mk : α → Value) (mm : MI) : PQ := fun r h1 N1 => ∃ v : α, r = some (mk v) ∧ (∃ fs, h1 (cB G + 169) = some (eO 11 fs)) ∧ MCT G mm [] h1 N1 (fun r' h2 N2 => r' = some (mk v) ∧ FIN G h1 h2 N2 0)
theorem JW.mk {α : Type} {mk : α → Value} (I : INV3 G h N S st K M L z t0) (ou : OUT G h) {v : α} {mm : MI} (sp1 : SPI G h1 S1 st1 K1) (eK : K1.1 = K.1) (hm : SPI G h1 S1 st1 (h1, K1.2) → MP G N M L z h1 → OUT G h1 → MCT G mm [] h1 N (fun r' h3 N3 => r' = some (mk v) ∧ FIN G h1 h3 N3 0)) : JW G mk mm (some (mk v)) h1 N := by
  obtain ⟨sp2, P2⟩ := I.cls sp1 eK (fun q a _ => rfl)
  have g : ∀ q, cB G + 169 ≤ q → h1 q = h q := fun q hq => (sp1.gh q hq).trans (by rw [eK]; exact (I.sp.gh q hq).symm)
  have ou2 : OUT G h1 := ⟨by rw [g _ (by omega)]; exact ou.1, by rw [g _ (by omega)]; exact ou.2⟩
  exact ⟨v, rfl, ⟨_, P2.c0⟩, hm sp2 P2 ou2⟩
/-- and for the answer that is a double -/
def JD (G : Ctx) (mm : MI) (as : List Value) : PQ := fun r h1 N1 => ∃ (c : Int) (v : UInt64), r = some (JV c) ∧ (0 ≤ c ∧ c ≤ 3) ∧ (c = 0 → ∃ o, h1 (cB G + 282) = some (eD G 1 o) ∧ o 0 = v) ∧ (∃ fs, h1 (cB G + 169) = some (eO 11 fs)) ∧ MCT G mm as h1 N1 (fun r' h2 N2 => ∃ v' : UInt64, r' = some (.double v') ∧ (c = 0 → v' = v) ∧ FIN G h1 h2 N2 c)
theorem JD.good (I : INV3 G h N S st K M L z t0) (ou : OUT G h) {v : UInt64} {mm : MI} {as : List Value} (sp1 : SPI G h1 S1 st1 K1) (eK : K1.1 = K.1) (hm : ∀ h2 : AH, SPI G h2 S1 st1 (h2, K1.2) → MP G N M L z h2 → OUT G h2 → MCT G mm as h2 N (fun r' h3 N3 => r' = some (.double v) ∧ FIN G h2 h3 N3 0)) : ∃ o, h1 (cB G + 282) = some (eD G 1 o) ∧ JD G mm as (some (JV 0)) (hup h1 (cB G + 282) (eD G 1 (fup o 0 v))) N := by
  obtain ⟨⟨o, ho⟩, ⟨o2, ho2⟩⟩ := ou
  have g : ∀ q, cB G + 169 ≤ q → h1 q = h q := fun q hq => (sp1.gh q hq).trans (by rw [eK]; exact (I.sp.gh q hq).symm)
  refine ⟨o2, by rw [g _ (by omega)]; exact ho2, ?_⟩
  obtain ⟨h9, e9⟩ : ∃ h9 : AH, h9 = hup h1 (cB G + 282) (eD G 1 (fup o2 0 v)) := ⟨_, rfl⟩
  rw [← e9]
  have c1 : h9 (cB G + 282) = some (eD G 1 (fup o2 0 v)) := by rw [e9]; exact hup_self _ _ _
  have q9 : ∀ q, q ≠ cB G + 282 → h9 q = h1 q := fun q hq => hup_at e9 hq
  obtain ⟨sp2, P2⟩ := I.cls sp1 eK (fun q _ a => q9 q a)
  have ou2 : OUT G h9 := ⟨⟨o, by rw [q9 _ (by omega), g _ (by omega)]; exact ho⟩, ⟨_, c1⟩⟩
  obtain ⟨kk, nn, k1, k2, ct⟩ := hm h9 sp2 P2 ou2
  refine ⟨0, v, rfl, ⟨by omega, by omega⟩, fun _ => ⟨_, c1, fup_self _ _ _⟩, ⟨_, P2.c0⟩, kk, nn, k1, k2, ct.weak ?_⟩
  intro r h3 N3 q
  exact ⟨v, q.1, fun _ => rfl, q.2⟩
theorem JD.bad (I : INV3 G h N S st K M L z t0) {c : Int} {mm : MI} {as : List Value} (hc : 1 ≤ c ∧ c ≤ 3) (sp1 : SPI G h1 S1 st1 K1) (eK : K1.1 = K.1) (hN : N ≤ N1) (ou : OUT G h) (hm : ∀ h2 : AH, SPI G h2 S1 st1 (h2, K1.2) → MP G N1 M L z h2 → OUT G h2 → MCT G mm as h2 N1 (fun r' h3 N3 => (∃ v' : UInt64, r' = some (.double v')) ∧ FIN G h2 h3 N3 c)) : JD G mm as (some (JV c)) h1 N1 := by
  obtain ⟨sp2, P2⟩ := I.cls sp1 eK (fun q a _ => rfl)
  have g : ∀ q, cB G + 169 ≤ q → h1 q = h q := fun q hq => (sp1.gh q hq).trans (by rw [eK]; exact (I.sp.gh q hq).symm)
  have ou2 : OUT G h1 := ⟨by rw [g _ (by omega)]; exact ou.1, by rw [g _ (by omega)]; exact ou.2⟩
  obtain ⟨kk, nn, k1, k2, ct⟩ := hm h1 sp2 (P2.up hN) ou2
  refine ⟨c, 0, rfl, ⟨by omega, by omega⟩, fun q => absurd q (by omega), ⟨_, P2.c0⟩, kk, nn, k1, k2, ct.weak ?_⟩
  intro r h3 N3 q
  obtain ⟨⟨v', e1⟩, e2⟩ := q
  exact ⟨v', e1, fun q => absurd q (by omega), e2⟩
end Inv2

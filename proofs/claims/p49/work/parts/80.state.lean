/-! ===== the law's own cells, and what holds between two of its acts ===== -/
section Inv9
variable {G : Ctx} {h h1 h2 : AH} {N N1 : Nat} {S S1 : ST} {st st1 : Int} {K K1 : KTup} {L : Nat → Nat}
/-- the rows of links, as the law wrote them down -/
def LNK (G : Ctx) (h : AH) (N : Nat) (S : ST) (L : Nat → Nat) : Prop :=
  h (cB G + 169) = some (eQ G 4 40 (fun i => if i < 40 then some (L i) else none)) ∧
  ∀ i, i < 40 → ((cB G + 170 ≤ L i ∧ L i < N) ∧ L i ≠ cB G + 210 ∧ L i ≠ cB G + 211) ∧ ∃ f : Nat → Int, h (L i) = some (eI G 4 f) ∧ ((i : Int) < S 14 0 0 → f 0 = lF S i ∧ f 1 = lT S i ∧ f 2 = lK S i ∧ f 3 = lG S i)
def LSZ (G : Ctx) (h : AH) (S : ST) : Prop := ∃ g : Nat → Int, h (cB G + 210) = some (eI G 3 g) ∧ ∀ c, c < 3 → g c = S 3 c 0
def LFI (G : Ctx) (h : AH) (S : ST) : Prop := ∃ f : Nat → Int, h (cB G + 211) = some (eI G 24 f) ∧ ∀ t, t < 24 → f t = S 8 t 0
def LWS (G : Ctx) (h : AH) (N : Nat) (S : ST) : Prop := ((∃ L, LNK G h N S L) ∧ LSZ G h S ∧ LFI G h S) ∧ cB G + 212 ≤ N
def INV9 (G : Ctx) (h : AH) (N : Nat) (S : ST) (st : Int) (K : KTup) : Prop := SPI G h S st K ∧ XI S ∧ DBE S ∧ S 13 0 0 ≤ 9 ∧ LWS G h N S
theorem LNK.mv (p : LNK G h N S L) (e : ∀ q, cB G + 169 ≤ q → q < N → q ≠ cB G + 210 → q ≠ cB G + 211 → h1 q = h q) (hB : cB G + 212 ≤ N) (hN : N ≤ N1) (h14 : S1 14 0 0 = S 14 0 0) (hl : ∀ f, 18 ≤ f → f ≤ 22 → S1 f = S f) : LNK G h1 N1 S1 L := by
  refine ⟨(e _ (by omega) (by omega) (by omega) (by omega)).trans p.1, fun i hi => ?_⟩
  obtain ⟨⟨a1, a2, a3⟩, f, f1, f2⟩ := p.2 i hi
  refine ⟨⟨⟨a1.1, by omega⟩, a2, a3⟩, f, (e _ (by omega) a1.2 a2 a3).trans f1, fun hk => ?_⟩
  show f 0 = S1 19 (S1 18 i 0).toNat 0 ∧ f 1 = S1 20 (S1 18 i 0).toNat 0 ∧ f 2 = S1 21 (S1 18 i 0).toNat 0 ∧ f 3 = S1 22 (S1 18 i 0).toNat 0
  rw [hl 18 (by omega) (by omega), hl 19 (by omega) (by omega), hl 20 (by omega) (by omega), hl 21 (by omega) (by omega), hl 22 (by omega) (by omega)]
  exact f2 (by omega)
theorem LSZ.mv (p : LSZ G h S) (e : h1 (cB G + 210) = h (cB G + 210)) (h3 : S1 3 = S 3) : LSZ G h1 S1 := by
  obtain ⟨g, g1, g2⟩ := p
  exact ⟨g, e.trans g1, fun c hc => by rw [h3]; exact g2 c hc⟩
theorem LFI.mv (p : LFI G h S) (e : h1 (cB G + 211) = h (cB G + 211)) (h8 : S1 8 = S 8) : LFI G h1 S1 := by
  obtain ⟨g, g1, g2⟩ := p
  exact ⟨g, e.trans g1, fun c hc => by rw [h8]; exact g2 c hc⟩
theorem LWS.mv (p : LWS G h N S) (e : ∀ q, cB G + 169 ≤ q → q < N → h1 q = h q) (hN : N ≤ N1) (h3 : S1 3 = S 3) (h8 : S1 8 = S 8) (h14 : S1 14 0 0 = S 14 0 0) (hl : ∀ f, 18 ≤ f → f ≤ 22 → S1 f = S f) : LWS G h1 N1 S1 := by
  obtain ⟨⟨⟨L, a⟩, b, c⟩, d⟩ := p
  exact ⟨⟨⟨L, a.mv (fun q q1 q2 _ _ => e q q1 q2) d hN h14 hl⟩, b.mv (e _ (by omega) (by omega)) h3, c.mv (e _ (by omega) (by omega)) h8⟩, by omega⟩
theorem INV9.sp (I : INV9 G h N S st K) : SPI G h S st K := I.1
theorem INV9.xi (I : INV9 G h N S st K) : XI S := I.2.1
theorem INV9.db (I : INV9 G h N S st K) : DBE S := I.2.2.1
theorem INV9.n9 (I : INV9 G h N S st K) : S 13 0 0 ≤ 9 := I.2.2.2.1
theorem INV9.lw (I : INV9 G h N S st K) : LWS G h N S := I.2.2.2.2
theorem INV9.wf (I : INV9 G h N S st K) : WF S := I.1.2.2.1
theorem INV9.tp (I : INV9 G h N S st K) : TOP S := I.1.2.2.2.1
theorem DBE.same (d : DBE S) (e9 : S1 9 = S 9) (e10 : S1 10 = S 10) (e11 : S1 11 = S 11) : DBE S1 := by
  unfold DBE
  rw [e9, e10, e11]
  exact d
theorem SPI.gg (sp : SPI G h S st K) (sp1 : SPI G h1 S1 st1 K1) (eK : K1.1 = K.1) : ∀ q, cB G + 169 ≤ q → h1 q = h q := fun q hq => (sp1.gh q hq).trans (by rw [eK]; exact (sp.gh q hq).symm)
/-- behind a call that leaves what the law goes by -/
theorem INV9.mv (I : INV9 G h N S st K) (sp1 : SPI G h1 S1 st1 K1) (eK : K1.1 = K.1) (hN : N ≤ N1) (ef : ∀ f, (f = 1 ∨ f = 2 ∨ f = 3 ∨ f = 8 ∨ f = 9 ∨ f = 10 ∨ f = 11 ∨ f = 13 ∨ f = 14 ∨ (18 ≤ f ∧ f ≤ 22)) → S1 f = S f) : INV9 G h1 N1 S1 st1 K1 := by
  have g := I.sp.gg sp1 eK
  refine ⟨sp1, I.xi.same (ef 1 (by omega)) (ef 2 (by omega)) (ef 18 (by omega)), I.db.same (ef 9 (by omega)) (ef 10 (by omega)) (ef 11 (by omega)), by rw [ef 13 (by omega)]; exact I.n9, I.lw.mv (fun q hq _ => g q hq) hN (ef 3 (by omega)) (ef 8 (by omega)) (by rw [ef 14 (by omega)]) (fun f h1 h2 => ef f (by omega))⟩
theorem INV9.up (I : INV9 G h N S st K) (hN : N ≤ N1) : INV9 G h N1 S st K := I.mv I.sp rfl hN (fun _ _ => rfl)
theorem INV9.q (I : INV9 G h N S st K) (sp1 : SPI G h1 S st1 K) : INV9 G h1 N S st1 K := I.mv sp1 rfl (Nat.le_refl _) (fun _ _ => rfl)
theorem INV9.finish (I : INV9 G h N S st K) {t : Nat} {x y : Int} (sp1 : SPI G h1 S1 st1 K) (e : S1 = su (su (su S 9 t 0 1) 10 t 0 x) 11 t 0 y) (hxy : x ≤ y) : INV9 G h1 N S1 st1 K := by
  have g := I.sp.gg sp1 rfl
  have ef : ∀ f, f ≠ 9 → f ≠ 10 → f ≠ 11 → S1 f = S f := fun f a b c => by rw [e, su_f c, su_f b, su_f a]
  refine ⟨sp1, I.xi.same (ef 1 (by omega) (by omega) (by omega)) (ef 2 (by omega) (by omega) (by omega)) (ef 18 (by omega) (by omega) (by omega)), fun u hu h9 => ?_, by rw [ef 13 (by omega) (by omega) (by omega)]; exact I.n9, I.lw.mv (fun q hq _ => g q hq) (Nat.le_refl _) (ef 3 (by omega) (by omega) (by omega)) (ef 8 (by omega) (by omega) (by omega)) (by rw [ef 14 (by omega) (by omega) (by omega)]) (fun f h1 h2 => ef f (by omega) (by omega) (by omega))⟩
  by_cases hut : u = t
  · subst hut
    have a : S1 10 u 0 = x := by rw [e, su_f (by decide), su_s]
    have b : S1 11 u 0 = y := by rw [e, su_s]
    rw [a, b]; exact hxy
  · have a : S1 10 u 0 = S 10 u 0 := by rw [e, su_f (by decide), su_i hut, su_f (by decide)]
    have b : S1 11 u 0 = S 11 u 0 := by rw [e, su_i hut, su_f (by decide), su_f (by decide)]
    have c : S1 9 u 0 = S 9 u 0 := by rw [e, su_f (by decide), su_f (by decide), su_i hut]
    rw [a, b]
    exact I.db u hu (by rw [← c]; exact h9)
theorem INV9.reopen (I : INV9 G h N S st K) {t : Nat} (sp1 : SPI G h1 S1 st1 K) (e : S1 = su S 9 t 0 0) : INV9 G h1 N S1 st1 K := by
  have g := I.sp.gg sp1 rfl
  have ef : ∀ f, f ≠ 9 → S1 f = S f := fun f a => by rw [e, su_f a]
  refine ⟨sp1, I.xi.same (ef 1 (by omega)) (ef 2 (by omega)) (ef 18 (by omega)), fun u hu h9 => ?_, by rw [ef 13 (by omega)]; exact I.n9, I.lw.mv (fun q hq _ => g q hq) (Nat.le_refl _) (ef 3 (by omega)) (ef 8 (by omega)) (by rw [ef 14 (by omega)]) (fun f h1 h2 => ef f (by omega))⟩
  rw [ef 10 (by omega), ef 11 (by omega)]
  by_cases hut : u = t
  · rw [hut, e, su_s] at h9; exact absurd rfl h9
  · exact I.db u hu (by rw [e, su_i hut] at h9; exact h9)
theorem INV9.add (I : INV9 G h N S st K) (sp1 : SPI G h1 S1 st1 K) (e : ∀ f, f ≠ 5 → f ≠ 6 → f ≠ 13 → f ≠ 16 → S1 f = S f) (e13 : S1 13 0 0 = S 13 0 0 + 1) (h8 : S 13 0 0 ≤ 8) : INV9 G h1 N S1 st1 K := by
  have g := I.sp.gg sp1 rfl
  have ef : ∀ f, f ≠ 5 → f ≠ 6 → f ≠ 13 → f ≠ 16 → S1 f = S f := e
  refine ⟨sp1, I.xi.same (ef 1 (by omega) (by omega) (by omega) (by omega)) (ef 2 (by omega) (by omega) (by omega) (by omega)) (ef 18 (by omega) (by omega) (by omega) (by omega)), I.db.same (ef 9 (by omega) (by omega) (by omega) (by omega)) (ef 10 (by omega) (by omega) (by omega) (by omega)) (ef 11 (by omega) (by omega) (by omega) (by omega)), by omega, I.lw.mv (fun q hq _ => g q hq) (Nat.le_refl _) (ef 3 (by omega) (by omega) (by omega) (by omega)) (ef 8 (by omega) (by omega) (by omega) (by omega)) (by rw [ef 14 (by omega) (by omega) (by omega) (by omega)]) (fun f h1 h2 => ef f (by omega) (by omega) (by omega) (by omega))⟩
/-- a first day told, and then written down -/
theorem INV9.terms (I : INV9 G h N S st K) {t : Nat} {x y : Int} (sp1 : SPI G h1 S1 st1 K) (e : S1 = su (su S 7 t 0 x) 8 t 0 y) {f : Nat → Int} (hf : h (cB G + 211) = some (eI G 24 f)) (hft : ∀ t, t < 24 → f t = S 8 t 0) (e2 : h2 = hup h1 (cB G + 211) (eI G 24 (fup f t y))) : INV9 G h2 N S1 st1 (h2, K.2) := by
  have g := I.sp.gg sp1 rfl
  have ef : ∀ f, f ≠ 7 → f ≠ 8 → S1 f = S f := fun f a b => by rw [e, su_f b, su_f a]
  have sp2 := sp1.reghost (h' := h2) (fun q hq => hup_at e2 (by omega))
  obtain ⟨⟨⟨L, a⟩, b, c⟩, d⟩ := I.lw
  have h2g : ∀ q, cB G + 169 ≤ q → q ≠ cB G + 211 → h2 q = h q := fun q q1 q2 => (hup_at e2 q2).trans (g q q1)
  refine ⟨sp2, I.xi.same (ef 1 (by omega) (by omega)) (ef 2 (by omega) (by omega)) (ef 18 (by omega) (by omega)), I.db.same (ef 9 (by omega) (by omega)) (ef 10 (by omega) (by omega)) (ef 11 (by omega) (by omega)), by rw [ef 13 (by omega) (by omega)]; exact I.n9, ⟨⟨L, a.mv (fun q q1 q2 q3 q4 => h2g q q1 q4) d (Nat.le_refl _) (by rw [ef 14 (by omega) (by omega)]) (fun f h1 h2 => ef f (by omega) (by omega))⟩, b.mv (h2g _ (by omega) (by omega)) (ef 3 (by omega) (by omega)), fup f t y, by rw [e2]; exact hup_self _ _ _, fun u hu => ?_⟩, d⟩
  rw [e]
  unfold fup
  by_cases hut : u = t
  · rw [if_pos hut, hut, su_s]
  · rw [if_neg hut, su_i hut, su_f (by decide)]
    exact hft u hu
/-- a size written down, and then told -/
theorem INV9.crew (I : INV9 G h N S st K) {c : Nat} {x y : Int} {g : Nat → Int} (hg : h (cB G + 210) = some (eI G 3 g)) (hgs : ∀ c, c < 3 → g c = S 3 c 0) (e0 : h2 = hup h (cB G + 210) (eI G 3 (fup g c x))) (sp1 : SPI G h1 S1 st1 (h2, K.2)) (e : S1 = su (su S 3 c 0 x) 4 c 0 y) : INV9 G h1 N S1 st1 (h2, K.2) := by
  have g1 : ∀ q, cB G + 169 ≤ q → h1 q = h2 q := fun q hq => sp1.gh q hq
  have ef : ∀ f, f ≠ 3 → f ≠ 4 → S1 f = S f := fun f a b => by rw [e, su_f b, su_f a]
  obtain ⟨⟨⟨L, a⟩, b, d⟩, dN⟩ := I.lw
  have h2g : ∀ q, cB G + 169 ≤ q → q ≠ cB G + 210 → h1 q = h q := fun q q1 q2 => (g1 q q1).trans (hup_at e0 q2)
  refine ⟨sp1, I.xi.same (ef 1 (by omega) (by omega)) (ef 2 (by omega) (by omega)) (ef 18 (by omega) (by omega)), I.db.same (ef 9 (by omega) (by omega)) (ef 10 (by omega) (by omega)) (ef 11 (by omega) (by omega)), by rw [ef 13 (by omega) (by omega)]; exact I.n9, ⟨⟨L, a.mv (fun q q1 q2 q3 q4 => h2g q q1 q3) dN (Nat.le_refl _) (by rw [ef 14 (by omega) (by omega)]) (fun f h1 h2 => ef f (by omega) (by omega))⟩, ⟨fup g c x, by rw [g1 _ (by omega), e0]; exact hup_self _ _ _, fun u hu => ?_⟩, d.mv (h2g _ (by omega) (by omega)) (ef 8 (by omega) (by omega))⟩, dN⟩
  rw [e]
  unfold fup
  by_cases hut : u = c
  · rw [if_pos hut, hut, su_f (by decide), su_s]
  · rw [if_neg hut, su_f (by decide), su_i hut]
    exact hgs u hu
/-- a link told, its row made, and then written down -/
theorem INV9.link (I : INV9 G h N S st K) {fr to : Nat} {ki lg : Int} (sp1 : SPI G h1 S1 st1 K) (a : ALx S (fr : Int) (to : Int) ki lg S1) (hn : S 14 0 0 < 40) {r : Nat → Int} {h3 h4 : AH} (e3 : h3 = hup h1 N1 (eI G 4 r)) (hN : N ≤ N1) (r0 : r 0 = (fr : Int)) (r1 : r 1 = (to : Int)) (r2 : r 2 = ki) (r3 : r 3 = lg) (hp : LNK G h N S L) (e4 : h4 = hup h3 (cB G + 169) (eQ G 4 40 (fup (fun i => if i < 40 then some (L i) else none) (S 14 0 0).toNat (some N1)))) : INV9 G h4 (N1 + 1) S1 st1 (h4, K.2) := by
  have g := I.sp.gg sp1 rfl
  obtain ⟨⟨_, b, d⟩, dN⟩ := I.lw
  have wL := I.wf.nL
  have xi := I.xi
  obtain ⟨a0, a14, a19, a20, a21, a22⟩ := a
  have ef : ∀ f, f ≠ 14 → f ≠ 16 → f ≠ 17 → f ≠ 19 → f ≠ 20 → f ≠ 21 → f ≠ 22 → S1 f = S f := a0
  have e18 : S1 18 = S 18 := ef 18 (by omega) (by omega) (by omega) (by omega) (by omega) (by omega) (by omega)
  have h4g : ∀ q, q ≠ N1 → q ≠ cB G + 169 → h4 q = h1 q := fun q q1 q2 => (hup_at e4 q2).trans (hup_at e3 q1)
  have sp2 := sp1.reghost (h' := h4) (fun q hq => h4g q (by omega) (by omega))
  have eo : ∀ f, (f = 1 ∨ f = 2 ∨ f = 3 ∨ f = 8 ∨ f = 9 ∨ f = 10 ∨ f = 11 ∨ f = 13) → S1 f = S f := fun f hf => ef f (by omega) (by omega) (by omega) (by omega) (by omega) (by omega) (by omega)
  refine ⟨sp2, xi.same (eo 1 (by omega)) (eo 2 (by omega)) e18, I.db.same (eo 9 (by omega)) (eo 10 (by omega)) (eo 11 (by omega)), by rw [eo 13 (by omega)]; exact I.n9, ⟨⟨fup L (S 14 0 0).toNat N1, ?_, fun i hi => ?_⟩, b.mv ((h4g _ (by omega) (by omega)).trans (g _ (by omega))) (eo 3 (by omega)), d.mv ((h4g _ (by omega) (by omega)).trans (g _ (by omega))) (eo 8 (by omega))⟩, by omega⟩
  · rw [e4, hup_self]
    have e : fup (fun i => if i < 40 then some (L i) else none) (S 14 0 0).toNat (some N1) = fun i => if i < 40 then some (fup L (S 14 0 0).toNat N1 i) else none := by
      funext i
      unfold fup
      by_cases hi : i = (S 14 0 0).toNat
      · rw [if_pos hi, if_pos (by omega), if_pos hi]
      · rw [if_neg hi, if_neg hi]
    rw [e]
  · show ((cB G + 170 ≤ fup L (S 14 0 0).toNat N1 i ∧ fup L (S 14 0 0).toNat N1 i < N1 + 1) ∧ fup L (S 14 0 0).toNat N1 i ≠ cB G + 210 ∧ fup L (S 14 0 0).toNat N1 i ≠ cB G + 211) ∧ ∃ f : Nat → Int, h4 (fup L (S 14 0 0).toNat N1 i) = some (eI G 4 f) ∧ ((i : Int) < S1 14 0 0 → f 0 = S1 19 (S1 18 i 0).toNat 0 ∧ f 1 = S1 20 (S1 18 i 0).toNat 0 ∧ f 2 = S1 21 (S1 18 i 0).toNat 0 ∧ f 3 = S1 22 (S1 18 i 0).toNat 0)
    rw [a14, e18, a19, a20, a21, a22]
    have wi := (I.wf.perm (i := i) hi)
    have wn := (I.wf.perm (i := (S 14 0 0).toNat) (by omega))
    unfold fup
    by_cases hil : i = (S 14 0 0).toNat
    · rw [if_pos hil, ← hil]
      simp only [if_pos]
      refine ⟨⟨⟨by omega, by omega⟩, by omega, by omega⟩, r, ?_, fun _ => ⟨r0, r1, r2, r3⟩⟩
      rw [hup_at e4 (by omega), e3]
      exact hup_self _ _ _
    · rw [if_neg hil]
      have hne : ¬ (S 18 i 0).toNat = (S 18 (S 14 0 0).toNat 0).toNat := fun q => hil (xi.2 i _ hi (by omega) (by omega))
      rw [if_neg hne, if_neg hne, if_neg hne, if_neg hne]
      obtain ⟨⟨c1, c2, c3⟩, f, f1, f2⟩ := hp.2 i hi
      exact ⟨⟨⟨c1.1, by omega⟩, c2, c3⟩, f, (h4g _ (by omega) (by omega)).trans ((g _ (by omega)).trans f1), fun hk => f2 (by omega)⟩
/-- the rows moved up behind a link dropped -/
theorem INV9.drop (I : INV9 G h N S st K) {l n : Nat} (hl : l < n) (hn : S 14 0 0 = (n : Int)) (sp1 : SPI G h1 S1 st1 K) (e0 : ∀ f, f ≠ 14 → f ≠ 18 → S1 f = S f) (e14 : S1 14 0 0 = (n : Int) - 1) (e18 : ∀ i, S1 18 i 0 = tkO (fun i => S 18 i 0) l n i) (hp : LNK G h N S L) {L2 : Nat → Nat} (e2 : ∀ q, q ≠ cB G + 169 → h2 q = h1 q) (e9 : h2 (cB G + 169) = some (eQ G 4 40 (fun i => if i < 40 then some (L2 i) else none))) (hL2 : ∀ i, L2 i = if l ≤ i ∧ i + 1 < n then L (i + 1) else L i) : INV9 G h2 N S1 st1 (h2, K.2) := by
  have g := I.sp.gg sp1 rfl
  obtain ⟨⟨_, b, d⟩, dN⟩ := I.lw
  have wL := I.wf.nL
  have xi := I.xi
  have eo : ∀ f, (f = 1 ∨ f = 2 ∨ f = 3 ∨ f = 8 ∨ f = 9 ∨ f = 10 ∨ f = 11 ∨ f = 13 ∨ f = 19 ∨ f = 20 ∨ f = 21 ∨ f = 22) → S1 f = S f := fun f hf => e0 f (by omega) (by omega)
  have sp2 := sp1.reghost (h' := h2) (fun q hq => e2 q (by omega))
  have xi1 : XI S1 := by
    refine ⟨fun c hc => ?_, fun i j hi hj he => ?_⟩
    · rw [eo 1 (by omega), eo 2 (by omega)]; exact xi.1 c hc
    · rw [e18, e18] at he
      exact tkO_inj (g := fun i => S 18 i 0) hl (by omega) xi.2 i j hi hj he
  refine ⟨sp2, xi1, I.db.same (eo 9 (by omega)) (eo 10 (by omega)) (eo 11 (by omega)), by rw [eo 13 (by omega)]; exact I.n9, ⟨⟨L2, e9, fun i hi => ?_⟩, b.mv ((e2 _ (by omega)).trans (g _ (by omega))) (eo 3 (by omega)), d.mv ((e2 _ (by omega)).trans (g _ (by omega))) (eo 8 (by omega))⟩, dN⟩
  show ((cB G + 170 ≤ L2 i ∧ L2 i < N) ∧ L2 i ≠ cB G + 210 ∧ L2 i ≠ cB G + 211) ∧ ∃ f : Nat → Int, h2 (L2 i) = some (eI G 4 f) ∧ ((i : Int) < S1 14 0 0 → f 0 = S1 19 (S1 18 i 0).toNat 0 ∧ f 1 = S1 20 (S1 18 i 0).toNat 0 ∧ f 2 = S1 21 (S1 18 i 0).toNat 0 ∧ f 3 = S1 22 (S1 18 i 0).toNat 0)
  rw [e14, e18, eo 19 (by omega), eo 20 (by omega), eo 21 (by omega), eo 22 (by omega), hL2 i]
  unfold tkO
  by_cases hc : l ≤ i ∧ i + 1 < n
  · rw [if_pos hc, if_pos hc]
    obtain ⟨⟨c1, c2, c3⟩, f, f1, f2⟩ := hp.2 (i + 1) (by omega)
    exact ⟨⟨c1, c2, c3⟩, f, (e2 _ (by omega)).trans ((g _ (by omega)).trans f1), fun hk => f2 (by omega)⟩
  · rw [if_neg hc, if_neg hc]
    obtain ⟨⟨c1, c2, c3⟩, f, f1, f2⟩ := hp.2 i hi
    refine ⟨⟨c1, c2, c3⟩, f, (e2 _ (by omega)).trans ((g _ (by omega)).trans f1), fun hk => ?_⟩
    rw [if_neg (by omega)]
    exact f2 (by omega)
end Inv9

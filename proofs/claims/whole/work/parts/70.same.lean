/-! ===== one answer ===== -/
section Sm
variable {S S' : ST}
theorem LDY_uniq {f g : Nat → Int} {x y : Int} (e : ∀ t : Nat, (t : Int) < S 13 0 0 → f t = g t) (p : LDY S f x) (q : LDY S g y) : x = y := by
  have a : x ≤ y := by
    rcases p.2.1 with h | ⟨t, h1, h2⟩
    · have := q.2.2.1; omega
    · have := q.1 t h1; have := e t h1; omega
  have b : y ≤ x := by
    rcases q.2.1 with h | ⟨t, h1, h2⟩
    · have := p.2.2.1; omega
    · have := p.1 t h1; have := e t h1; omega
  omega
theorem RV0_uniq (tp : TOP S) {v v' : Int} (a : RV0 S v) (b : RV0 S v') : v = v' := by
  obtain ⟨eb, ee, h1, h2⟩ := a
  obtain ⟨eb', ee', h3, h4⟩ := b
  exact LDY_uniq (fun t ht => (EP_uniq tp h1 h3 ht).2) h2 h4
theorem LASTW.rv {t : Nat} {x v : Int} (l : LASTW S t x v) : RV0 (su S 5 t 0 x) v := by
  obtain ⟨eb, ee, h1, h2, h3⟩ := l
  exact ⟨eb, ee, h1, h3⟩
theorem TOP.len {t : Nat} {x : Int} (tp : TOP S) : TOP (su S 5 t 0 x) := tp.same (su_f (by decide)) (su_f (by decide)) (su_f (by decide)) (su_f (by decide)) (su_f (by decide)) (su_f (by decide))
theorem GROW_uniq (tp : TOP S) {t i k : Nat} {ld b0 : Int} (g : GROW S t ld i) (hl : RV0 S ld) (hb : RV0 S b0) (k1 : S 5 t 0 + (k : Int) ≤ 20) (k2 : ∀ j : Nat, 1 ≤ j → j ≤ k → RV0 (su S 5 t 0 (S 5 t 0 + (j : Int))) b0) (k3 : S 5 t 0 + (k : Int) = 20 ∨ ∃ v, RV0 (su S 5 t 0 (S 5 t 0 + (k : Int) + 1)) v ∧ v ≠ b0) : i = k := by
  obtain ⟨g1, g2, g3⟩ := g
  have e : ld = b0 := RV0_uniq tp hl hb
  rcases Nat.lt_trichotomy i k with q | q | q
  · have a := k2 (i + 1) (by omega) (by omega)
    rcases g3 with g3 | ⟨v, g4, g5⟩
    · omega
    · rw [show S 5 t 0 + ((i + 1 : Nat) : Int) = S 5 t 0 + (i : Int) + 1 by omega] at a
      exact absurd ((RV0_uniq tp.len g4.rv a).trans e.symm) g5
  · exact q
  · have a := (g2 (k + 1) (by omega) (by omega)).rv
    rcases k3 with k3 | ⟨v, g4, g5⟩
    · omega
    · rw [show S 5 t 0 + ((k + 1 : Nat) : Int) = S 5 t 0 + (k : Int) + 1 by omega] at a
      exact absurd ((RV0_uniq tp.len g4 a).trans e) g5
theorem RV1_uniq (w : WF S) (tp : TOP S) {v v' : Int} (a : RV1 S v) (b : RV1 S v') : v = v' := by
  obtain ⟨eb, ee, lb, le, rm, ld, h1, h2, h3, h4⟩ := a
  obtain ⟨eb', ee', lb', le', rm', ld', g1, g2, g3, g4⟩ := b
  have e := LDY_uniq (fun t ht => (EP_uniq tp h1 g1 ht).2) h2 g2
  subst e
  have q : ∀ t : Nat, (t : Int) < S 13 0 0 → lb t = lb' t ∧ rm t = rm' t := fun t ht => by
    have := LATE_uniq tp (fun t ht => (EP_uniq tp h1 g1 ht).1) h3 g3 ht
    exact ⟨this.1, this.2.2⟩
  rw [h4, g4]
  unfold LL
  rw [lvAll_cg w q]
theorem TOP.rul {x : Int} (tp : TOP S) : TOP (su S 15 0 0 x) := tp.same (su_f (by decide)) (su_f (by decide)) (su_f (by decide)) (su_f (by decide)) (su_f (by decide)) (su_f (by decide))
theorem best_eq (w : WF S) (tp : TOP S) {eb ee lb le rm : Nat → Int} {ld : Int} (h1 : EP S eb ee) (h2 : LDY S ee ld) (h3 : LATE S eb lb le rm ld) {f : Int → Int} (hf : ∀ j : Nat, j < 4 → RV1 (su S 15 0 0 (j : Int)) (f j)) : brF f 4 0 0 5000 = brF (LL S lb rm) 4 0 0 5000 :=
  brF_cg 4 0 0 5000 fun j _ hj => RV1_uniq (w.rul (by omega)) tp.rul (hf j (by omega)) ⟨eb, ee, lb, le, rm, ld, EP_off CGR.s15.sy h1, LDY_off CGR.s15.sy h2, LATE_off CGR.s15.sy h3, by rw [LL_off CGL.s15, su_s]⟩
/-- levelledWith: the class's answer is one of relaid's -/
theorem lwith_rv {c : Nat} {x : Int} {eb ee lb le rm : Nat → Int} {ld : Int} (h1 : EP S eb ee) (h2 : LDY S ee ld) (h3 : LATE S eb lb le rm ld) : RV1 (su S 3 c 0 x) (LL (su S 3 c 0 x) lb rm (S 15 0 0)) :=
  ⟨eb, ee, lb, le, rm, ld, EP_off CGR.s3.sy h1, LDY_off CGR.s3.sy h2, LATE_off CGR.s3.sy h3, by rw [su_f (by decide)]⟩
theorem LEVW.rv {v : Int} (l : LEVW S (S 15 0 0) v) : RV1 S v := by
  obtain ⟨eb, ee, lb, le, rm, ld, h1, h2, h3⟩ := l
  exact ⟨eb, ee, lb, le, rm, ld, h1.1, h1.2.2, h2.1, h3⟩
end Sm

/-! ===== one answer ===== -/
section Sm
variable {S S' : ST}
theorem LDY_uniq {f g : Nat → Int} {x y : Int} (e : ∀ t : Nat, (t : Int) < S 13 0 0 → f t = g t) (p : LDY S f x) (q : LDY S g y) : x = y := by
  have a : x ≤ y := by
    rcases p.2.1 with h | ⟨t, h1, h2⟩
    · have := q.2.2.1; omega
    · have := q.1 t h1; have := e t h1; omega
  have b : y ≤ x := by
    rcases q.2.1 with h | ⟨t, h1, h2⟩
    · have := p.2.2.1; omega
    · have := p.1 t h1; have := e t h1; omega
  omega
theorem RV0_uniq (tp : TOP S) {v v' : Int} (a : RV0 S v) (b : RV0 S v') : v = v' := by
  obtain ⟨eb, ee, h1, h2⟩ := a
  obtain ⟨eb', ee', h3, h4⟩ := b
  exact LDY_uniq (fun t ht => (EP_uniq tp h1 h3 ht).2) h2 h4
theorem LASTW.rv {t : Nat} {x v : Int} (l : LASTW S t x v) : RV0 (su S 5 t 0 x) v := by
  obtain ⟨eb, ee, h1, h2, h3⟩ := l
  exact ⟨eb, ee, h1, h3⟩
end Sm

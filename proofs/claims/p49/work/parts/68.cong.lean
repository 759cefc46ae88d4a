/-! ===== what the plans do not look at: crews, the rule, marks ===== -/
section Cg
variable {S S' : ST}
def CGR (S' S : ST) : Prop := ∀ f, f ≠ 3 → f ≠ 15 → f ≠ 17 → S' f = S f
theorem CGR.sy (e : CGR S' S) : CGR S S' := fun f a b c => (e f a b c).symm
theorem CGR.s3 {i j : Nat} {v : Int} : CGR (su S 3 i j v) S := fun f a _ _ => su_f a
theorem CGR.s15 {i j : Nat} {v : Int} : CGR (su S 15 i j v) S := fun f _ a _ => su_f a
theorem lF_off (e : CGR S' S) : lF S' = lF S := by
  funext i; unfold lF; rw [e 18 (by decide) (by decide) (by decide), e 19 (by decide) (by decide) (by decide)]
theorem lT_off (e : CGR S' S) : lT S' = lT S := by
  funext i; unfold lT; rw [e 18 (by decide) (by decide) (by decide), e 20 (by decide) (by decide) (by decide)]
theorem lK_off (e : CGR S' S) : lK S' = lK S := by
  funext i; unfold lK; rw [e 18 (by decide) (by decide) (by decide), e 21 (by decide) (by decide) (by decide)]
theorem lG_off (e : CGR S' S) : lG S' = lG S := by
  funext i; unfold lG; rw [e 18 (by decide) (by decide) (by decide), e 22 (by decide) (by decide) (by decide)]
theorem wkS_off (e : CGR S' S) : wkS S' = wkS S := by
  funext c d; unfold wkS; simp only [e 0 (by decide) (by decide) (by decide), e 1 (by decide) (by decide) (by decide), e 2 (by decide) (by decide) (by decide)]
theorem askL_off (e : CGR S' S) {b f : Nat → Int} {t : Nat} : ∀ (m i : Nat) (x y : Int), askL S' b f t m i x y = askL S b f t m i x y
  | 0, _, _, _ => rfl
  | m + 1, i, x, y => by
    rw [askL, askL, lF_off e, lT_off e, lK_off e, lG_off e]
    simp only [askL_off e m]
theorem askU_off (e : CGR S' S) {lb le : Nat → Int} {t : Nat} : ∀ (m i : Nat) (x y : Int), askU S' lb le t m i x y = askU S lb le t m i x y
  | 0, _, _, _ => rfl
  | m + 1, i, x, y => by
    rw [askU, askU, lF_off e, lT_off e, lK_off e, lG_off e, e 9 (by decide) (by decide) (by decide)]
    simp only [askU_off e m]
theorem endS_off (e : CGR S' S) : endS S' = endS S := by
  funext t x; unfold endS; simp only [wkS_off e, e 5 (by decide) (by decide) (by decide), e 6 (by decide) (by decide) (by decide)]
theorem fday_off (e : CGR S' S) {b f : Nat → Int} {t : Nat} : fday S' b f t = fday S b f t := by
  unfold fday; simp only [wkS_off e, askL_off e, e 5 (by decide) (by decide) (by decide), e 6 (by decide) (by decide) (by decide), e 8 (by decide) (by decide) (by decide), e 14 (by decide) (by decide) (by decide)]
theorem lday_off (e : CGR S' S) {eb lb le : Nat → Int} {ld : Int} {t : Nat} : lday S' eb lb le ld t = lday S eb lb le ld t := by
  unfold lday; simp only [wkS_off e, askU_off e, e 5 (by decide) (by decide) (by decide), e 6 (by decide) (by decide) (by decide), e 14 (by decide) (by decide) (by decide)]
theorem roomF_off (e : CGR S' S) : roomF S' = roomF S := by
  funext eb t d; unfold roomF; simp only [wkS_off e, e 5 (by decide) (by decide) (by decide), e 6 (by decide) (by decide) (by decide)]
theorem EP_off (e : CGR S' S) {b f : Nat → Int} (p : EP S' b f) : EP S b f := by
  intro t ht
  have q := p t (by rw [e 13 (by decide) (by decide) (by decide)]; exact ht)
  unfold EPt at *
  simp only [fday_off e, endS_off e, e 9 (by decide) (by decide) (by decide), e 10 (by decide) (by decide) (by decide), e 11 (by decide) (by decide) (by decide)] at q
  exact q
theorem LDY_off (e : CGR S' S) {f : Nat → Int} {ld : Int} (p : LDY S' f ld) : LDY S f ld := by
  unfold LDY at *
  simp only [e 13 (by decide) (by decide) (by decide)] at p
  exact p
theorem LATE_off (e : CGR S' S) {eb lb le rm : Nat → Int} {ld : Int} (p : LATE S' eb lb le rm ld) : LATE S eb lb le rm ld := by
  intro t ht
  have q := p t (by rw [e 13 (by decide) (by decide) (by decide)]; exact ht)
  unfold LPt at *
  simp only [lday_off e, endS_off e, roomF_off e, e 9 (by decide) (by decide) (by decide), e 10 (by decide) (by decide) (by decide), e 11 (by decide) (by decide) (by decide)] at q
  exact q
end Cg

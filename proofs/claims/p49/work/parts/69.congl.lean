/-! ===== what the levelled plan does not look at: the rule kept in the table, marks ===== -/
section Cl
variable {S S' : ST}
def CGL (S' S : ST) : Prop := ∀ f, f ≠ 15 → f ≠ 17 → S' f = S f
theorem CGL.r (e : CGL S' S) : CGR S' S := fun f _ b c => e f b c
theorem CGL.s15 {i j : Nat} {v : Int} : CGL (su S 15 i j v) S := fun f a _ => su_f a
theorem big_off (e : CGL S' S) {t : Nat} : ∀ (m c : Nat), big S' t m c = big S t m c
  | 0, _ => rfl
  | m + 1, c => by rw [big, big, big_off e m, e 12 (by decide) (by decide), e 3 (by decide) (by decide)]
theorem tooL_off (e : CGL S' S) : tooL S' = tooL S := by
  funext t; unfold tooL; rw [big_off e, e 5 (by decide) (by decide)]
theorem suf_off (e : CGL S' S) {g : Nat → Nat → Int} {t : Nat} {d : Int} : ∀ (m c : Nat), suf S' g t d m c = suf S g t d m c
  | 0, _ => rfl
  | m + 1, c => by rw [suf, suf, suf_off e m, e 12 (by decide) (by decide), e 3 (by decide) (by decide)]
theorem keyF_off (e : CGL S' S) {lb rm : Nat → Int} {rl : Int} : keyF S' lb rm rl = keyF S lb rm rl := by
  funext t; unfold keyF; rw [e 7 (by decide) (by decide), e 5 (by decide) (by decide)]
theorem opn_off (e : CGL S' S) {g : Nat → Int} {t : Int} : ∀ (m i : Nat), opn S' g t m i = opn S g t m i
  | 0, _ => rfl
  | m + 1, i => by rw [opn, opn, opn_off e m, lT_off e.r, lF_off e.r]
theorem chs_off (e : CGL S' S) {lb rm : Nat → Int} {rl : Int} {inn : Nat → Int} : ∀ (m i : Nat) (y z : Int), chs S' lb rm rl inn m i y z = chs S lb rm rl inn m i y z
  | 0, _, _, _ => rfl
  | m + 1, i, y, z => by
    rw [chs, chs, tooL_off e, keyF_off e, opn_off e, e 14 (by decide) (by decide)]
    simp only [chs_off e m]
theorem fwc_off (e : CGL S' S) {g : Nat → Nat → Int} {t : Nat} : ∀ (m d : Nat) (f y : Int), fwc S' g t m d f y = fwc S g t m d f y
  | 0, _, _, _ => rfl
  | m + 1, d, f, y => by
    rw [fwc, fwc, suf_off e, wkS_off e.r, e 5 (by decide) (by decide), e 6 (by decide) (by decide)]
    simp only [fwc_off e m]
theorem ldg_off (e : CGL S' S) : ldg S' = ldg S := by
  funext b f inn c d; unfold ldg; rw [wkS_off e.r, e 6 (by decide) (by decide), e 12 (by decide) (by decide)]
theorem lvD_off (e : CGL S' S) : ∀ (m i : Nat) (s : LState), lvD S' m i s = lvD S m i s
  | 0, _, _ => rfl
  | m + 1, i, s => by rw [lvD, lvD, lvD_off e m, e 9 (by decide) (by decide), e 10 (by decide) (by decide), e 11 (by decide) (by decide)]
theorem nxtL_off (e : CGL S' S) {lb rm : Nat → Int} {rl : Int} {s : LState} : nxtL S' lb rm rl s = nxtL S lb rm rl s := by
  unfold nxtL; rw [chs_off e, e 13 (by decide) (by decide)]
theorem begL_off (e : CGL S' S) {s : LState} {t : Nat} : begL S' s t = begL S s t := by
  unfold begL; rw [ldg_off e, fwc_off e, fday_off e.r]
theorem lvR_off (e : CGL S' S) {lb rm : Nat → Int} {rl : Int} : ∀ (m : Nat) (s : LState), lvR S' lb rm rl m s = lvR S lb rm rl m s
  | 0, _ => rfl
  | m + 1, s => by rw [lvR, lvR, nxtL_off e, begL_off e, endS_off e.r, lvR_off e m]
theorem lvAll_off (e : CGL S' S) {lb rm od : Nat → Int} {rl : Int} : lvAll S' lb rm rl od = lvAll S lb rm rl od := by
  unfold lvAll; rw [lvD_off e, lvR_off e, e 13 (by decide) (by decide)]
theorem LL_off (e : CGL S' S) {lb rm : Nat → Int} {rl : Int} : LL S' lb rm rl = LL S lb rm rl := by
  unfold LL; rw [lvAll_off e]
end Cl

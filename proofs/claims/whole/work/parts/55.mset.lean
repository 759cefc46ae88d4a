/-! ===== the reference: what it is told ===== -/
section Mset
variable {G : Ctx} {h : AH} {N : Nat} {S M : ST} {L : Nat → Nat} {z : Int64} {K : KTup}
abbrev mKP : List Nat := [28, 29, 30, 31, 32, 33]
/-- refused, or asked without laying out -/
def MRB (G : Ctx) (S M : ST) (L : Nat → Nat) (z : Int64) (h : AH) (N : Nat) (t : Int) (M' : ST) (h' : AH) (N' : Nat) : Prop := N ≤ N' ∧ N' ≤ N + 30 ∧ MP G N' M' L z h' ∧ RS S M' ∧ M' 0 0 0 = t ∧ (∀ f, f ≠ 0 → M' f = M f) ∧ FA G N h h'
/-- told -/
def MRG (G : Ctx) (S' M : ST) (L : Nat → Nat) (z : Int64) (h : AH) (N : Nat) (M' : ST) (h' : AH) (N' : Nat) : Prop := N ≤ N' ∧ N' ≤ N + 30 ∧ MP G N' M' L z h' ∧ RS S' M' ∧ M' 0 0 0 = 0 ∧ M' 17 0 0 = 0 ∧ (∀ f ∈ mKP, M' f = M f) ∧ FA G N h h'
theorem RS_s1 (r : RS S M) {t : Nat} {v : Int} : RS (su S 0 t 0 v) (su M 1 t 0 v) := by
  obtain ⟨a, b, c, d, e⟩ := r
  unfold RS lF lT lK lG
  simp only [su_f (S := S) (f := 0) (i := t) (j := 0) (v := v) (f' := 1) (by decide), su_f (S := S) (f := 0) (i := t) (j := 0) (v := v) (f' := 2) (by decide), su_f (S := S) (f := 0) (i := t) (j := 0) (v := v) (f' := 3) (by decide), su_f (S := S) (f := 0) (i := t) (j := 0) (v := v) (f' := 4) (by decide), su_f (S := S) (f := 0) (i := t) (j := 0) (v := v) (f' := 5) (by decide), su_f (S := S) (f := 0) (i := t) (j := 0) (v := v) (f' := 6) (by decide), su_f (S := S) (f := 0) (i := t) (j := 0) (v := v) (f' := 7) (by decide), su_f (S := S) (f := 0) (i := t) (j := 0) (v := v) (f' := 8) (by decide), su_f (S := S) (f := 0) (i := t) (j := 0) (v := v) (f' := 9) (by decide), su_f (S := S) (f := 0) (i := t) (j := 0) (v := v) (f' := 10) (by decide), su_f (S := S) (f := 0) (i := t) (j := 0) (v := v) (f' := 11) (by decide), su_f (S := S) (f := 0) (i := t) (j := 0) (v := v) (f' := 12) (by decide), su_f (S := S) (f := 0) (i := t) (j := 0) (v := v) (f' := 13) (by decide), su_f (S := S) (f := 0) (i := t) (j := 0) (v := v) (f' := 14) (by decide), su_f (S := S) (f := 0) (i := t) (j := 0) (v := v) (f' := 15) (by decide), su_f (S := S) (f := 0) (i := t) (j := 0) (v := v) (f' := 18) (by decide), su_f (S := S) (f := 0) (i := t) (j := 0) (v := v) (f' := 19) (by decide), su_f (S := S) (f := 0) (i := t) (j := 0) (v := v) (f' := 20) (by decide), su_f (S := S) (f := 0) (i := t) (j := 0) (v := v) (f' := 21) (by decide), su_f (S := S) (f := 0) (i := t) (j := 0) (v := v) (f' := 22) (by decide), su_f (S := M) (f := 1) (i := t) (j := 0) (v := v) (f' := 2) (by decide), su_f (S := M) (f := 1) (i := t) (j := 0) (v := v) (f' := 3) (by decide), su_f (S := M) (f := 1) (i := t) (j := 0) (v := v) (f' := 4) (by decide), su_f (S := M) (f := 1) (i := t) (j := 0) (v := v) (f' := 5) (by decide), su_f (S := M) (f := 1) (i := t) (j := 0) (v := v) (f' := 6) (by decide), su_f (S := M) (f := 1) (i := t) (j := 0) (v := v) (f' := 7) (by decide), su_f (S := M) (f := 1) (i := t) (j := 0) (v := v) (f' := 8) (by decide), su_f (S := M) (f := 1) (i := t) (j := 0) (v := v) (f' := 9) (by decide), su_f (S := M) (f := 1) (i := t) (j := 0) (v := v) (f' := 10) (by decide), su_f (S := M) (f := 1) (i := t) (j := 0) (v := v) (f' := 11) (by decide), su_f (S := M) (f := 1) (i := t) (j := 0) (v := v) (f' := 12) (by decide), su_f (S := M) (f := 1) (i := t) (j := 0) (v := v) (f' := 13) (by decide), su_f (S := M) (f := 1) (i := t) (j := 0) (v := v) (f' := 14) (by decide), su_f (S := M) (f := 1) (i := t) (j := 0) (v := v) (f' := 15) (by decide), su_f (S := M) (f := 1) (i := t) (j := 0) (v := v) (f' := 16) (by decide)]
  refine ⟨fun x => ⟨?_, (a x).2.1, (a x).2.2.1, (a x).2.2.2⟩, b, c, d, e⟩
  by_cases hx : x = t
  · rw [hx, su_s, su_s]
  · rw [su_i hx, su_i hx]; exact (a x).1
theorem RS_s4 (r : RS S M) {t : Nat} {v : Int} : RS (su S 3 t 0 v) (su M 4 t 0 v) := by
  obtain ⟨a, b, c, d, e⟩ := r
  unfold RS lF lT lK lG
  simp only [su_f (S := S) (f := 3) (i := t) (j := 0) (v := v) (f' := 0) (by decide), su_f (S := S) (f := 3) (i := t) (j := 0) (v := v) (f' := 1) (by decide), su_f (S := S) (f := 3) (i := t) (j := 0) (v := v) (f' := 2) (by decide), su_f (S := S) (f := 3) (i := t) (j := 0) (v := v) (f' := 4) (by decide), su_f (S := S) (f := 3) (i := t) (j := 0) (v := v) (f' := 5) (by decide), su_f (S := S) (f := 3) (i := t) (j := 0) (v := v) (f' := 6) (by decide), su_f (S := S) (f := 3) (i := t) (j := 0) (v := v) (f' := 7) (by decide), su_f (S := S) (f := 3) (i := t) (j := 0) (v := v) (f' := 8) (by decide), su_f (S := S) (f := 3) (i := t) (j := 0) (v := v) (f' := 9) (by decide), su_f (S := S) (f := 3) (i := t) (j := 0) (v := v) (f' := 10) (by decide), su_f (S := S) (f := 3) (i := t) (j := 0) (v := v) (f' := 11) (by decide), su_f (S := S) (f := 3) (i := t) (j := 0) (v := v) (f' := 12) (by decide), su_f (S := S) (f := 3) (i := t) (j := 0) (v := v) (f' := 13) (by decide), su_f (S := S) (f := 3) (i := t) (j := 0) (v := v) (f' := 14) (by decide), su_f (S := S) (f := 3) (i := t) (j := 0) (v := v) (f' := 15) (by decide), su_f (S := S) (f := 3) (i := t) (j := 0) (v := v) (f' := 18) (by decide), su_f (S := S) (f := 3) (i := t) (j := 0) (v := v) (f' := 19) (by decide), su_f (S := S) (f := 3) (i := t) (j := 0) (v := v) (f' := 20) (by decide), su_f (S := S) (f := 3) (i := t) (j := 0) (v := v) (f' := 21) (by decide), su_f (S := S) (f := 3) (i := t) (j := 0) (v := v) (f' := 22) (by decide), su_f (S := M) (f := 4) (i := t) (j := 0) (v := v) (f' := 1) (by decide), su_f (S := M) (f := 4) (i := t) (j := 0) (v := v) (f' := 2) (by decide), su_f (S := M) (f := 4) (i := t) (j := 0) (v := v) (f' := 3) (by decide), su_f (S := M) (f := 4) (i := t) (j := 0) (v := v) (f' := 5) (by decide), su_f (S := M) (f := 4) (i := t) (j := 0) (v := v) (f' := 6) (by decide), su_f (S := M) (f := 4) (i := t) (j := 0) (v := v) (f' := 7) (by decide), su_f (S := M) (f := 4) (i := t) (j := 0) (v := v) (f' := 8) (by decide), su_f (S := M) (f := 4) (i := t) (j := 0) (v := v) (f' := 9) (by decide), su_f (S := M) (f := 4) (i := t) (j := 0) (v := v) (f' := 10) (by decide), su_f (S := M) (f := 4) (i := t) (j := 0) (v := v) (f' := 11) (by decide), su_f (S := M) (f := 4) (i := t) (j := 0) (v := v) (f' := 12) (by decide), su_f (S := M) (f := 4) (i := t) (j := 0) (v := v) (f' := 13) (by decide), su_f (S := M) (f := 4) (i := t) (j := 0) (v := v) (f' := 14) (by decide), su_f (S := M) (f := 4) (i := t) (j := 0) (v := v) (f' := 15) (by decide), su_f (S := M) (f := 4) (i := t) (j := 0) (v := v) (f' := 16) (by decide)]
  refine ⟨fun x => ⟨(a x).1, (a x).2.1, ?_, (a x).2.2.2⟩, b, c, d, e⟩
  by_cases hx : x = t
  · rw [hx, su_s, su_s]
  · rw [su_i hx, su_i hx]; exact (a x).2.2.1
theorem RS_s5 (r : RS S M) {t : Nat} {v : Int} : RS (su S 4 t 0 v) (su M 5 t 0 v) := by
  obtain ⟨a, b, c, d, e⟩ := r
  unfold RS lF lT lK lG
  simp only [su_f (S := S) (f := 4) (i := t) (j := 0) (v := v) (f' := 0) (by decide), su_f (S := S) (f := 4) (i := t) (j := 0) (v := v) (f' := 1) (by decide), su_f (S := S) (f := 4) (i := t) (j := 0) (v := v) (f' := 2) (by decide), su_f (S := S) (f := 4) (i := t) (j := 0) (v := v) (f' := 3) (by decide), su_f (S := S) (f := 4) (i := t) (j := 0) (v := v) (f' := 5) (by decide), su_f (S := S) (f := 4) (i := t) (j := 0) (v := v) (f' := 6) (by decide), su_f (S := S) (f := 4) (i := t) (j := 0) (v := v) (f' := 7) (by decide), su_f (S := S) (f := 4) (i := t) (j := 0) (v := v) (f' := 8) (by decide), su_f (S := S) (f := 4) (i := t) (j := 0) (v := v) (f' := 9) (by decide), su_f (S := S) (f := 4) (i := t) (j := 0) (v := v) (f' := 10) (by decide), su_f (S := S) (f := 4) (i := t) (j := 0) (v := v) (f' := 11) (by decide), su_f (S := S) (f := 4) (i := t) (j := 0) (v := v) (f' := 12) (by decide), su_f (S := S) (f := 4) (i := t) (j := 0) (v := v) (f' := 13) (by decide), su_f (S := S) (f := 4) (i := t) (j := 0) (v := v) (f' := 14) (by decide), su_f (S := S) (f := 4) (i := t) (j := 0) (v := v) (f' := 15) (by decide), su_f (S := S) (f := 4) (i := t) (j := 0) (v := v) (f' := 18) (by decide), su_f (S := S) (f := 4) (i := t) (j := 0) (v := v) (f' := 19) (by decide), su_f (S := S) (f := 4) (i := t) (j := 0) (v := v) (f' := 20) (by decide), su_f (S := S) (f := 4) (i := t) (j := 0) (v := v) (f' := 21) (by decide), su_f (S := S) (f := 4) (i := t) (j := 0) (v := v) (f' := 22) (by decide), su_f (S := M) (f := 5) (i := t) (j := 0) (v := v) (f' := 1) (by decide), su_f (S := M) (f := 5) (i := t) (j := 0) (v := v) (f' := 2) (by decide), su_f (S := M) (f := 5) (i := t) (j := 0) (v := v) (f' := 3) (by decide), su_f (S := M) (f := 5) (i := t) (j := 0) (v := v) (f' := 4) (by decide), su_f (S := M) (f := 5) (i := t) (j := 0) (v := v) (f' := 6) (by decide), su_f (S := M) (f := 5) (i := t) (j := 0) (v := v) (f' := 7) (by decide), su_f (S := M) (f := 5) (i := t) (j := 0) (v := v) (f' := 8) (by decide), su_f (S := M) (f := 5) (i := t) (j := 0) (v := v) (f' := 9) (by decide), su_f (S := M) (f := 5) (i := t) (j := 0) (v := v) (f' := 10) (by decide), su_f (S := M) (f := 5) (i := t) (j := 0) (v := v) (f' := 11) (by decide), su_f (S := M) (f := 5) (i := t) (j := 0) (v := v) (f' := 12) (by decide), su_f (S := M) (f := 5) (i := t) (j := 0) (v := v) (f' := 13) (by decide), su_f (S := M) (f := 5) (i := t) (j := 0) (v := v) (f' := 14) (by decide), su_f (S := M) (f := 5) (i := t) (j := 0) (v := v) (f' := 15) (by decide), su_f (S := M) (f := 5) (i := t) (j := 0) (v := v) (f' := 16) (by decide)]
  refine ⟨fun x => ⟨(a x).1, (a x).2.1, (a x).2.2.1, ?_⟩, b, c, d, e⟩
  by_cases hx : x = t
  · rw [hx, su_s, su_s]
  · rw [su_i hx, su_i hx]; exact (a x).2.2.2
theorem RS_s7 (r : RS S M) {t : Nat} {v : Int} : RS (su S 5 t 0 v) (su M 7 t 0 v) := by
  obtain ⟨a, b, c, d, e⟩ := r
  unfold RS lF lT lK lG
  simp only [su_f (S := S) (f := 5) (i := t) (j := 0) (v := v) (f' := 0) (by decide), su_f (S := S) (f := 5) (i := t) (j := 0) (v := v) (f' := 1) (by decide), su_f (S := S) (f := 5) (i := t) (j := 0) (v := v) (f' := 2) (by decide), su_f (S := S) (f := 5) (i := t) (j := 0) (v := v) (f' := 3) (by decide), su_f (S := S) (f := 5) (i := t) (j := 0) (v := v) (f' := 4) (by decide), su_f (S := S) (f := 5) (i := t) (j := 0) (v := v) (f' := 6) (by decide), su_f (S := S) (f := 5) (i := t) (j := 0) (v := v) (f' := 7) (by decide), su_f (S := S) (f := 5) (i := t) (j := 0) (v := v) (f' := 8) (by decide), su_f (S := S) (f := 5) (i := t) (j := 0) (v := v) (f' := 9) (by decide), su_f (S := S) (f := 5) (i := t) (j := 0) (v := v) (f' := 10) (by decide), su_f (S := S) (f := 5) (i := t) (j := 0) (v := v) (f' := 11) (by decide), su_f (S := S) (f := 5) (i := t) (j := 0) (v := v) (f' := 12) (by decide), su_f (S := S) (f := 5) (i := t) (j := 0) (v := v) (f' := 13) (by decide), su_f (S := S) (f := 5) (i := t) (j := 0) (v := v) (f' := 14) (by decide), su_f (S := S) (f := 5) (i := t) (j := 0) (v := v) (f' := 15) (by decide), su_f (S := S) (f := 5) (i := t) (j := 0) (v := v) (f' := 18) (by decide), su_f (S := S) (f := 5) (i := t) (j := 0) (v := v) (f' := 19) (by decide), su_f (S := S) (f := 5) (i := t) (j := 0) (v := v) (f' := 20) (by decide), su_f (S := S) (f := 5) (i := t) (j := 0) (v := v) (f' := 21) (by decide), su_f (S := S) (f := 5) (i := t) (j := 0) (v := v) (f' := 22) (by decide), su_f (S := M) (f := 7) (i := t) (j := 0) (v := v) (f' := 1) (by decide), su_f (S := M) (f := 7) (i := t) (j := 0) (v := v) (f' := 2) (by decide), su_f (S := M) (f := 7) (i := t) (j := 0) (v := v) (f' := 3) (by decide), su_f (S := M) (f := 7) (i := t) (j := 0) (v := v) (f' := 4) (by decide), su_f (S := M) (f := 7) (i := t) (j := 0) (v := v) (f' := 5) (by decide), su_f (S := M) (f := 7) (i := t) (j := 0) (v := v) (f' := 6) (by decide), su_f (S := M) (f := 7) (i := t) (j := 0) (v := v) (f' := 8) (by decide), su_f (S := M) (f := 7) (i := t) (j := 0) (v := v) (f' := 9) (by decide), su_f (S := M) (f := 7) (i := t) (j := 0) (v := v) (f' := 10) (by decide), su_f (S := M) (f := 7) (i := t) (j := 0) (v := v) (f' := 11) (by decide), su_f (S := M) (f := 7) (i := t) (j := 0) (v := v) (f' := 12) (by decide), su_f (S := M) (f := 7) (i := t) (j := 0) (v := v) (f' := 13) (by decide), su_f (S := M) (f := 7) (i := t) (j := 0) (v := v) (f' := 14) (by decide), su_f (S := M) (f := 7) (i := t) (j := 0) (v := v) (f' := 15) (by decide), su_f (S := M) (f := 7) (i := t) (j := 0) (v := v) (f' := 16) (by decide)]
  refine ⟨a, fun x => ⟨?_, (b x).2.1, (b x).2.2.1, (b x).2.2.2.1, (b x).2.2.2.2.1, (b x).2.2.2.2.2⟩, c, d, e⟩
  by_cases hx : x = t
  · rw [hx, su_s, su_s]
  · rw [su_i hx, su_i hx]; exact (b x).1
theorem RS_s9 (r : RS S M) {t : Nat} {v : Int} : RS (su S 7 t 0 v) (su M 9 t 0 v) := by
  obtain ⟨a, b, c, d, e⟩ := r
  unfold RS lF lT lK lG
  simp only [su_f (S := S) (f := 7) (i := t) (j := 0) (v := v) (f' := 0) (by decide), su_f (S := S) (f := 7) (i := t) (j := 0) (v := v) (f' := 1) (by decide), su_f (S := S) (f := 7) (i := t) (j := 0) (v := v) (f' := 2) (by decide), su_f (S := S) (f := 7) (i := t) (j := 0) (v := v) (f' := 3) (by decide), su_f (S := S) (f := 7) (i := t) (j := 0) (v := v) (f' := 4) (by decide), su_f (S := S) (f := 7) (i := t) (j := 0) (v := v) (f' := 5) (by decide), su_f (S := S) (f := 7) (i := t) (j := 0) (v := v) (f' := 6) (by decide), su_f (S := S) (f := 7) (i := t) (j := 0) (v := v) (f' := 8) (by decide), su_f (S := S) (f := 7) (i := t) (j := 0) (v := v) (f' := 9) (by decide), su_f (S := S) (f := 7) (i := t) (j := 0) (v := v) (f' := 10) (by decide), su_f (S := S) (f := 7) (i := t) (j := 0) (v := v) (f' := 11) (by decide), su_f (S := S) (f := 7) (i := t) (j := 0) (v := v) (f' := 12) (by decide), su_f (S := S) (f := 7) (i := t) (j := 0) (v := v) (f' := 13) (by decide), su_f (S := S) (f := 7) (i := t) (j := 0) (v := v) (f' := 14) (by decide), su_f (S := S) (f := 7) (i := t) (j := 0) (v := v) (f' := 15) (by decide), su_f (S := S) (f := 7) (i := t) (j := 0) (v := v) (f' := 18) (by decide), su_f (S := S) (f := 7) (i := t) (j := 0) (v := v) (f' := 19) (by decide), su_f (S := S) (f := 7) (i := t) (j := 0) (v := v) (f' := 20) (by decide), su_f (S := S) (f := 7) (i := t) (j := 0) (v := v) (f' := 21) (by decide), su_f (S := S) (f := 7) (i := t) (j := 0) (v := v) (f' := 22) (by decide), su_f (S := M) (f := 9) (i := t) (j := 0) (v := v) (f' := 1) (by decide), su_f (S := M) (f := 9) (i := t) (j := 0) (v := v) (f' := 2) (by decide), su_f (S := M) (f := 9) (i := t) (j := 0) (v := v) (f' := 3) (by decide), su_f (S := M) (f := 9) (i := t) (j := 0) (v := v) (f' := 4) (by decide), su_f (S := M) (f := 9) (i := t) (j := 0) (v := v) (f' := 5) (by decide), su_f (S := M) (f := 9) (i := t) (j := 0) (v := v) (f' := 6) (by decide), su_f (S := M) (f := 9) (i := t) (j := 0) (v := v) (f' := 7) (by decide), su_f (S := M) (f := 9) (i := t) (j := 0) (v := v) (f' := 8) (by decide), su_f (S := M) (f := 9) (i := t) (j := 0) (v := v) (f' := 10) (by decide), su_f (S := M) (f := 9) (i := t) (j := 0) (v := v) (f' := 11) (by decide), su_f (S := M) (f := 9) (i := t) (j := 0) (v := v) (f' := 12) (by decide), su_f (S := M) (f := 9) (i := t) (j := 0) (v := v) (f' := 13) (by decide), su_f (S := M) (f := 9) (i := t) (j := 0) (v := v) (f' := 14) (by decide), su_f (S := M) (f := 9) (i := t) (j := 0) (v := v) (f' := 15) (by decide), su_f (S := M) (f := 9) (i := t) (j := 0) (v := v) (f' := 16) (by decide)]
  refine ⟨a, fun x => ⟨(b x).1, (b x).2.1, ?_, (b x).2.2.2.1, (b x).2.2.2.2.1, (b x).2.2.2.2.2⟩, c, d, e⟩
  by_cases hx : x = t
  · rw [hx, su_s, su_s]
  · rw [su_i hx, su_i hx]; exact (b x).2.2.1
theorem RS_s10 (r : RS S M) {t : Nat} {v : Int} : RS (su S 8 t 0 v) (su M 10 t 0 v) := by
  obtain ⟨a, b, c, d, e⟩ := r
  unfold RS lF lT lK lG
  simp only [su_f (S := S) (f := 8) (i := t) (j := 0) (v := v) (f' := 0) (by decide), su_f (S := S) (f := 8) (i := t) (j := 0) (v := v) (f' := 1) (by decide), su_f (S := S) (f := 8) (i := t) (j := 0) (v := v) (f' := 2) (by decide), su_f (S := S) (f := 8) (i := t) (j := 0) (v := v) (f' := 3) (by decide), su_f (S := S) (f := 8) (i := t) (j := 0) (v := v) (f' := 4) (by decide), su_f (S := S) (f := 8) (i := t) (j := 0) (v := v) (f' := 5) (by decide), su_f (S := S) (f := 8) (i := t) (j := 0) (v := v) (f' := 6) (by decide), su_f (S := S) (f := 8) (i := t) (j := 0) (v := v) (f' := 7) (by decide), su_f (S := S) (f := 8) (i := t) (j := 0) (v := v) (f' := 9) (by decide), su_f (S := S) (f := 8) (i := t) (j := 0) (v := v) (f' := 10) (by decide), su_f (S := S) (f := 8) (i := t) (j := 0) (v := v) (f' := 11) (by decide), su_f (S := S) (f := 8) (i := t) (j := 0) (v := v) (f' := 12) (by decide), su_f (S := S) (f := 8) (i := t) (j := 0) (v := v) (f' := 13) (by decide), su_f (S := S) (f := 8) (i := t) (j := 0) (v := v) (f' := 14) (by decide), su_f (S := S) (f := 8) (i := t) (j := 0) (v := v) (f' := 15) (by decide), su_f (S := S) (f := 8) (i := t) (j := 0) (v := v) (f' := 18) (by decide), su_f (S := S) (f := 8) (i := t) (j := 0) (v := v) (f' := 19) (by decide), su_f (S := S) (f := 8) (i := t) (j := 0) (v := v) (f' := 20) (by decide), su_f (S := S) (f := 8) (i := t) (j := 0) (v := v) (f' := 21) (by decide), su_f (S := S) (f := 8) (i := t) (j := 0) (v := v) (f' := 22) (by decide), su_f (S := M) (f := 10) (i := t) (j := 0) (v := v) (f' := 1) (by decide), su_f (S := M) (f := 10) (i := t) (j := 0) (v := v) (f' := 2) (by decide), su_f (S := M) (f := 10) (i := t) (j := 0) (v := v) (f' := 3) (by decide), su_f (S := M) (f := 10) (i := t) (j := 0) (v := v) (f' := 4) (by decide), su_f (S := M) (f := 10) (i := t) (j := 0) (v := v) (f' := 5) (by decide), su_f (S := M) (f := 10) (i := t) (j := 0) (v := v) (f' := 6) (by decide), su_f (S := M) (f := 10) (i := t) (j := 0) (v := v) (f' := 7) (by decide), su_f (S := M) (f := 10) (i := t) (j := 0) (v := v) (f' := 8) (by decide), su_f (S := M) (f := 10) (i := t) (j := 0) (v := v) (f' := 9) (by decide), su_f (S := M) (f := 10) (i := t) (j := 0) (v := v) (f' := 11) (by decide), su_f (S := M) (f := 10) (i := t) (j := 0) (v := v) (f' := 12) (by decide), su_f (S := M) (f := 10) (i := t) (j := 0) (v := v) (f' := 13) (by decide), su_f (S := M) (f := 10) (i := t) (j := 0) (v := v) (f' := 14) (by decide), su_f (S := M) (f := 10) (i := t) (j := 0) (v := v) (f' := 15) (by decide), su_f (S := M) (f := 10) (i := t) (j := 0) (v := v) (f' := 16) (by decide)]
  refine ⟨a, fun x => ⟨(b x).1, (b x).2.1, (b x).2.2.1, ?_, (b x).2.2.2.2.1, (b x).2.2.2.2.2⟩, c, d, e⟩
  by_cases hx : x = t
  · rw [hx, su_s, su_s]
  · rw [su_i hx, su_i hx]; exact (b x).2.2.2.1
theorem RS_s12 (r : RS S M) {t : Nat} {v : Int} : RS (su S 9 t 0 v) (su M 12 t 0 v) := by
  obtain ⟨a, b, c, d, e⟩ := r
  unfold RS lF lT lK lG
  simp only [su_f (S := S) (f := 9) (i := t) (j := 0) (v := v) (f' := 0) (by decide), su_f (S := S) (f := 9) (i := t) (j := 0) (v := v) (f' := 1) (by decide), su_f (S := S) (f := 9) (i := t) (j := 0) (v := v) (f' := 2) (by decide), su_f (S := S) (f := 9) (i := t) (j := 0) (v := v) (f' := 3) (by decide), su_f (S := S) (f := 9) (i := t) (j := 0) (v := v) (f' := 4) (by decide), su_f (S := S) (f := 9) (i := t) (j := 0) (v := v) (f' := 5) (by decide), su_f (S := S) (f := 9) (i := t) (j := 0) (v := v) (f' := 6) (by decide), su_f (S := S) (f := 9) (i := t) (j := 0) (v := v) (f' := 7) (by decide), su_f (S := S) (f := 9) (i := t) (j := 0) (v := v) (f' := 8) (by decide), su_f (S := S) (f := 9) (i := t) (j := 0) (v := v) (f' := 10) (by decide), su_f (S := S) (f := 9) (i := t) (j := 0) (v := v) (f' := 11) (by decide), su_f (S := S) (f := 9) (i := t) (j := 0) (v := v) (f' := 12) (by decide), su_f (S := S) (f := 9) (i := t) (j := 0) (v := v) (f' := 13) (by decide), su_f (S := S) (f := 9) (i := t) (j := 0) (v := v) (f' := 14) (by decide), su_f (S := S) (f := 9) (i := t) (j := 0) (v := v) (f' := 15) (by decide), su_f (S := S) (f := 9) (i := t) (j := 0) (v := v) (f' := 18) (by decide), su_f (S := S) (f := 9) (i := t) (j := 0) (v := v) (f' := 19) (by decide), su_f (S := S) (f := 9) (i := t) (j := 0) (v := v) (f' := 20) (by decide), su_f (S := S) (f := 9) (i := t) (j := 0) (v := v) (f' := 21) (by decide), su_f (S := S) (f := 9) (i := t) (j := 0) (v := v) (f' := 22) (by decide), su_f (S := M) (f := 12) (i := t) (j := 0) (v := v) (f' := 1) (by decide), su_f (S := M) (f := 12) (i := t) (j := 0) (v := v) (f' := 2) (by decide), su_f (S := M) (f := 12) (i := t) (j := 0) (v := v) (f' := 3) (by decide), su_f (S := M) (f := 12) (i := t) (j := 0) (v := v) (f' := 4) (by decide), su_f (S := M) (f := 12) (i := t) (j := 0) (v := v) (f' := 5) (by decide), su_f (S := M) (f := 12) (i := t) (j := 0) (v := v) (f' := 6) (by decide), su_f (S := M) (f := 12) (i := t) (j := 0) (v := v) (f' := 7) (by decide), su_f (S := M) (f := 12) (i := t) (j := 0) (v := v) (f' := 8) (by decide), su_f (S := M) (f := 12) (i := t) (j := 0) (v := v) (f' := 9) (by decide), su_f (S := M) (f := 12) (i := t) (j := 0) (v := v) (f' := 10) (by decide), su_f (S := M) (f := 12) (i := t) (j := 0) (v := v) (f' := 11) (by decide), su_f (S := M) (f := 12) (i := t) (j := 0) (v := v) (f' := 13) (by decide), su_f (S := M) (f := 12) (i := t) (j := 0) (v := v) (f' := 14) (by decide), su_f (S := M) (f := 12) (i := t) (j := 0) (v := v) (f' := 15) (by decide), su_f (S := M) (f := 12) (i := t) (j := 0) (v := v) (f' := 16) (by decide)]
  refine ⟨a, fun x => ⟨(b x).1, (b x).2.1, (b x).2.2.1, (b x).2.2.2.1, ?_, (b x).2.2.2.2.2⟩, c, d, e⟩
  by_cases hx : x = t
  · rw [hx, su_s, su_s]
  · rw [su_i hx, su_i hx]; exact (b x).2.2.2.2.1
theorem RS_s11 (r : RS S M) {t u : Nat} {v : Int} : RS (su S 12 t u v) (su M 11 t u v) := by
  obtain ⟨a, b, c, d, e⟩ := r
  unfold RS lF lT lK lG
  simp only [su_f (S := S) (f := 12) (i := t) (j := u) (v := v) (f' := 0) (by decide), su_f (S := S) (f := 12) (i := t) (j := u) (v := v) (f' := 1) (by decide), su_f (S := S) (f := 12) (i := t) (j := u) (v := v) (f' := 2) (by decide), su_f (S := S) (f := 12) (i := t) (j := u) (v := v) (f' := 3) (by decide), su_f (S := S) (f := 12) (i := t) (j := u) (v := v) (f' := 4) (by decide), su_f (S := S) (f := 12) (i := t) (j := u) (v := v) (f' := 5) (by decide), su_f (S := S) (f := 12) (i := t) (j := u) (v := v) (f' := 6) (by decide), su_f (S := S) (f := 12) (i := t) (j := u) (v := v) (f' := 7) (by decide), su_f (S := S) (f := 12) (i := t) (j := u) (v := v) (f' := 8) (by decide), su_f (S := S) (f := 12) (i := t) (j := u) (v := v) (f' := 9) (by decide), su_f (S := S) (f := 12) (i := t) (j := u) (v := v) (f' := 10) (by decide), su_f (S := S) (f := 12) (i := t) (j := u) (v := v) (f' := 11) (by decide), su_f (S := S) (f := 12) (i := t) (j := u) (v := v) (f' := 13) (by decide), su_f (S := S) (f := 12) (i := t) (j := u) (v := v) (f' := 14) (by decide), su_f (S := S) (f := 12) (i := t) (j := u) (v := v) (f' := 15) (by decide), su_f (S := S) (f := 12) (i := t) (j := u) (v := v) (f' := 18) (by decide), su_f (S := S) (f := 12) (i := t) (j := u) (v := v) (f' := 19) (by decide), su_f (S := S) (f := 12) (i := t) (j := u) (v := v) (f' := 20) (by decide), su_f (S := S) (f := 12) (i := t) (j := u) (v := v) (f' := 21) (by decide), su_f (S := S) (f := 12) (i := t) (j := u) (v := v) (f' := 22) (by decide), su_f (S := M) (f := 11) (i := t) (j := u) (v := v) (f' := 1) (by decide), su_f (S := M) (f := 11) (i := t) (j := u) (v := v) (f' := 2) (by decide), su_f (S := M) (f := 11) (i := t) (j := u) (v := v) (f' := 3) (by decide), su_f (S := M) (f := 11) (i := t) (j := u) (v := v) (f' := 4) (by decide), su_f (S := M) (f := 11) (i := t) (j := u) (v := v) (f' := 5) (by decide), su_f (S := M) (f := 11) (i := t) (j := u) (v := v) (f' := 6) (by decide), su_f (S := M) (f := 11) (i := t) (j := u) (v := v) (f' := 7) (by decide), su_f (S := M) (f := 11) (i := t) (j := u) (v := v) (f' := 8) (by decide), su_f (S := M) (f := 11) (i := t) (j := u) (v := v) (f' := 9) (by decide), su_f (S := M) (f := 11) (i := t) (j := u) (v := v) (f' := 10) (by decide), su_f (S := M) (f := 11) (i := t) (j := u) (v := v) (f' := 12) (by decide), su_f (S := M) (f := 11) (i := t) (j := u) (v := v) (f' := 13) (by decide), su_f (S := M) (f := 11) (i := t) (j := u) (v := v) (f' := 14) (by decide), su_f (S := M) (f := 11) (i := t) (j := u) (v := v) (f' := 15) (by decide), su_f (S := M) (f := 11) (i := t) (j := u) (v := v) (f' := 16) (by decide)]
  refine ⟨a, fun x => ⟨(b x).1, (b x).2.1, (b x).2.2.1, (b x).2.2.2.1, (b x).2.2.2.2.1, (b x).2.2.2.2.2.1, (b x).2.2.2.2.2.2.1, fun y => ?_⟩, c, d, e⟩
  by_cases hx : x = t ∧ y = u
  · rw [hx.1, hx.2, su_s, su_s]
  · have q := (b x).2.2.2.2.2.2.2 y
    unfold su
    rw [if_neg (fun z => hx z.2), if_neg (fun z => hx z.2)]
    exact q
theorem RS_s13a (r : RS S M) {t : Nat} {v : Int} : RS (su S 10 t 0 v) (su M 13 0 t v) := by
  obtain ⟨a, b, c, d, e⟩ := r
  unfold RS lF lT lK lG
  simp only [su_f (S := S) (f := 10) (i := t) (j := 0) (v := v) (f' := 0) (by decide), su_f (S := S) (f := 10) (i := t) (j := 0) (v := v) (f' := 1) (by decide), su_f (S := S) (f := 10) (i := t) (j := 0) (v := v) (f' := 2) (by decide), su_f (S := S) (f := 10) (i := t) (j := 0) (v := v) (f' := 3) (by decide), su_f (S := S) (f := 10) (i := t) (j := 0) (v := v) (f' := 4) (by decide), su_f (S := S) (f := 10) (i := t) (j := 0) (v := v) (f' := 5) (by decide), su_f (S := S) (f := 10) (i := t) (j := 0) (v := v) (f' := 6) (by decide), su_f (S := S) (f := 10) (i := t) (j := 0) (v := v) (f' := 7) (by decide), su_f (S := S) (f := 10) (i := t) (j := 0) (v := v) (f' := 8) (by decide), su_f (S := S) (f := 10) (i := t) (j := 0) (v := v) (f' := 9) (by decide), su_f (S := S) (f := 10) (i := t) (j := 0) (v := v) (f' := 11) (by decide), su_f (S := S) (f := 10) (i := t) (j := 0) (v := v) (f' := 12) (by decide), su_f (S := S) (f := 10) (i := t) (j := 0) (v := v) (f' := 13) (by decide), su_f (S := S) (f := 10) (i := t) (j := 0) (v := v) (f' := 14) (by decide), su_f (S := S) (f := 10) (i := t) (j := 0) (v := v) (f' := 15) (by decide), su_f (S := S) (f := 10) (i := t) (j := 0) (v := v) (f' := 18) (by decide), su_f (S := S) (f := 10) (i := t) (j := 0) (v := v) (f' := 19) (by decide), su_f (S := S) (f := 10) (i := t) (j := 0) (v := v) (f' := 20) (by decide), su_f (S := S) (f := 10) (i := t) (j := 0) (v := v) (f' := 21) (by decide), su_f (S := S) (f := 10) (i := t) (j := 0) (v := v) (f' := 22) (by decide), su_f (S := M) (f := 13) (i := 0) (j := t) (v := v) (f' := 1) (by decide), su_f (S := M) (f := 13) (i := 0) (j := t) (v := v) (f' := 2) (by decide), su_f (S := M) (f := 13) (i := 0) (j := t) (v := v) (f' := 3) (by decide), su_f (S := M) (f := 13) (i := 0) (j := t) (v := v) (f' := 4) (by decide), su_f (S := M) (f := 13) (i := 0) (j := t) (v := v) (f' := 5) (by decide), su_f (S := M) (f := 13) (i := 0) (j := t) (v := v) (f' := 6) (by decide), su_f (S := M) (f := 13) (i := 0) (j := t) (v := v) (f' := 7) (by decide), su_f (S := M) (f := 13) (i := 0) (j := t) (v := v) (f' := 8) (by decide), su_f (S := M) (f := 13) (i := 0) (j := t) (v := v) (f' := 9) (by decide), su_f (S := M) (f := 13) (i := 0) (j := t) (v := v) (f' := 10) (by decide), su_f (S := M) (f := 13) (i := 0) (j := t) (v := v) (f' := 11) (by decide), su_f (S := M) (f := 13) (i := 0) (j := t) (v := v) (f' := 12) (by decide), su_f (S := M) (f := 13) (i := 0) (j := t) (v := v) (f' := 14) (by decide), su_f (S := M) (f := 13) (i := 0) (j := t) (v := v) (f' := 15) (by decide), su_f (S := M) (f := 13) (i := 0) (j := t) (v := v) (f' := 16) (by decide)]
  refine ⟨a, fun x => ⟨(b x).1, (b x).2.1, (b x).2.2.1, (b x).2.2.2.1, (b x).2.2.2.2.1, ?_, ?_, (b x).2.2.2.2.2.2.2⟩, c, d, e⟩
  · by_cases hx : x = t
    · rw [hx, su_s, su_s]
    · rw [su_i hx, su_row, fupn hx]; exact (b x).2.2.2.2.2.1
  · rw [su_rown (by decide)]; exact (b x).2.2.2.2.2.2.1
theorem RS_s13b (r : RS S M) {t : Nat} {v : Int} : RS (su S 11 t 0 v) (su M 13 1 t v) := by
  obtain ⟨a, b, c, d, e⟩ := r
  unfold RS lF lT lK lG
  simp only [su_f (S := S) (f := 11) (i := t) (j := 0) (v := v) (f' := 0) (by decide), su_f (S := S) (f := 11) (i := t) (j := 0) (v := v) (f' := 1) (by decide), su_f (S := S) (f := 11) (i := t) (j := 0) (v := v) (f' := 2) (by decide), su_f (S := S) (f := 11) (i := t) (j := 0) (v := v) (f' := 3) (by decide), su_f (S := S) (f := 11) (i := t) (j := 0) (v := v) (f' := 4) (by decide), su_f (S := S) (f := 11) (i := t) (j := 0) (v := v) (f' := 5) (by decide), su_f (S := S) (f := 11) (i := t) (j := 0) (v := v) (f' := 6) (by decide), su_f (S := S) (f := 11) (i := t) (j := 0) (v := v) (f' := 7) (by decide), su_f (S := S) (f := 11) (i := t) (j := 0) (v := v) (f' := 8) (by decide), su_f (S := S) (f := 11) (i := t) (j := 0) (v := v) (f' := 9) (by decide), su_f (S := S) (f := 11) (i := t) (j := 0) (v := v) (f' := 10) (by decide), su_f (S := S) (f := 11) (i := t) (j := 0) (v := v) (f' := 12) (by decide), su_f (S := S) (f := 11) (i := t) (j := 0) (v := v) (f' := 13) (by decide), su_f (S := S) (f := 11) (i := t) (j := 0) (v := v) (f' := 14) (by decide), su_f (S := S) (f := 11) (i := t) (j := 0) (v := v) (f' := 15) (by decide), su_f (S := S) (f := 11) (i := t) (j := 0) (v := v) (f' := 18) (by decide), su_f (S := S) (f := 11) (i := t) (j := 0) (v := v) (f' := 19) (by decide), su_f (S := S) (f := 11) (i := t) (j := 0) (v := v) (f' := 20) (by decide), su_f (S := S) (f := 11) (i := t) (j := 0) (v := v) (f' := 21) (by decide), su_f (S := S) (f := 11) (i := t) (j := 0) (v := v) (f' := 22) (by decide), su_f (S := M) (f := 13) (i := 1) (j := t) (v := v) (f' := 1) (by decide), su_f (S := M) (f := 13) (i := 1) (j := t) (v := v) (f' := 2) (by decide), su_f (S := M) (f := 13) (i := 1) (j := t) (v := v) (f' := 3) (by decide), su_f (S := M) (f := 13) (i := 1) (j := t) (v := v) (f' := 4) (by decide), su_f (S := M) (f := 13) (i := 1) (j := t) (v := v) (f' := 5) (by decide), su_f (S := M) (f := 13) (i := 1) (j := t) (v := v) (f' := 6) (by decide), su_f (S := M) (f := 13) (i := 1) (j := t) (v := v) (f' := 7) (by decide), su_f (S := M) (f := 13) (i := 1) (j := t) (v := v) (f' := 8) (by decide), su_f (S := M) (f := 13) (i := 1) (j := t) (v := v) (f' := 9) (by decide), su_f (S := M) (f := 13) (i := 1) (j := t) (v := v) (f' := 10) (by decide), su_f (S := M) (f := 13) (i := 1) (j := t) (v := v) (f' := 11) (by decide), su_f (S := M) (f := 13) (i := 1) (j := t) (v := v) (f' := 12) (by decide), su_f (S := M) (f := 13) (i := 1) (j := t) (v := v) (f' := 14) (by decide), su_f (S := M) (f := 13) (i := 1) (j := t) (v := v) (f' := 15) (by decide), su_f (S := M) (f := 13) (i := 1) (j := t) (v := v) (f' := 16) (by decide)]
  refine ⟨a, fun x => ⟨(b x).1, (b x).2.1, (b x).2.2.1, (b x).2.2.2.1, (b x).2.2.2.2.1, ?_, ?_, (b x).2.2.2.2.2.2.2⟩, c, d, e⟩
  · rw [su_rown (by decide)]; exact (b x).2.2.2.2.2.1
  · by_cases hx : x = t
    · rw [hx, su_s, su_s]
    · rw [su_i hx, su_row, fupn hx]; exact (b x).2.2.2.2.2.2.1
theorem RS_s16 (r : RS S M)  {v : Int} : RS (su S 15 0 0 v) (su M 16 0 0 v) := by
  obtain ⟨a, b, c, d, e⟩ := r
  unfold RS lF lT lK lG
  simp only [su_f (S := S) (f := 15) (i := 0) (j := 0) (v := v) (f' := 0) (by decide), su_f (S := S) (f := 15) (i := 0) (j := 0) (v := v) (f' := 1) (by decide), su_f (S := S) (f := 15) (i := 0) (j := 0) (v := v) (f' := 2) (by decide), su_f (S := S) (f := 15) (i := 0) (j := 0) (v := v) (f' := 3) (by decide), su_f (S := S) (f := 15) (i := 0) (j := 0) (v := v) (f' := 4) (by decide), su_f (S := S) (f := 15) (i := 0) (j := 0) (v := v) (f' := 5) (by decide), su_f (S := S) (f := 15) (i := 0) (j := 0) (v := v) (f' := 6) (by decide), su_f (S := S) (f := 15) (i := 0) (j := 0) (v := v) (f' := 7) (by decide), su_f (S := S) (f := 15) (i := 0) (j := 0) (v := v) (f' := 8) (by decide), su_f (S := S) (f := 15) (i := 0) (j := 0) (v := v) (f' := 9) (by decide), su_f (S := S) (f := 15) (i := 0) (j := 0) (v := v) (f' := 10) (by decide), su_f (S := S) (f := 15) (i := 0) (j := 0) (v := v) (f' := 11) (by decide), su_f (S := S) (f := 15) (i := 0) (j := 0) (v := v) (f' := 12) (by decide), su_f (S := S) (f := 15) (i := 0) (j := 0) (v := v) (f' := 13) (by decide), su_f (S := S) (f := 15) (i := 0) (j := 0) (v := v) (f' := 14) (by decide), su_f (S := S) (f := 15) (i := 0) (j := 0) (v := v) (f' := 18) (by decide), su_f (S := S) (f := 15) (i := 0) (j := 0) (v := v) (f' := 19) (by decide), su_f (S := S) (f := 15) (i := 0) (j := 0) (v := v) (f' := 20) (by decide), su_f (S := S) (f := 15) (i := 0) (j := 0) (v := v) (f' := 21) (by decide), su_f (S := S) (f := 15) (i := 0) (j := 0) (v := v) (f' := 22) (by decide), su_f (S := M) (f := 16) (i := 0) (j := 0) (v := v) (f' := 1) (by decide), su_f (S := M) (f := 16) (i := 0) (j := 0) (v := v) (f' := 2) (by decide), su_f (S := M) (f := 16) (i := 0) (j := 0) (v := v) (f' := 3) (by decide), su_f (S := M) (f := 16) (i := 0) (j := 0) (v := v) (f' := 4) (by decide), su_f (S := M) (f := 16) (i := 0) (j := 0) (v := v) (f' := 5) (by decide), su_f (S := M) (f := 16) (i := 0) (j := 0) (v := v) (f' := 6) (by decide), su_f (S := M) (f := 16) (i := 0) (j := 0) (v := v) (f' := 7) (by decide), su_f (S := M) (f := 16) (i := 0) (j := 0) (v := v) (f' := 8) (by decide), su_f (S := M) (f := 16) (i := 0) (j := 0) (v := v) (f' := 9) (by decide), su_f (S := M) (f := 16) (i := 0) (j := 0) (v := v) (f' := 10) (by decide), su_f (S := M) (f := 16) (i := 0) (j := 0) (v := v) (f' := 11) (by decide), su_f (S := M) (f := 16) (i := 0) (j := 0) (v := v) (f' := 12) (by decide), su_f (S := M) (f := 16) (i := 0) (j := 0) (v := v) (f' := 13) (by decide), su_f (S := M) (f := 16) (i := 0) (j := 0) (v := v) (f' := 14) (by decide), su_f (S := M) (f := 16) (i := 0) (j := 0) (v := v) (f' := 15) (by decide)]
  refine ⟨a, b, ⟨c.1, c.2.1, ?_⟩, d, e⟩
  rw [su_s, su_s]
theorem m_setWeek (P : MP G N M L z h) (r : RS S M) (w : WF S) {t : Int} (ht : InR t) {x : Int} (hx : InR x) : CT G mX11_setWeek [.ref (cB G + 169), JV t, JV x] h N 0 0 (fun r h' N' => ∃ M', (((0 ≤ t ∧ t < 4) ∧ (1 ≤ x ∧ x ≤ 127)) ∧ MRG G (su S 0 t.toNat 0 x) M L z h N M' h' N' ∧ r = some (JV (S 0 t.toNat 0))) ∨ ((¬ (0 ≤ t ∧ t < 4)) ∧ MRB G S M L z h N 1 M' h' N' ∧ r = some (JV 0)) ∨ (((0 ≤ t ∧ t < 4) ∧ ¬ (1 ≤ x ∧ x ≤ 127)) ∧ MRB G S M L z h N 2 M' h' N' ∧ r = some (JV 0))) := by
  have wT := w.nT
  have wL := w.nL
  have wR := w.rule
  have hN0 := P.nN
  refine CT_of (by decide +kernel) rfl (by simp [Value.category]) (Nat.le_of_ble_eq_true rfl) ?_
  change WP G mX11_setWeek _ noX _ _ h N 0 [some (.ref (cB G + 169)), some (JV t), some (JV x), none] []
  refine wp_aload_n dX11_setWeek_0 rfl ?_
  refine wp_iconst dX11_setWeek_1 ?_
  refine wp_put fkX11_88 dX11_setWeek_2 (P.s0 r) rfl rfl (Nat.le_of_ble_eq_true rfl) ?_
  obtain ⟨h_1, eh_1⟩ : ∃ hh9 : AH, hh9 = hup h (cB G + 169) (eO 11 [JV 0, .ref (cB G + 170), .ref (cB G + 171), .ref (cB G + 172), .ref (cB G + 177), .ref (cB G + 178), JV (S 13 0 0), .ref (cB G + 179), .ref (cB G + 180), .ref (cB G + 181), .ref (cB G + 182), .ref (cB G + 183), .ref (cB G + 208), .ref (cB G + 209), JV (S 14 0 0), .ref (cB G + 212), JV (S 15 0 0), JV (M 17 0 0), .ref (cB G + 253), .ref (cB G + 254), .ref (cB G + 257), .ref (cB G + 260), .ref (cB G + 261), .ref (cB G + 264), JV (M 24 0 0), JV (M 25 0 0), JV (M 26 0 0), .ref (cB G + 265), JV (M 28 0 0), .ref (cB G + 270), .ref (cB G + 273), .ref (cB G + 274), .ref (cB G + 275), .ref (cB G + 276), .long z]) := ⟨_, rfl⟩
  refine WP.heq eh_1 ?_
  obtain ⟨M_1, eM_1⟩ : ∃ ss9 : ST, ss9 = su M 0 0 0 0 := ⟨_, rfl⟩
  have P_1 : MP G (N) M_1 L z h_1 := by rw [eM_1]; exact P.sc (f := 0) (v := 0) (by decide) (eh_1.trans (by simp [cMod, su, r.2.2.1.1, r.2.2.1.2.1, r.2.2.1.2.2]))
  have r_1 : RS S M_1 := by rw [eM_1]; exact r.der (by decide)
  refine wp_iload_n dX11_setWeek_5 rfl ?_
  refine wp_s1p (m_isCalendar (N := N) ht) csX11_191 dX11_setWeek_6 ⟨Nat.le_of_ble_eq_true rfl, Nat.le_of_ble_eq_true rfl⟩ (Nat.le_of_ble_eq_true rfl) ?_
  refine wp_if_ne 18 dX11_setWeek_9 (by decide) (bI_r _) (fun c_9 => ?_) (fun c_9 => ?_)
  · have q_9 := bI_p c_9
    refine wp_iload_n dX11_setWeek_18 rfl ?_
    refine wp_iconst dX11_setWeek_19 ?_
    refine wp_bipush dX11_setWeek_20 rfl ?_
    refine wp_s3p (m_is (N := N) hx ⟨by omega, by omega⟩ ⟨by omega, by omega⟩) csX11_92 dX11_setWeek_22 ⟨Nat.le_of_ble_eq_true rfl, Nat.le_of_ble_eq_true rfl⟩ (Nat.le_of_ble_eq_true rfl) ?_
    refine wp_if_ne 34 dX11_setWeek_25 (by decide) (bI_r _) (fun c_25 => ?_) (fun c_25 => ?_)
    · have q_25 := bI_p c_25
      obtain ⟨t9, rfl⟩ : ∃ t9 : Nat, t = (t9 : Int) := ⟨t.toNat, by omega⟩
      refine wp_aload_n dX11_setWeek_34 rfl ?_
      refine wp_get fkX11_7 dX11_setWeek_35 P_1.c0 rfl ?_
      refine wp_iload_n dX11_setWeek_38 rfl ?_
      refine wp_iaload dX11_setWeek_39 P_1.c1 (by omega) (by omega) (by omega) ?_
      change WP G mX11_setWeek _ _ _ _ h_1 N 40 [some (.ref (cB G + 169)), some (JV (t9 : Int)), some (JV x), none] [JV (M_1 1 t9 0)]
      refine wp_istore_n dX11_setWeek_40 (Nat.le_of_ble_eq_true rfl) rfl ?_
      change WP G mX11_setWeek _ _ _ _ h_1 N 41 [some (.ref (cB G + 169)), some (JV (t9 : Int)), some (JV x), some (JV (M_1 1 t9 0))] []
      refine wp_aload_n dX11_setWeek_41 rfl ?_
      refine wp_get fkX11_7 dX11_setWeek_42 P_1.c0 rfl ?_
      refine wp_iload_n dX11_setWeek_45 rfl ?_
      refine wp_iload_n dX11_setWeek_46 rfl ?_
      refine wp_iastore dX11_setWeek_47 P_1.c1 (by omega) (by omega) (by omega) ?_
      obtain ⟨h_2, eh_2⟩ : ∃ hh9 : AH, hh9 = hup h_1 (cB G + 170) (eI G 4 (fup (fun i => M_1 1 i 0) t9 x)) := ⟨_, rfl⟩
      refine WP.heq eh_2 ?_
      obtain ⟨M_2, eM_2⟩ : ∃ ss9 : ST, ss9 = su M_1 1 t9 0 x := ⟨_, rfl⟩
      have P_2 : MP G (N) M_2 L z h_2 := by rw [eM_2]; exact P_1.u1 (q := (1, 170, 4, false)) (i := t9) (v := x) (by decide) eh_2
      refine wp_aload_n dX11_setWeek_48 rfl ?_
      refine wp_iconst dX11_setWeek_49 ?_
      refine wp_put fkX11_175 dX11_setWeek_50 P_2.c0 rfl rfl (Nat.le_of_ble_eq_true rfl) ?_
      obtain ⟨h_3, eh_3⟩ : ∃ hh9 : AH, hh9 = hup h_2 (cB G + 169) (eO 11 [JV (M_2 0 0 0), .ref (cB G + 170), .ref (cB G + 171), .ref (cB G + 172), .ref (cB G + 177), .ref (cB G + 178), JV (M_2 6 0 0), .ref (cB G + 179), .ref (cB G + 180), .ref (cB G + 181), .ref (cB G + 182), .ref (cB G + 183), .ref (cB G + 208), .ref (cB G + 209), JV (M_2 14 0 0), .ref (cB G + 212), JV (M_2 16 0 0), JV 0, .ref (cB G + 253), .ref (cB G + 254), .ref (cB G + 257), .ref (cB G + 260), .ref (cB G + 261), .ref (cB G + 264), JV (M_2 24 0 0), JV (M_2 25 0 0), JV (M_2 26 0 0), .ref (cB G + 265), JV (M_2 28 0 0), .ref (cB G + 270), .ref (cB G + 273), .ref (cB G + 274), .ref (cB G + 275), .ref (cB G + 276), .long z]) := ⟨_, rfl⟩
      refine WP.heq eh_3 ?_
      obtain ⟨M_3, eM_3⟩ : ∃ ss9 : ST, ss9 = su M_2 17 0 0 0 := ⟨_, rfl⟩
      have P_3 : MP G (N) M_3 L z h_3 := by rw [eM_3]; exact P_2.sc (f := 17) (v := 0) (by decide) (eh_3.trans (by simp [cMod, su]))
      refine wp_iload_n dX11_setWeek_53 rfl ?_
      refine wp_iret dX11_setWeek_54 rfl ?_
      refine ⟨M_3, Or.inl ⟨⟨by omega, by omega⟩, ⟨Nat.le_refl _, by omega, P_3, by rw [eM_3, eM_2]; exact ((RS_s1 r_1).der (by decide)), by rw [eM_3, su_f (by decide), eM_2, su_f (by decide), eM_1]; exact su_s, by rw [eM_3]; exact su_s, fun f hf => by rw [eM_3, su_f ((show ∀ x ∈ mKP, x ≠ 17 by decide) f hf), eM_2, su_f ((show ∀ x ∈ mKP, x ≠ 1 by decide) f hf), eM_1, su_f ((show ∀ x ∈ mKP, x ≠ 0 by decide) f hf)], ((FA.rf.up eh_1 (by omega)).up eh_2 (by omega)).up eh_3 (by omega)⟩, ?_⟩⟩
      rw [eM_1]
      exact congrArg (fun x => some (JV x)) ((congrFun (congrFun (su_f (by decide)) _) _).trans (r.1 _).1)
    · have q_9 := bI_p c_9
      refine wp_aload_n dX11_setWeek_28 rfl ?_
      refine wp_iconst dX11_setWeek_29 ?_
      refine wp_v1 0 0 (m_refuse (N := N) (x := 2) P_1) cvX11_194 dX11_setWeek_30 ⟨Nat.le_of_ble_eq_true rfl, Nat.le_of_ble_eq_true rfl⟩ (Nat.le_of_ble_eq_true rfl) (P_1.s0 r_1) rfl rfl (by omega) (by omega) (fun r9 h8 N8 hq => ?_)
      obtain ⟨hN8, rfl, M8, P8, e8, f8⟩ := hq
      rw [hN8]
      have r8 : RS S M8 := by rw [e8]; exact r_1.der (by decide)
      change WP G mX11_setWeek _ _ _ _ h8 N 33 [some (.ref (cB G + 169)), some (JV t), some (JV x), none] [JV 0]
      refine wp_iret dX11_setWeek_33 rfl ?_
      exact ⟨M8, Or.inr (Or.inr (⟨⟨by omega, fun q => by rw [decide_eq_true (show 1 ≤ x ∧ x ≤ 127 by omega)] at c_25; exact absurd c_25 (by decide)⟩, ⟨Nat.le_refl _, by omega, P8, r8, by rw [e8]; exact su_s, fun f h0 => by rw [e8, su_f h0, eM_1, su_f h0], (FA.rf.up eh_1 (by omega)).tr f8.fa (Nat.le_refl _)⟩, rfl⟩))⟩
  · refine wp_aload_n dX11_setWeek_12 rfl ?_
    refine wp_iconst dX11_setWeek_13 ?_
    refine wp_v1 0 0 (m_refuse (N := N) (x := 1) P_1) cvX11_194 dX11_setWeek_14 ⟨Nat.le_of_ble_eq_true rfl, Nat.le_of_ble_eq_true rfl⟩ (Nat.le_of_ble_eq_true rfl) (P_1.s0 r_1) rfl rfl (by omega) (by omega) (fun r9 h8 N8 hq => ?_)
    obtain ⟨hN8, rfl, M8, P8, e8, f8⟩ := hq
    rw [hN8]
    have r8 : RS S M8 := by rw [e8]; exact r_1.der (by decide)
    change WP G mX11_setWeek _ _ _ _ h8 N 17 [some (.ref (cB G + 169)), some (JV t), some (JV x), none] [JV 0]
    refine wp_iret dX11_setWeek_17 rfl ?_
    exact ⟨M8, Or.inr (Or.inl ⟨(fun q => by rw [decide_eq_true (show 0 ≤ t ∧ t ≤ 3 by omega)] at c_9; exact absurd c_9 (by decide)), ⟨Nat.le_refl _, by omega, P8, r8, by rw [e8]; exact su_s, fun f h0 => by rw [e8, su_f h0, eM_1, su_f h0], (FA.rf.up eh_1 (by omega)).tr f8.fa (Nat.le_refl _)⟩, rfl⟩)⟩

theorem m_setCrew (P : MP G N M L z h) (r : RS S M) (w : WF S) {t : Int} (ht : InR t) {x : Int} (hx : InR x) {y : Int} (hy : InR y) : CT G mX11_setCrew [.ref (cB G + 169), JV t, JV x, JV y] h N 0 0 (fun r h' N' => ∃ M', (((0 ≤ t ∧ t < 4) ∧ (0 ≤ x ∧ x ≤ 9 ∧ 0 ≤ y ∧ y ≤ 99)) ∧ MRG G (su (su S 3 t.toNat 0 x) 4 t.toNat 0 y) M L z h N M' h' N' ∧ r = some (JV (S 3 t.toNat 0))) ∨ ((¬ (0 ≤ t ∧ t < 4)) ∧ MRB G S M L z h N 1 M' h' N' ∧ r = some (JV 0)) ∨ (((0 ≤ t ∧ t < 4) ∧ ¬ (0 ≤ x ∧ x ≤ 9 ∧ 0 ≤ y ∧ y ≤ 99)) ∧ MRB G S M L z h N 2 M' h' N' ∧ r = some (JV 0))) := by
  have wT := w.nT
  have wL := w.nL
  have wR := w.rule
  have hN0 := P.nN
  refine CT_of (by decide +kernel) rfl (by simp [Value.category]) (Nat.le_of_ble_eq_true rfl) ?_
  change WP G mX11_setCrew _ noX _ _ h N 0 [some (.ref (cB G + 169)), some (JV t), some (JV x), some (JV y), none] []
  refine wp_aload_n dX11_setCrew_0 rfl ?_
  refine wp_iconst dX11_setCrew_1 ?_
  refine wp_put fkX11_88 dX11_setCrew_2 (P.s0 r) rfl rfl (Nat.le_of_ble_eq_true rfl) ?_
  obtain ⟨h_1, eh_1⟩ : ∃ hh9 : AH, hh9 = hup h (cB G + 169) (eO 11 [JV 0, .ref (cB G + 170), .ref (cB G + 171), .ref (cB G + 172), .ref (cB G + 177), .ref (cB G + 178), JV (S 13 0 0), .ref (cB G + 179), .ref (cB G + 180), .ref (cB G + 181), .ref (cB G + 182), .ref (cB G + 183), .ref (cB G + 208), .ref (cB G + 209), JV (S 14 0 0), .ref (cB G + 212), JV (S 15 0 0), JV (M 17 0 0), .ref (cB G + 253), .ref (cB G + 254), .ref (cB G + 257), .ref (cB G + 260), .ref (cB G + 261), .ref (cB G + 264), JV (M 24 0 0), JV (M 25 0 0), JV (M 26 0 0), .ref (cB G + 265), JV (M 28 0 0), .ref (cB G + 270), .ref (cB G + 273), .ref (cB G + 274), .ref (cB G + 275), .ref (cB G + 276), .long z]) := ⟨_, rfl⟩
  refine WP.heq eh_1 ?_
  obtain ⟨M_1, eM_1⟩ : ∃ ss9 : ST, ss9 = su M 0 0 0 0 := ⟨_, rfl⟩
  have P_1 : MP G (N) M_1 L z h_1 := by rw [eM_1]; exact P.sc (f := 0) (v := 0) (by decide) (eh_1.trans (by simp [cMod, su, r.2.2.1.1, r.2.2.1.2.1, r.2.2.1.2.2]))
  have r_1 : RS S M_1 := by rw [eM_1]; exact r.der (by decide)
  refine wp_iload_n dX11_setCrew_5 rfl ?_
  refine wp_s1p (m_isCrew (N := N) ht) csX11_198 dX11_setCrew_6 ⟨Nat.le_of_ble_eq_true rfl, Nat.le_of_ble_eq_true rfl⟩ (Nat.le_of_ble_eq_true rfl) ?_
  refine wp_if_ne 18 dX11_setCrew_9 (by decide) (bI_r _) (fun c_9 => ?_) (fun c_9 => ?_)
  · have q_9 := bI_p c_9
    refine wp_iload_n dX11_setCrew_18 rfl ?_
    refine wp_iconst dX11_setCrew_19 ?_
    refine wp_bipush dX11_setCrew_20 rfl ?_
    refine wp_s3p (m_is (N := N) hx ⟨by omega, by omega⟩ ⟨by omega, by omega⟩) csX11_92 dX11_setCrew_22 ⟨Nat.le_of_ble_eq_true rfl, Nat.le_of_ble_eq_true rfl⟩ (Nat.le_of_ble_eq_true rfl) ?_
    refine wp_if_eq 38 dX11_setCrew_25 (by decide) (bI_r _) (fun c_25 => ?_) (fun c_25 => ?_)
    · have q_9 := bI_p c_9
      refine wp_aload_n dX11_setCrew_38 rfl ?_
      refine wp_iconst dX11_setCrew_39 ?_
      refine wp_v1 0 0 (m_refuse (N := N) (x := 2) P_1) cvX11_194 dX11_setCrew_40 ⟨Nat.le_of_ble_eq_true rfl, Nat.le_of_ble_eq_true rfl⟩ (Nat.le_of_ble_eq_true rfl) (P_1.s0 r_1) rfl rfl (by omega) (by omega) (fun r9 h8 N8 hq => ?_)
      obtain ⟨hN8, rfl, M8, P8, e8, f8⟩ := hq
      rw [hN8]
      have r8 : RS S M8 := by rw [e8]; exact r_1.der (by decide)
      change WP G mX11_setCrew _ _ _ _ h8 N 43 [some (.ref (cB G + 169)), some (JV t), some (JV x), some (JV y), none] [JV 0]
      refine wp_iret dX11_setCrew_43 rfl ?_
      exact ⟨M8, Or.inr (Or.inr (⟨⟨by omega, fun q => by rw [decide_eq_true (show 0 ≤ x ∧ x ≤ 9 by omega)] at c_25; exact absurd c_25 (by decide)⟩, ⟨Nat.le_refl _, by omega, P8, r8, by rw [e8]; exact su_s, fun f h0 => by rw [e8, su_f h0, eM_1, su_f h0], (FA.rf.up eh_1 (by omega)).tr f8.fa (Nat.le_refl _)⟩, rfl⟩))⟩
    · have q_25 := bI_p c_25
      refine wp_iload_n dX11_setCrew_28 rfl ?_
      refine wp_iconst dX11_setCrew_29 ?_
      refine wp_bipush dX11_setCrew_30 rfl ?_
      refine wp_s3p (m_is (N := N) hy ⟨by omega, by omega⟩ ⟨by omega, by omega⟩) csX11_92 dX11_setCrew_32 ⟨Nat.le_of_ble_eq_true rfl, Nat.le_of_ble_eq_true rfl⟩ (Nat.le_of_ble_eq_true rfl) ?_
      refine wp_if_ne 44 dX11_setCrew_35 (by decide) (bI_r _) (fun c_35 => ?_) (fun c_35 => ?_)
      · have q_35 := bI_p c_35
        obtain ⟨t9, rfl⟩ : ∃ t9 : Nat, t = (t9 : Int) := ⟨t.toNat, by omega⟩
        refine wp_aload_n dX11_setCrew_44 rfl ?_
        refine wp_get fkX11_21 dX11_setCrew_45 P_1.c0 rfl ?_
        refine wp_iload_n dX11_setCrew_48 rfl ?_
        refine wp_iaload dX11_setCrew_49 P_1.c4 (by omega) (by omega) (by omega) ?_
        change WP G mX11_setCrew _ _ _ _ h_1 N 50 [some (.ref (cB G + 169)), some (JV (t9 : Int)), some (JV x), some (JV y), none] [JV (M_1 4 t9 0)]
        refine wp_istore dX11_setCrew_50 (Nat.le_of_ble_eq_true rfl) rfl ?_
        change WP G mX11_setCrew _ _ _ _ h_1 N 52 [some (.ref (cB G + 169)), some (JV (t9 : Int)), some (JV x), some (JV y), some (JV (M_1 4 t9 0))] []
        refine wp_aload_n dX11_setCrew_52 rfl ?_
        refine wp_get fkX11_21 dX11_setCrew_53 P_1.c0 rfl ?_
        refine wp_iload_n dX11_setCrew_56 rfl ?_
        refine wp_iload_n dX11_setCrew_57 rfl ?_
        refine wp_iastore dX11_setCrew_58 P_1.c4 (by omega) (by omega) (by omega) ?_
        obtain ⟨h_2, eh_2⟩ : ∃ hh9 : AH, hh9 = hup h_1 (cB G + 177) (eI G 4 (fup (fun i => M_1 4 i 0) t9 x)) := ⟨_, rfl⟩
        refine WP.heq eh_2 ?_
        obtain ⟨M_2, eM_2⟩ : ∃ ss9 : ST, ss9 = su M_1 4 t9 0 x := ⟨_, rfl⟩
        have P_2 : MP G (N) M_2 L z h_2 := by rw [eM_2]; exact P_1.u1 (q := (4, 177, 4, false)) (i := t9) (v := x) (by decide) eh_2
        refine wp_aload_n dX11_setCrew_59 rfl ?_
        refine wp_get fkX11_24 dX11_setCrew_60 P_2.c0 rfl ?_
        refine wp_iload_n dX11_setCrew_63 rfl ?_
        refine wp_iload_n dX11_setCrew_64 rfl ?_
        refine wp_iastore dX11_setCrew_65 P_2.c5 (by omega) (by omega) (by omega) ?_
        obtain ⟨h_3, eh_3⟩ : ∃ hh9 : AH, hh9 = hup h_2 (cB G + 178) (eI G 4 (fup (fun i => M_2 5 i 0) t9 y)) := ⟨_, rfl⟩
        refine WP.heq eh_3 ?_
        obtain ⟨M_3, eM_3⟩ : ∃ ss9 : ST, ss9 = su M_2 5 t9 0 y := ⟨_, rfl⟩
        have P_3 : MP G (N) M_3 L z h_3 := by rw [eM_3]; exact P_2.u1 (q := (5, 178, 4, false)) (i := t9) (v := y) (by decide) eh_3
        refine wp_aload_n dX11_setCrew_66 rfl ?_
        refine wp_iconst dX11_setCrew_67 ?_
        refine wp_put fkX11_175 dX11_setCrew_68 P_3.c0 rfl rfl (Nat.le_of_ble_eq_true rfl) ?_
        obtain ⟨h_4, eh_4⟩ : ∃ hh9 : AH, hh9 = hup h_3 (cB G + 169) (eO 11 [JV (M_3 0 0 0), .ref (cB G + 170), .ref (cB G + 171), .ref (cB G + 172), .ref (cB G + 177), .ref (cB G + 178), JV (M_3 6 0 0), .ref (cB G + 179), .ref (cB G + 180), .ref (cB G + 181), .ref (cB G + 182), .ref (cB G + 183), .ref (cB G + 208), .ref (cB G + 209), JV (M_3 14 0 0), .ref (cB G + 212), JV (M_3 16 0 0), JV 0, .ref (cB G + 253), .ref (cB G + 254), .ref (cB G + 257), .ref (cB G + 260), .ref (cB G + 261), .ref (cB G + 264), JV (M_3 24 0 0), JV (M_3 25 0 0), JV (M_3 26 0 0), .ref (cB G + 265), JV (M_3 28 0 0), .ref (cB G + 270), .ref (cB G + 273), .ref (cB G + 274), .ref (cB G + 275), .ref (cB G + 276), .long z]) := ⟨_, rfl⟩
        refine WP.heq eh_4 ?_
        obtain ⟨M_4, eM_4⟩ : ∃ ss9 : ST, ss9 = su M_3 17 0 0 0 := ⟨_, rfl⟩
        have P_4 : MP G (N) M_4 L z h_4 := by rw [eM_4]; exact P_3.sc (f := 17) (v := 0) (by decide) (eh_4.trans (by simp [cMod, su]))
        refine wp_iload dX11_setCrew_71 rfl ?_
        refine wp_iret dX11_setCrew_73 rfl ?_
        refine ⟨M_4, Or.inl ⟨⟨by omega, by omega⟩, ⟨Nat.le_refl _, by omega, P_4, by rw [eM_4, eM_3, eM_2]; exact ((RS_s5 (RS_s4 r_1)).der (by decide)), by rw [eM_4, su_f (by decide), eM_3, su_f (by decide), eM_2, su_f (by decide), eM_1]; exact su_s, by rw [eM_4]; exact su_s, fun f hf => by rw [eM_4, su_f ((show ∀ x ∈ mKP, x ≠ 17 by decide) f hf), eM_3, su_f ((show ∀ x ∈ mKP, x ≠ 5 by decide) f hf), eM_2, su_f ((show ∀ x ∈ mKP, x ≠ 4 by decide) f hf), eM_1, su_f ((show ∀ x ∈ mKP, x ≠ 0 by decide) f hf)], (((FA.rf.up eh_1 (by omega)).up eh_2 (by omega)).up eh_3 (by omega)).up eh_4 (by omega)⟩, ?_⟩⟩
        rw [eM_1]
        exact congrArg (fun x => some (JV x)) ((congrFun (congrFun (su_f (by decide)) _) _).trans (r.1 _).2.2.1)
      · have q_9 := bI_p c_9
        have q_25 := bI_p c_25
        refine wp_aload_n dX11_setCrew_38 rfl ?_
        refine wp_iconst dX11_setCrew_39 ?_
        refine wp_v1 0 0 (m_refuse (N := N) (x := 2) P_1) cvX11_194 dX11_setCrew_40 ⟨Nat.le_of_ble_eq_true rfl, Nat.le_of_ble_eq_true rfl⟩ (Nat.le_of_ble_eq_true rfl) (P_1.s0 r_1) rfl rfl (by omega) (by omega) (fun r9 h8 N8 hq => ?_)
        obtain ⟨hN8, rfl, M8, P8, e8, f8⟩ := hq
        rw [hN8]
        have r8 : RS S M8 := by rw [e8]; exact r_1.der (by decide)
        change WP G mX11_setCrew _ _ _ _ h8 N 43 [some (.ref (cB G + 169)), some (JV t), some (JV x), some (JV y), none] [JV 0]
        refine wp_iret dX11_setCrew_43 rfl ?_
        exact ⟨M8, Or.inr (Or.inr (⟨⟨by omega, fun q => by rw [decide_eq_true (show 0 ≤ y ∧ y ≤ 99 by omega)] at c_35; exact absurd c_35 (by decide)⟩, ⟨Nat.le_refl _, by omega, P8, r8, by rw [e8]; exact su_s, fun f h0 => by rw [e8, su_f h0, eM_1, su_f h0], (FA.rf.up eh_1 (by omega)).tr f8.fa (Nat.le_refl _)⟩, rfl⟩))⟩
  · refine wp_aload_n dX11_setCrew_12 rfl ?_
    refine wp_iconst dX11_setCrew_13 ?_
    refine wp_v1 0 0 (m_refuse (N := N) (x := 1) P_1) cvX11_194 dX11_setCrew_14 ⟨Nat.le_of_ble_eq_true rfl, Nat.le_of_ble_eq_true rfl⟩ (Nat.le_of_ble_eq_true rfl) (P_1.s0 r_1) rfl rfl (by omega) (by omega) (fun r9 h8 N8 hq => ?_)
    obtain ⟨hN8, rfl, M8, P8, e8, f8⟩ := hq
    rw [hN8]
    have r8 : RS S M8 := by rw [e8]; exact r_1.der (by decide)
    change WP G mX11_setCrew _ _ _ _ h8 N 17 [some (.ref (cB G + 169)), some (JV t), some (JV x), some (JV y), none] [JV 0]
    refine wp_iret dX11_setCrew_17 rfl ?_
    exact ⟨M8, Or.inr (Or.inl ⟨(fun q => by rw [decide_eq_true (show 0 ≤ t ∧ t ≤ 3 by omega)] at c_9; exact absurd c_9 (by decide)), ⟨Nat.le_refl _, by omega, P8, r8, by rw [e8]; exact su_s, fun f h0 => by rw [e8, su_f h0, eM_1, su_f h0], (FA.rf.up eh_1 (by omega)).tr f8.fa (Nat.le_refl _)⟩, rfl⟩)⟩

theorem m_setLength (P : MP G N M L z h) (r : RS S M) (w : WF S) {t : Int} (ht : InR t) {x : Int} (hx : InR x) : CT G mX11_setLength [.ref (cB G + 169), JV t, JV x] h N 0 0 (fun r h' N' => ∃ M', (((0 ≤ t ∧ t < S 13 0 0) ∧ (0 ≤ x ∧ x ≤ 20)) ∧ MRG G (su S 5 t.toNat 0 x) M L z h N M' h' N' ∧ r = some (JV (S 5 t.toNat 0))) ∨ ((¬ (0 ≤ t ∧ t < S 13 0 0)) ∧ MRB G S M L z h N 1 M' h' N' ∧ r = some (JV 0)) ∨ (((0 ≤ t ∧ t < S 13 0 0) ∧ ¬ (0 ≤ x ∧ x ≤ 20)) ∧ MRB G S M L z h N 2 M' h' N' ∧ r = some (JV 0))) := by
  have wT := w.nT
  have wL := w.nL
  have wR := w.rule
  have hN0 := P.nN
  refine CT_of (by decide +kernel) rfl (by simp [Value.category]) (Nat.le_of_ble_eq_true rfl) ?_
  change WP G mX11_setLength _ noX _ _ h N 0 [some (.ref (cB G + 169)), some (JV t), some (JV x), none] []
  refine wp_aload_n dX11_setLength_0 rfl ?_
  refine wp_iconst dX11_setLength_1 ?_
  refine wp_put fkX11_88 dX11_setLength_2 (P.s0 r) rfl rfl (Nat.le_of_ble_eq_true rfl) ?_
  obtain ⟨h_1, eh_1⟩ : ∃ hh9 : AH, hh9 = hup h (cB G + 169) (eO 11 [JV 0, .ref (cB G + 170), .ref (cB G + 171), .ref (cB G + 172), .ref (cB G + 177), .ref (cB G + 178), JV (S 13 0 0), .ref (cB G + 179), .ref (cB G + 180), .ref (cB G + 181), .ref (cB G + 182), .ref (cB G + 183), .ref (cB G + 208), .ref (cB G + 209), JV (S 14 0 0), .ref (cB G + 212), JV (S 15 0 0), JV (M 17 0 0), .ref (cB G + 253), .ref (cB G + 254), .ref (cB G + 257), .ref (cB G + 260), .ref (cB G + 261), .ref (cB G + 264), JV (M 24 0 0), JV (M 25 0 0), JV (M 26 0 0), .ref (cB G + 265), JV (M 28 0 0), .ref (cB G + 270), .ref (cB G + 273), .ref (cB G + 274), .ref (cB G + 275), .ref (cB G + 276), .long z]) := ⟨_, rfl⟩
  refine WP.heq eh_1 ?_
  obtain ⟨M_1, eM_1⟩ : ∃ ss9 : ST, ss9 = su M 0 0 0 0 := ⟨_, rfl⟩
  have P_1 : MP G (N) M_1 L z h_1 := by rw [eM_1]; exact P.sc (f := 0) (v := 0) (by decide) (eh_1.trans (by simp [cMod, su, r.2.2.1.1, r.2.2.1.2.1, r.2.2.1.2.2]))
  have r_1 : RS S M_1 := by rw [eM_1]; exact r.der (by decide)
  refine wp_aload_n dX11_setLength_5 rfl ?_
  refine wp_iload_n dX11_setLength_6 rfl ?_
  refine wp_v1p (m_isTask (N := N) P_1 r_1 w ht) cvX11_201 dX11_setLength_7 ⟨Nat.le_of_ble_eq_true rfl, Nat.le_of_ble_eq_true rfl⟩ (Nat.le_of_ble_eq_true rfl) (P_1.s0 r_1) rfl rfl ?_
  refine wp_if_ne 19 dX11_setLength_10 (by decide) (bI_r _) (fun c_10 => ?_) (fun c_10 => ?_)
  · have q_10 := bI_p c_10
    refine wp_iload_n dX11_setLength_19 rfl ?_
    refine wp_iconst dX11_setLength_20 ?_
    refine wp_bipush dX11_setLength_21 rfl ?_
    refine wp_s3p (m_is (N := N) hx ⟨by omega, by omega⟩ ⟨by omega, by omega⟩) csX11_92 dX11_setLength_23 ⟨Nat.le_of_ble_eq_true rfl, Nat.le_of_ble_eq_true rfl⟩ (Nat.le_of_ble_eq_true rfl) ?_
    refine wp_if_ne 35 dX11_setLength_26 (by decide) (bI_r _) (fun c_26 => ?_) (fun c_26 => ?_)
    · have q_26 := bI_p c_26
      obtain ⟨t9, rfl⟩ : ∃ t9 : Nat, t = (t9 : Int) := ⟨t.toNat, by omega⟩
      refine wp_aload_n dX11_setLength_35 rfl ?_
      refine wp_get fkX11_27 dX11_setLength_36 P_1.c0 rfl ?_
      refine wp_iload_n dX11_setLength_39 rfl ?_
      refine wp_iaload dX11_setLength_40 P_1.c7 (by omega) (by omega) (by omega) ?_
      change WP G mX11_setLength _ _ _ _ h_1 N 41 [some (.ref (cB G + 169)), some (JV (t9 : Int)), some (JV x), none] [JV (M_1 7 t9 0)]
      refine wp_istore_n dX11_setLength_41 (Nat.le_of_ble_eq_true rfl) rfl ?_
      change WP G mX11_setLength _ _ _ _ h_1 N 42 [some (.ref (cB G + 169)), some (JV (t9 : Int)), some (JV x), some (JV (M_1 7 t9 0))] []
      refine wp_aload_n dX11_setLength_42 rfl ?_
      refine wp_get fkX11_27 dX11_setLength_43 P_1.c0 rfl ?_
      refine wp_iload_n dX11_setLength_46 rfl ?_
      refine wp_iload_n dX11_setLength_47 rfl ?_
      refine wp_iastore dX11_setLength_48 P_1.c7 (by omega) (by omega) (by omega) ?_
      obtain ⟨h_2, eh_2⟩ : ∃ hh9 : AH, hh9 = hup h_1 (cB G + 179) (eI G 24 (fup (fun i => M_1 7 i 0) t9 x)) := ⟨_, rfl⟩
      refine WP.heq eh_2 ?_
      obtain ⟨M_2, eM_2⟩ : ∃ ss9 : ST, ss9 = su M_1 7 t9 0 x := ⟨_, rfl⟩
      have P_2 : MP G (N) M_2 L z h_2 := by rw [eM_2]; exact P_1.u1 (q := (7, 179, 24, false)) (i := t9) (v := x) (by decide) eh_2
      refine wp_aload_n dX11_setLength_49 rfl ?_
      refine wp_iconst dX11_setLength_50 ?_
      refine wp_put fkX11_175 dX11_setLength_51 P_2.c0 rfl rfl (Nat.le_of_ble_eq_true rfl) ?_
      obtain ⟨h_3, eh_3⟩ : ∃ hh9 : AH, hh9 = hup h_2 (cB G + 169) (eO 11 [JV (M_2 0 0 0), .ref (cB G + 170), .ref (cB G + 171), .ref (cB G + 172), .ref (cB G + 177), .ref (cB G + 178), JV (M_2 6 0 0), .ref (cB G + 179), .ref (cB G + 180), .ref (cB G + 181), .ref (cB G + 182), .ref (cB G + 183), .ref (cB G + 208), .ref (cB G + 209), JV (M_2 14 0 0), .ref (cB G + 212), JV (M_2 16 0 0), JV 0, .ref (cB G + 253), .ref (cB G + 254), .ref (cB G + 257), .ref (cB G + 260), .ref (cB G + 261), .ref (cB G + 264), JV (M_2 24 0 0), JV (M_2 25 0 0), JV (M_2 26 0 0), .ref (cB G + 265), JV (M_2 28 0 0), .ref (cB G + 270), .ref (cB G + 273), .ref (cB G + 274), .ref (cB G + 275), .ref (cB G + 276), .long z]) := ⟨_, rfl⟩
      refine WP.heq eh_3 ?_
      obtain ⟨M_3, eM_3⟩ : ∃ ss9 : ST, ss9 = su M_2 17 0 0 0 := ⟨_, rfl⟩
      have P_3 : MP G (N) M_3 L z h_3 := by rw [eM_3]; exact P_2.sc (f := 17) (v := 0) (by decide) (eh_3.trans (by simp [cMod, su]))
      refine wp_iload_n dX11_setLength_54 rfl ?_
      refine wp_iret dX11_setLength_55 rfl ?_
      refine ⟨M_3, Or.inl ⟨⟨by omega, by omega⟩, ⟨Nat.le_refl _, by omega, P_3, by rw [eM_3, eM_2]; exact ((RS_s7 r_1).der (by decide)), by rw [eM_3, su_f (by decide), eM_2, su_f (by decide), eM_1]; exact su_s, by rw [eM_3]; exact su_s, fun f hf => by rw [eM_3, su_f ((show ∀ x ∈ mKP, x ≠ 17 by decide) f hf), eM_2, su_f ((show ∀ x ∈ mKP, x ≠ 7 by decide) f hf), eM_1, su_f ((show ∀ x ∈ mKP, x ≠ 0 by decide) f hf)], ((FA.rf.up eh_1 (by omega)).up eh_2 (by omega)).up eh_3 (by omega)⟩, ?_⟩⟩
      rw [eM_1]
      exact congrArg (fun x => some (JV x)) ((congrFun (congrFun (su_f (by decide)) _) _).trans (r.2.1 _).1)
    · have q_10 := bI_p c_10
      refine wp_aload_n dX11_setLength_29 rfl ?_
      refine wp_iconst dX11_setLength_30 ?_
      refine wp_v1 0 0 (m_refuse (N := N) (x := 2) P_1) cvX11_194 dX11_setLength_31 ⟨Nat.le_of_ble_eq_true rfl, Nat.le_of_ble_eq_true rfl⟩ (Nat.le_of_ble_eq_true rfl) (P_1.s0 r_1) rfl rfl (by omega) (by omega) (fun r9 h8 N8 hq => ?_)
      obtain ⟨hN8, rfl, M8, P8, e8, f8⟩ := hq
      rw [hN8]
      have r8 : RS S M8 := by rw [e8]; exact r_1.der (by decide)
      change WP G mX11_setLength _ _ _ _ h8 N 34 [some (.ref (cB G + 169)), some (JV t), some (JV x), none] [JV 0]
      refine wp_iret dX11_setLength_34 rfl ?_
      exact ⟨M8, Or.inr (Or.inr (⟨⟨by omega, fun q => by rw [decide_eq_true (show 0 ≤ x ∧ x ≤ 20 by omega)] at c_26; exact absurd c_26 (by decide)⟩, ⟨Nat.le_refl _, by omega, P8, r8, by rw [e8]; exact su_s, fun f h0 => by rw [e8, su_f h0, eM_1, su_f h0], (FA.rf.up eh_1 (by omega)).tr f8.fa (Nat.le_refl _)⟩, rfl⟩))⟩
  · refine wp_aload_n dX11_setLength_13 rfl ?_
    refine wp_iconst dX11_setLength_14 ?_
    refine wp_v1 0 0 (m_refuse (N := N) (x := 1) P_1) cvX11_194 dX11_setLength_15 ⟨Nat.le_of_ble_eq_true rfl, Nat.le_of_ble_eq_true rfl⟩ (Nat.le_of_ble_eq_true rfl) (P_1.s0 r_1) rfl rfl (by omega) (by omega) (fun r9 h8 N8 hq => ?_)
    obtain ⟨hN8, rfl, M8, P8, e8, f8⟩ := hq
    rw [hN8]
    have r8 : RS S M8 := by rw [e8]; exact r_1.der (by decide)
    change WP G mX11_setLength _ _ _ _ h8 N 18 [some (.ref (cB G + 169)), some (JV t), some (JV x), none] [JV 0]
    refine wp_iret dX11_setLength_18 rfl ?_
    exact ⟨M8, Or.inr (Or.inl ⟨(fun q => by rw [decide_eq_true (show 0 ≤ t ∧ t ≤ S 13 0 0 - 1 by omega)] at c_10; exact absurd c_10 (by decide)), ⟨Nat.le_refl _, by omega, P8, r8, by rw [e8]; exact su_s, fun f h0 => by rw [e8, su_f h0, eM_1, su_f h0], (FA.rf.up eh_1 (by omega)).tr f8.fa (Nat.le_refl _)⟩, rfl⟩)⟩

theorem m_setTerms (P : MP G N M L z h) (r : RS S M) (w : WF S) {t : Int} (ht : InR t) {x : Int} (hx : InR x) {y : Int} (hy : InR y) : CT G mX11_setTerms [.ref (cB G + 169), JV t, JV x, JV y] h N 0 0 (fun r h' N' => ∃ M', (((0 ≤ t ∧ t < S 13 0 0) ∧ (0 ≤ x ∧ x ≤ 9 ∧ 0 ≤ y ∧ y ≤ 999)) ∧ MRG G (su (su S 7 t.toNat 0 x) 8 t.toNat 0 y) M L z h N M' h' N' ∧ r = some (JV (S 8 t.toNat 0))) ∨ ((¬ (0 ≤ t ∧ t < S 13 0 0)) ∧ MRB G S M L z h N 1 M' h' N' ∧ r = some (JV 0)) ∨ (((0 ≤ t ∧ t < S 13 0 0) ∧ ¬ (0 ≤ x ∧ x ≤ 9 ∧ 0 ≤ y ∧ y ≤ 999)) ∧ MRB G S M L z h N 2 M' h' N' ∧ r = some (JV 0))) := by
  have wT := w.nT
  have wL := w.nL
  have wR := w.rule
  have hN0 := P.nN
  refine CT_of (by decide +kernel) rfl (by simp [Value.category]) (Nat.le_of_ble_eq_true rfl) ?_
  change WP G mX11_setTerms _ noX _ _ h N 0 [some (.ref (cB G + 169)), some (JV t), some (JV x), some (JV y), none] []
  refine wp_aload_n dX11_setTerms_0 rfl ?_
  refine wp_iconst dX11_setTerms_1 ?_
  refine wp_put fkX11_88 dX11_setTerms_2 (P.s0 r) rfl rfl (Nat.le_of_ble_eq_true rfl) ?_
  obtain ⟨h_1, eh_1⟩ : ∃ hh9 : AH, hh9 = hup h (cB G + 169) (eO 11 [JV 0, .ref (cB G + 170), .ref (cB G + 171), .ref (cB G + 172), .ref (cB G + 177), .ref (cB G + 178), JV (S 13 0 0), .ref (cB G + 179), .ref (cB G + 180), .ref (cB G + 181), .ref (cB G + 182), .ref (cB G + 183), .ref (cB G + 208), .ref (cB G + 209), JV (S 14 0 0), .ref (cB G + 212), JV (S 15 0 0), JV (M 17 0 0), .ref (cB G + 253), .ref (cB G + 254), .ref (cB G + 257), .ref (cB G + 260), .ref (cB G + 261), .ref (cB G + 264), JV (M 24 0 0), JV (M 25 0 0), JV (M 26 0 0), .ref (cB G + 265), JV (M 28 0 0), .ref (cB G + 270), .ref (cB G + 273), .ref (cB G + 274), .ref (cB G + 275), .ref (cB G + 276), .long z]) := ⟨_, rfl⟩
  refine WP.heq eh_1 ?_
  obtain ⟨M_1, eM_1⟩ : ∃ ss9 : ST, ss9 = su M 0 0 0 0 := ⟨_, rfl⟩
  have P_1 : MP G (N) M_1 L z h_1 := by rw [eM_1]; exact P.sc (f := 0) (v := 0) (by decide) (eh_1.trans (by simp [cMod, su, r.2.2.1.1, r.2.2.1.2.1, r.2.2.1.2.2]))
  have r_1 : RS S M_1 := by rw [eM_1]; exact r.der (by decide)
  refine wp_aload_n dX11_setTerms_5 rfl ?_
  refine wp_iload_n dX11_setTerms_6 rfl ?_
  refine wp_v1p (m_isTask (N := N) P_1 r_1 w ht) cvX11_201 dX11_setTerms_7 ⟨Nat.le_of_ble_eq_true rfl, Nat.le_of_ble_eq_true rfl⟩ (Nat.le_of_ble_eq_true rfl) (P_1.s0 r_1) rfl rfl ?_
  refine wp_if_ne 19 dX11_setTerms_10 (by decide) (bI_r _) (fun c_10 => ?_) (fun c_10 => ?_)
  · have q_10 := bI_p c_10
    refine wp_iload_n dX11_setTerms_19 rfl ?_
    refine wp_iconst dX11_setTerms_20 ?_
    refine wp_bipush dX11_setTerms_21 rfl ?_
    refine wp_s3p (m_is (N := N) hx ⟨by omega, by omega⟩ ⟨by omega, by omega⟩) csX11_92 dX11_setTerms_23 ⟨Nat.le_of_ble_eq_true rfl, Nat.le_of_ble_eq_true rfl⟩ (Nat.le_of_ble_eq_true rfl) ?_
    refine wp_if_eq 40 dX11_setTerms_26 (by decide) (bI_r _) (fun c_26 => ?_) (fun c_26 => ?_)
    · have q_10 := bI_p c_10
      refine wp_aload_n dX11_setTerms_40 rfl ?_
      refine wp_iconst dX11_setTerms_41 ?_
      refine wp_v1 0 0 (m_refuse (N := N) (x := 2) P_1) cvX11_194 dX11_setTerms_42 ⟨Nat.le_of_ble_eq_true rfl, Nat.le_of_ble_eq_true rfl⟩ (Nat.le_of_ble_eq_true rfl) (P_1.s0 r_1) rfl rfl (by omega) (by omega) (fun r9 h8 N8 hq => ?_)
      obtain ⟨hN8, rfl, M8, P8, e8, f8⟩ := hq
      rw [hN8]
      have r8 : RS S M8 := by rw [e8]; exact r_1.der (by decide)
      change WP G mX11_setTerms _ _ _ _ h8 N 45 [some (.ref (cB G + 169)), some (JV t), some (JV x), some (JV y), none] [JV 0]
      refine wp_iret dX11_setTerms_45 rfl ?_
      exact ⟨M8, Or.inr (Or.inr (⟨⟨by omega, fun q => by rw [decide_eq_true (show 0 ≤ x ∧ x ≤ 9 by omega)] at c_26; exact absurd c_26 (by decide)⟩, ⟨Nat.le_refl _, by omega, P8, r8, by rw [e8]; exact su_s, fun f h0 => by rw [e8, su_f h0, eM_1, su_f h0], (FA.rf.up eh_1 (by omega)).tr f8.fa (Nat.le_refl _)⟩, rfl⟩))⟩
    · have q_26 := bI_p c_26
      refine wp_iload_n dX11_setTerms_29 rfl ?_
      refine wp_iconst dX11_setTerms_30 ?_
      refine wp_sipush dX11_setTerms_31 rfl ?_
      refine wp_s3p (m_is (N := N) hy ⟨by omega, by omega⟩ ⟨by omega, by omega⟩) csX11_92 dX11_setTerms_34 ⟨Nat.le_of_ble_eq_true rfl, Nat.le_of_ble_eq_true rfl⟩ (Nat.le_of_ble_eq_true rfl) ?_
      refine wp_if_ne 46 dX11_setTerms_37 (by decide) (bI_r _) (fun c_37 => ?_) (fun c_37 => ?_)
      · have q_37 := bI_p c_37
        obtain ⟨t9, rfl⟩ : ∃ t9 : Nat, t = (t9 : Int) := ⟨t.toNat, by omega⟩
        refine wp_aload_n dX11_setTerms_46 rfl ?_
        refine wp_get fkX11_36 dX11_setTerms_47 P_1.c0 rfl ?_
        refine wp_iload_n dX11_setTerms_50 rfl ?_
        refine wp_iaload dX11_setTerms_51 P_1.c10 (by omega) (by omega) (by omega) ?_
        change WP G mX11_setTerms _ _ _ _ h_1 N 52 [some (.ref (cB G + 169)), some (JV (t9 : Int)), some (JV x), some (JV y), none] [JV (M_1 10 t9 0)]
        refine wp_istore dX11_setTerms_52 (Nat.le_of_ble_eq_true rfl) rfl ?_
        change WP G mX11_setTerms _ _ _ _ h_1 N 54 [some (.ref (cB G + 169)), some (JV (t9 : Int)), some (JV x), some (JV y), some (JV (M_1 10 t9 0))] []
        refine wp_aload_n dX11_setTerms_54 rfl ?_
        refine wp_get fkX11_33 dX11_setTerms_55 P_1.c0 rfl ?_
        refine wp_iload_n dX11_setTerms_58 rfl ?_
        refine wp_iload_n dX11_setTerms_59 rfl ?_
        refine wp_iastore dX11_setTerms_60 P_1.c9 (by omega) (by omega) (by omega) ?_
        obtain ⟨h_2, eh_2⟩ : ∃ hh9 : AH, hh9 = hup h_1 (cB G + 181) (eI G 24 (fup (fun i => M_1 9 i 0) t9 x)) := ⟨_, rfl⟩
        refine WP.heq eh_2 ?_
        obtain ⟨M_2, eM_2⟩ : ∃ ss9 : ST, ss9 = su M_1 9 t9 0 x := ⟨_, rfl⟩
        have P_2 : MP G (N) M_2 L z h_2 := by rw [eM_2]; exact P_1.u1 (q := (9, 181, 24, false)) (i := t9) (v := x) (by decide) eh_2
        refine wp_aload_n dX11_setTerms_61 rfl ?_
        refine wp_get fkX11_36 dX11_setTerms_62 P_2.c0 rfl ?_
        refine wp_iload_n dX11_setTerms_65 rfl ?_
        refine wp_iload_n dX11_setTerms_66 rfl ?_
        refine wp_iastore dX11_setTerms_67 P_2.c10 (by omega) (by omega) (by omega) ?_
        obtain ⟨h_3, eh_3⟩ : ∃ hh9 : AH, hh9 = hup h_2 (cB G + 182) (eI G 24 (fup (fun i => M_2 10 i 0) t9 y)) := ⟨_, rfl⟩
        refine WP.heq eh_3 ?_
        obtain ⟨M_3, eM_3⟩ : ∃ ss9 : ST, ss9 = su M_2 10 t9 0 y := ⟨_, rfl⟩
        have P_3 : MP G (N) M_3 L z h_3 := by rw [eM_3]; exact P_2.u1 (q := (10, 182, 24, false)) (i := t9) (v := y) (by decide) eh_3
        refine wp_aload_n dX11_setTerms_68 rfl ?_
        refine wp_iconst dX11_setTerms_69 ?_
        refine wp_put fkX11_175 dX11_setTerms_70 P_3.c0 rfl rfl (Nat.le_of_ble_eq_true rfl) ?_
        obtain ⟨h_4, eh_4⟩ : ∃ hh9 : AH, hh9 = hup h_3 (cB G + 169) (eO 11 [JV (M_3 0 0 0), .ref (cB G + 170), .ref (cB G + 171), .ref (cB G + 172), .ref (cB G + 177), .ref (cB G + 178), JV (M_3 6 0 0), .ref (cB G + 179), .ref (cB G + 180), .ref (cB G + 181), .ref (cB G + 182), .ref (cB G + 183), .ref (cB G + 208), .ref (cB G + 209), JV (M_3 14 0 0), .ref (cB G + 212), JV (M_3 16 0 0), JV 0, .ref (cB G + 253), .ref (cB G + 254), .ref (cB G + 257), .ref (cB G + 260), .ref (cB G + 261), .ref (cB G + 264), JV (M_3 24 0 0), JV (M_3 25 0 0), JV (M_3 26 0 0), .ref (cB G + 265), JV (M_3 28 0 0), .ref (cB G + 270), .ref (cB G + 273), .ref (cB G + 274), .ref (cB G + 275), .ref (cB G + 276), .long z]) := ⟨_, rfl⟩
        refine WP.heq eh_4 ?_
        obtain ⟨M_4, eM_4⟩ : ∃ ss9 : ST, ss9 = su M_3 17 0 0 0 := ⟨_, rfl⟩
        have P_4 : MP G (N) M_4 L z h_4 := by rw [eM_4]; exact P_3.sc (f := 17) (v := 0) (by decide) (eh_4.trans (by simp [cMod, su]))
        refine wp_iload dX11_setTerms_73 rfl ?_
        refine wp_iret dX11_setTerms_75 rfl ?_
        refine ⟨M_4, Or.inl ⟨⟨by omega, by omega⟩, ⟨Nat.le_refl _, by omega, P_4, by rw [eM_4, eM_3, eM_2]; exact ((RS_s10 (RS_s9 r_1)).der (by decide)), by rw [eM_4, su_f (by decide), eM_3, su_f (by decide), eM_2, su_f (by decide), eM_1]; exact su_s, by rw [eM_4]; exact su_s, fun f hf => by rw [eM_4, su_f ((show ∀ x ∈ mKP, x ≠ 17 by decide) f hf), eM_3, su_f ((show ∀ x ∈ mKP, x ≠ 10 by decide) f hf), eM_2, su_f ((show ∀ x ∈ mKP, x ≠ 9 by decide) f hf), eM_1, su_f ((show ∀ x ∈ mKP, x ≠ 0 by decide) f hf)], (((FA.rf.up eh_1 (by omega)).up eh_2 (by omega)).up eh_3 (by omega)).up eh_4 (by omega)⟩, ?_⟩⟩
        rw [eM_1]
        exact congrArg (fun x => some (JV x)) ((congrFun (congrFun (su_f (by decide)) _) _).trans (r.2.1 _).2.2.2.1)
      · have q_10 := bI_p c_10
        have q_26 := bI_p c_26
        refine wp_aload_n dX11_setTerms_40 rfl ?_
        refine wp_iconst dX11_setTerms_41 ?_
        refine wp_v1 0 0 (m_refuse (N := N) (x := 2) P_1) cvX11_194 dX11_setTerms_42 ⟨Nat.le_of_ble_eq_true rfl, Nat.le_of_ble_eq_true rfl⟩ (Nat.le_of_ble_eq_true rfl) (P_1.s0 r_1) rfl rfl (by omega) (by omega) (fun r9 h8 N8 hq => ?_)
        obtain ⟨hN8, rfl, M8, P8, e8, f8⟩ := hq
        rw [hN8]
        have r8 : RS S M8 := by rw [e8]; exact r_1.der (by decide)
        change WP G mX11_setTerms _ _ _ _ h8 N 45 [some (.ref (cB G + 169)), some (JV t), some (JV x), some (JV y), none] [JV 0]
        refine wp_iret dX11_setTerms_45 rfl ?_
        exact ⟨M8, Or.inr (Or.inr (⟨⟨by omega, fun q => by rw [decide_eq_true (show 0 ≤ y ∧ y ≤ 999 by omega)] at c_37; exact absurd c_37 (by decide)⟩, ⟨Nat.le_refl _, by omega, P8, r8, by rw [e8]; exact su_s, fun f h0 => by rw [e8, su_f h0, eM_1, su_f h0], (FA.rf.up eh_1 (by omega)).tr f8.fa (Nat.le_refl _)⟩, rfl⟩))⟩
  · refine wp_aload_n dX11_setTerms_13 rfl ?_
    refine wp_iconst dX11_setTerms_14 ?_
    refine wp_v1 0 0 (m_refuse (N := N) (x := 1) P_1) cvX11_194 dX11_setTerms_15 ⟨Nat.le_of_ble_eq_true rfl, Nat.le_of_ble_eq_true rfl⟩ (Nat.le_of_ble_eq_true rfl) (P_1.s0 r_1) rfl rfl (by omega) (by omega) (fun r9 h8 N8 hq => ?_)
    obtain ⟨hN8, rfl, M8, P8, e8, f8⟩ := hq
    rw [hN8]
    have r8 : RS S M8 := by rw [e8]; exact r_1.der (by decide)
    change WP G mX11_setTerms _ _ _ _ h8 N 18 [some (.ref (cB G + 169)), some (JV t), some (JV x), some (JV y), none] [JV 0]
    refine wp_iret dX11_setTerms_18 rfl ?_
    exact ⟨M8, Or.inr (Or.inl ⟨(fun q => by rw [decide_eq_true (show 0 ≤ t ∧ t ≤ S 13 0 0 - 1 by omega)] at c_10; exact absurd c_10 (by decide)), ⟨Nat.le_refl _, by omega, P8, r8, by rw [e8]; exact su_s, fun f h0 => by rw [e8, su_f h0, eM_1, su_f h0], (FA.rf.up eh_1 (by omega)).tr f8.fa (Nat.le_refl _)⟩, rfl⟩)⟩

theorem m_setNeed (P : MP G N M L z h) (r : RS S M) (w : WF S) {t : Int} (ht : InR t) {c : Int} (hc : InR c) {x : Int} (hx : InR x) : CT G mX11_setNeed [.ref (cB G + 169), JV t, JV c, JV x] h N 0 0 (fun r h' N' => ∃ M', (((0 ≤ t ∧ t < S 13 0 0 ∧ 0 ≤ c ∧ c < 4) ∧ (0 ≤ x ∧ x ≤ 9)) ∧ MRG G (su S 12 t.toNat c.toNat x) M L z h N M' h' N' ∧ r = some (JV (S 12 t.toNat c.toNat))) ∨ ((¬ (0 ≤ t ∧ t < S 13 0 0 ∧ 0 ≤ c ∧ c < 4)) ∧ MRB G S M L z h N 1 M' h' N' ∧ r = some (JV 0)) ∨ (((0 ≤ t ∧ t < S 13 0 0 ∧ 0 ≤ c ∧ c < 4) ∧ ¬ (0 ≤ x ∧ x ≤ 9)) ∧ MRB G S M L z h N 2 M' h' N' ∧ r = some (JV 0))) := by
  have wT := w.nT
  have wL := w.nL
  have wR := w.rule
  have hN0 := P.nN
  refine CT_of (by decide +kernel) rfl (by simp [Value.category]) (Nat.le_of_ble_eq_true rfl) ?_
  change WP G mX11_setNeed _ noX _ _ h N 0 [some (.ref (cB G + 169)), some (JV t), some (JV c), some (JV x), none] []
  refine wp_aload_n dX11_setNeed_0 rfl ?_
  refine wp_iconst dX11_setNeed_1 ?_
  refine wp_put fkX11_88 dX11_setNeed_2 (P.s0 r) rfl rfl (Nat.le_of_ble_eq_true rfl) ?_
  obtain ⟨h_1, eh_1⟩ : ∃ hh9 : AH, hh9 = hup h (cB G + 169) (eO 11 [JV 0, .ref (cB G + 170), .ref (cB G + 171), .ref (cB G + 172), .ref (cB G + 177), .ref (cB G + 178), JV (S 13 0 0), .ref (cB G + 179), .ref (cB G + 180), .ref (cB G + 181), .ref (cB G + 182), .ref (cB G + 183), .ref (cB G + 208), .ref (cB G + 209), JV (S 14 0 0), .ref (cB G + 212), JV (S 15 0 0), JV (M 17 0 0), .ref (cB G + 253), .ref (cB G + 254), .ref (cB G + 257), .ref (cB G + 260), .ref (cB G + 261), .ref (cB G + 264), JV (M 24 0 0), JV (M 25 0 0), JV (M 26 0 0), .ref (cB G + 265), JV (M 28 0 0), .ref (cB G + 270), .ref (cB G + 273), .ref (cB G + 274), .ref (cB G + 275), .ref (cB G + 276), .long z]) := ⟨_, rfl⟩
  refine WP.heq eh_1 ?_
  obtain ⟨M_1, eM_1⟩ : ∃ ss9 : ST, ss9 = su M 0 0 0 0 := ⟨_, rfl⟩
  have P_1 : MP G (N) M_1 L z h_1 := by rw [eM_1]; exact P.sc (f := 0) (v := 0) (by decide) (eh_1.trans (by simp [cMod, su, r.2.2.1.1, r.2.2.1.2.1, r.2.2.1.2.2]))
  have r_1 : RS S M_1 := by rw [eM_1]; exact r.der (by decide)
  refine wp_aload_n dX11_setNeed_5 rfl ?_
  refine wp_iload_n dX11_setNeed_6 rfl ?_
  refine wp_v1p (m_isTask (N := N) P_1 r_1 w ht) cvX11_201 dX11_setNeed_7 ⟨Nat.le_of_ble_eq_true rfl, Nat.le_of_ble_eq_true rfl⟩ (Nat.le_of_ble_eq_true rfl) (P_1.s0 r_1) rfl rfl ?_
  refine wp_if_eq 20 dX11_setNeed_10 (by decide) (bI_r _) (fun c_10 => ?_) (fun c_10 => ?_)
  · refine wp_aload_n dX11_setNeed_20 rfl ?_
    refine wp_iconst dX11_setNeed_21 ?_
    refine wp_v1 0 0 (m_refuse (N := N) (x := 1) P_1) cvX11_194 dX11_setNeed_22 ⟨Nat.le_of_ble_eq_true rfl, Nat.le_of_ble_eq_true rfl⟩ (Nat.le_of_ble_eq_true rfl) (P_1.s0 r_1) rfl rfl (by omega) (by omega) (fun r9 h8 N8 hq => ?_)
    obtain ⟨hN8, rfl, M8, P8, e8, f8⟩ := hq
    rw [hN8]
    have r8 : RS S M8 := by rw [e8]; exact r_1.der (by decide)
    change WP G mX11_setNeed _ _ _ _ h8 N 25 [some (.ref (cB G + 169)), some (JV t), some (JV c), some (JV x), none] [JV 0]
    refine wp_iret dX11_setNeed_25 rfl ?_
    exact ⟨M8, Or.inr (Or.inl ⟨(fun q => by rw [decide_eq_true (show 0 ≤ t ∧ t ≤ S 13 0 0 - 1 by omega)] at c_10; exact absurd c_10 (by decide)), ⟨Nat.le_refl _, by omega, P8, r8, by rw [e8]; exact su_s, fun f h0 => by rw [e8, su_f h0, eM_1, su_f h0], (FA.rf.up eh_1 (by omega)).tr f8.fa (Nat.le_refl _)⟩, rfl⟩)⟩
  · have q_10 := bI_p c_10
    refine wp_iload_n dX11_setNeed_13 rfl ?_
    refine wp_s1p (m_isCrew (N := N) hc) csX11_198 dX11_setNeed_14 ⟨Nat.le_of_ble_eq_true rfl, Nat.le_of_ble_eq_true rfl⟩ (Nat.le_of_ble_eq_true rfl) ?_
    refine wp_if_ne 26 dX11_setNeed_17 (by decide) (bI_r _) (fun c_17 => ?_) (fun c_17 => ?_)
    · have q_17 := bI_p c_17
      refine wp_iload_n dX11_setNeed_26 rfl ?_
      refine wp_iconst dX11_setNeed_27 ?_
      refine wp_bipush dX11_setNeed_28 rfl ?_
      refine wp_s3p (m_is (N := N) hx ⟨by omega, by omega⟩ ⟨by omega, by omega⟩) csX11_92 dX11_setNeed_30 ⟨Nat.le_of_ble_eq_true rfl, Nat.le_of_ble_eq_true rfl⟩ (Nat.le_of_ble_eq_true rfl) ?_
      refine wp_if_ne 42 dX11_setNeed_33 (by decide) (bI_r _) (fun c_33 => ?_) (fun c_33 => ?_)
      · have q_33 := bI_p c_33
        obtain ⟨t9, rfl⟩ : ∃ t9 : Nat, t = (t9 : Int) := ⟨t.toNat, by omega⟩
        obtain ⟨c9, rfl⟩ : ∃ c9 : Nat, c = (c9 : Int) := ⟨c.toNat, by omega⟩
        refine wp_aload_n dX11_setNeed_42 rfl ?_
        refine wp_get fkX11_39 dX11_setNeed_43 P_1.c0 rfl ?_
        refine wp_iload_n dX11_setNeed_46 rfl ?_
        refine wp_aaload dX11_setNeed_47 P_1.q11 rfl rfl (by omega) (by omega) (by omega) (if_pos (by omega)) ?_
        change WP G mX11_setNeed _ _ _ _ h_1 N 48 [some (.ref (cB G + 169)), some (JV (t9 : Int)), some (JV (c9 : Int)), some (JV x), none] [.ref (cB G + 184 + t9)]
        refine wp_iload_n dX11_setNeed_48 rfl ?_
        refine wp_iaload dX11_setNeed_49 (P_1.r11 (i := t9) (by omega)) (by omega) (by omega) (by omega) ?_
        change WP G mX11_setNeed _ _ _ _ h_1 N 50 [some (.ref (cB G + 169)), some (JV (t9 : Int)), some (JV (c9 : Int)), some (JV x), none] [JV (M_1 11 t9 c9)]
        refine wp_istore dX11_setNeed_50 (Nat.le_of_ble_eq_true rfl) rfl ?_
        change WP G mX11_setNeed _ _ _ _ h_1 N 52 [some (.ref (cB G + 169)), some (JV (t9 : Int)), some (JV (c9 : Int)), some (JV x), some (JV (M_1 11 t9 c9))] []
        refine wp_aload_n dX11_setNeed_52 rfl ?_
        refine wp_get fkX11_39 dX11_setNeed_53 P_1.c0 rfl ?_
        refine wp_iload_n dX11_setNeed_56 rfl ?_
        refine wp_aaload dX11_setNeed_57 P_1.q11 rfl rfl (by omega) (by omega) (by omega) (if_pos (by omega)) ?_
        change WP G mX11_setNeed _ _ _ _ h_1 N 58 [some (.ref (cB G + 169)), some (JV (t9 : Int)), some (JV (c9 : Int)), some (JV x), some (JV (M_1 11 t9 c9))] [.ref (cB G + 184 + t9)]
        refine wp_iload_n dX11_setNeed_58 rfl ?_
        refine wp_iload_n dX11_setNeed_59 rfl ?_
        refine wp_iastore dX11_setNeed_60 (P_1.r11 (i := t9) (by omega)) (by omega) (by omega) (by omega) ?_
        obtain ⟨h_2, eh_2⟩ : ∃ hh9 : AH, hh9 = hup h_1 (cB G + 184 + t9) (eI G 4 (fup (fun j9 => M_1 11 t9 j9) c9 x)) := ⟨_, rfl⟩
        refine WP.heq eh_2 ?_
        obtain ⟨M_2, eM_2⟩ : ∃ ss9 : ST, ss9 = su M_1 11 t9 c9 x := ⟨_, rfl⟩
        have P_2 : MP G (N) M_2 L z h_2 := by rw [eM_2]; exact P_1.u2 (q := (11, 183, 24, 4)) (i := t9) (j := c9) (v := x) (by decide) (show t9 < 24 by omega) eh_2
        refine wp_aload_n dX11_setNeed_61 rfl ?_
        refine wp_iconst dX11_setNeed_62 ?_
        refine wp_put fkX11_175 dX11_setNeed_63 P_2.c0 rfl rfl (Nat.le_of_ble_eq_true rfl) ?_
        obtain ⟨h_3, eh_3⟩ : ∃ hh9 : AH, hh9 = hup h_2 (cB G + 169) (eO 11 [JV (M_2 0 0 0), .ref (cB G + 170), .ref (cB G + 171), .ref (cB G + 172), .ref (cB G + 177), .ref (cB G + 178), JV (M_2 6 0 0), .ref (cB G + 179), .ref (cB G + 180), .ref (cB G + 181), .ref (cB G + 182), .ref (cB G + 183), .ref (cB G + 208), .ref (cB G + 209), JV (M_2 14 0 0), .ref (cB G + 212), JV (M_2 16 0 0), JV 0, .ref (cB G + 253), .ref (cB G + 254), .ref (cB G + 257), .ref (cB G + 260), .ref (cB G + 261), .ref (cB G + 264), JV (M_2 24 0 0), JV (M_2 25 0 0), JV (M_2 26 0 0), .ref (cB G + 265), JV (M_2 28 0 0), .ref (cB G + 270), .ref (cB G + 273), .ref (cB G + 274), .ref (cB G + 275), .ref (cB G + 276), .long z]) := ⟨_, rfl⟩
        refine WP.heq eh_3 ?_
        obtain ⟨M_3, eM_3⟩ : ∃ ss9 : ST, ss9 = su M_2 17 0 0 0 := ⟨_, rfl⟩
        have P_3 : MP G (N) M_3 L z h_3 := by rw [eM_3]; exact P_2.sc (f := 17) (v := 0) (by decide) (eh_3.trans (by simp [cMod, su]))
        refine wp_iload dX11_setNeed_66 rfl ?_
        refine wp_iret dX11_setNeed_68 rfl ?_
        refine ⟨M_3, Or.inl ⟨⟨by omega, by omega⟩, ⟨Nat.le_refl _, by omega, P_3, by rw [eM_3, eM_2]; exact ((RS_s11 r_1).der (by decide)), by rw [eM_3, su_f (by decide), eM_2, su_f (by decide), eM_1]; exact su_s, by rw [eM_3]; exact su_s, fun f hf => by rw [eM_3, su_f ((show ∀ x ∈ mKP, x ≠ 17 by decide) f hf), eM_2, su_f ((show ∀ x ∈ mKP, x ≠ 11 by decide) f hf), eM_1, su_f ((show ∀ x ∈ mKP, x ≠ 0 by decide) f hf)], ((FA.rf.up eh_1 (by omega)).up eh_2 (by omega)).up eh_3 (by omega)⟩, ?_⟩⟩
        rw [eM_1]
        exact congrArg (fun x => some (JV x)) ((congrFun (congrFun (su_f (by decide)) _) _).trans ((r.2.1 _).2.2.2.2.2.2.2 _))
      · have q_10 := bI_p c_10
        have q_17 := bI_p c_17
        refine wp_aload_n dX11_setNeed_36 rfl ?_
        refine wp_iconst dX11_setNeed_37 ?_
        refine wp_v1 0 0 (m_refuse (N := N) (x := 2) P_1) cvX11_194 dX11_setNeed_38 ⟨Nat.le_of_ble_eq_true rfl, Nat.le_of_ble_eq_true rfl⟩ (Nat.le_of_ble_eq_true rfl) (P_1.s0 r_1) rfl rfl (by omega) (by omega) (fun r9 h8 N8 hq => ?_)
        obtain ⟨hN8, rfl, M8, P8, e8, f8⟩ := hq
        rw [hN8]
        have r8 : RS S M8 := by rw [e8]; exact r_1.der (by decide)
        change WP G mX11_setNeed _ _ _ _ h8 N 41 [some (.ref (cB G + 169)), some (JV t), some (JV c), some (JV x), none] [JV 0]
        refine wp_iret dX11_setNeed_41 rfl ?_
        exact ⟨M8, Or.inr (Or.inr (⟨⟨by omega, fun q => by rw [decide_eq_true (show 0 ≤ x ∧ x ≤ 9 by omega)] at c_33; exact absurd c_33 (by decide)⟩, ⟨Nat.le_refl _, by omega, P8, r8, by rw [e8]; exact su_s, fun f h0 => by rw [e8, su_f h0, eM_1, su_f h0], (FA.rf.up eh_1 (by omega)).tr f8.fa (Nat.le_refl _)⟩, rfl⟩))⟩
    · have q_10 := bI_p c_10
      refine wp_aload_n dX11_setNeed_20 rfl ?_
      refine wp_iconst dX11_setNeed_21 ?_
      refine wp_v1 0 0 (m_refuse (N := N) (x := 1) P_1) cvX11_194 dX11_setNeed_22 ⟨Nat.le_of_ble_eq_true rfl, Nat.le_of_ble_eq_true rfl⟩ (Nat.le_of_ble_eq_true rfl) (P_1.s0 r_1) rfl rfl (by omega) (by omega) (fun r9 h8 N8 hq => ?_)
      obtain ⟨hN8, rfl, M8, P8, e8, f8⟩ := hq
      rw [hN8]
      have r8 : RS S M8 := by rw [e8]; exact r_1.der (by decide)
      change WP G mX11_setNeed _ _ _ _ h8 N 25 [some (.ref (cB G + 169)), some (JV t), some (JV c), some (JV x), none] [JV 0]
      refine wp_iret dX11_setNeed_25 rfl ?_
      exact ⟨M8, Or.inr (Or.inl ⟨(fun q => by rw [decide_eq_true (show 0 ≤ c ∧ c ≤ 3 by omega)] at c_17; exact absurd c_17 (by decide)), ⟨Nat.le_refl _, by omega, P8, r8, by rw [e8]; exact su_s, fun f h0 => by rw [e8, su_f h0, eM_1, su_f h0], (FA.rf.up eh_1 (by omega)).tr f8.fa (Nat.le_refl _)⟩, rfl⟩)⟩

theorem m_setRule (P : MP G N M L z h) (r : RS S M) (w : WF S) {x : Int} (hx : InR x) : CT G mX11_setRule [.ref (cB G + 169), JV x] h N 0 0 (fun r h' N' => ∃ M', (((0 ≤ x ∧ x ≤ 3)) ∧ MRG G (su S 15 0 0 x) M L z h N M' h' N' ∧ r = some (JV (S 15 0 0))) ∨ ((¬ (0 ≤ x ∧ x ≤ 3)) ∧ MRB G S M L z h N 1 M' h' N' ∧ r = some (JV 0))) := by
  have wT := w.nT
  have wL := w.nL
  have wR := w.rule
  have hN0 := P.nN
  refine CT_of (by decide +kernel) rfl (by simp [Value.category]) (Nat.le_of_ble_eq_true rfl) ?_
  change WP G mX11_setRule _ noX _ _ h N 0 [some (.ref (cB G + 169)), some (JV x), none] []
  refine wp_aload_n dX11_setRule_0 rfl ?_
  refine wp_iconst dX11_setRule_1 ?_
  refine wp_put fkX11_88 dX11_setRule_2 (P.s0 r) rfl rfl (Nat.le_of_ble_eq_true rfl) ?_
  obtain ⟨h_1, eh_1⟩ : ∃ hh9 : AH, hh9 = hup h (cB G + 169) (eO 11 [JV 0, .ref (cB G + 170), .ref (cB G + 171), .ref (cB G + 172), .ref (cB G + 177), .ref (cB G + 178), JV (S 13 0 0), .ref (cB G + 179), .ref (cB G + 180), .ref (cB G + 181), .ref (cB G + 182), .ref (cB G + 183), .ref (cB G + 208), .ref (cB G + 209), JV (S 14 0 0), .ref (cB G + 212), JV (S 15 0 0), JV (M 17 0 0), .ref (cB G + 253), .ref (cB G + 254), .ref (cB G + 257), .ref (cB G + 260), .ref (cB G + 261), .ref (cB G + 264), JV (M 24 0 0), JV (M 25 0 0), JV (M 26 0 0), .ref (cB G + 265), JV (M 28 0 0), .ref (cB G + 270), .ref (cB G + 273), .ref (cB G + 274), .ref (cB G + 275), .ref (cB G + 276), .long z]) := ⟨_, rfl⟩
  refine WP.heq eh_1 ?_
  obtain ⟨M_1, eM_1⟩ : ∃ ss9 : ST, ss9 = su M 0 0 0 0 := ⟨_, rfl⟩
  have P_1 : MP G (N) M_1 L z h_1 := by rw [eM_1]; exact P.sc (f := 0) (v := 0) (by decide) (eh_1.trans (by simp [cMod, su, r.2.2.1.1, r.2.2.1.2.1, r.2.2.1.2.2]))
  have r_1 : RS S M_1 := by rw [eM_1]; exact r.der (by decide)
  refine wp_iload_n dX11_setRule_5 rfl ?_
  refine wp_iconst dX11_setRule_6 ?_
  refine wp_iconst dX11_setRule_7 ?_
  refine wp_s3p (m_is (N := N) hx ⟨by omega, by omega⟩ ⟨by omega, by omega⟩) csX11_92 dX11_setRule_8 ⟨Nat.le_of_ble_eq_true rfl, Nat.le_of_ble_eq_true rfl⟩ (Nat.le_of_ble_eq_true rfl) ?_
  refine wp_if_ne 20 dX11_setRule_11 (by decide) (bI_r _) (fun c_11 => ?_) (fun c_11 => ?_)
  · have q_11 := bI_p c_11
    refine wp_aload_n dX11_setRule_20 rfl ?_
    refine wp_get fkX11_143 dX11_setRule_21 P_1.c0 rfl ?_
    refine wp_istore_n dX11_setRule_24 (Nat.le_of_ble_eq_true rfl) rfl ?_
    change WP G mX11_setRule _ _ _ _ h_1 N 25 [some (.ref (cB G + 169)), some (JV x), some (JV (M_1 16 0 0))] []
    refine wp_aload_n dX11_setRule_25 rfl ?_
    refine wp_iload_n dX11_setRule_26 rfl ?_
    refine wp_put fkX11_143 dX11_setRule_27 P_1.c0 rfl rfl (Nat.le_of_ble_eq_true rfl) ?_
    obtain ⟨h_2, eh_2⟩ : ∃ hh9 : AH, hh9 = hup h_1 (cB G + 169) (eO 11 [JV (M_1 0 0 0), .ref (cB G + 170), .ref (cB G + 171), .ref (cB G + 172), .ref (cB G + 177), .ref (cB G + 178), JV (M_1 6 0 0), .ref (cB G + 179), .ref (cB G + 180), .ref (cB G + 181), .ref (cB G + 182), .ref (cB G + 183), .ref (cB G + 208), .ref (cB G + 209), JV (M_1 14 0 0), .ref (cB G + 212), JV x, JV (M_1 17 0 0), .ref (cB G + 253), .ref (cB G + 254), .ref (cB G + 257), .ref (cB G + 260), .ref (cB G + 261), .ref (cB G + 264), JV (M_1 24 0 0), JV (M_1 25 0 0), JV (M_1 26 0 0), .ref (cB G + 265), JV (M_1 28 0 0), .ref (cB G + 270), .ref (cB G + 273), .ref (cB G + 274), .ref (cB G + 275), .ref (cB G + 276), .long z]) := ⟨_, rfl⟩
    refine WP.heq eh_2 ?_
    obtain ⟨M_2, eM_2⟩ : ∃ ss9 : ST, ss9 = su M_1 16 0 0 x := ⟨_, rfl⟩
    have P_2 : MP G (N) M_2 L z h_2 := by rw [eM_2]; exact P_1.sc (f := 16) (v := x) (by decide) (eh_2.trans (by simp [cMod, su]))
    refine wp_aload_n dX11_setRule_30 rfl ?_
    refine wp_iconst dX11_setRule_31 ?_
    refine wp_put fkX11_175 dX11_setRule_32 P_2.c0 rfl rfl (Nat.le_of_ble_eq_true rfl) ?_
    obtain ⟨h_3, eh_3⟩ : ∃ hh9 : AH, hh9 = hup h_2 (cB G + 169) (eO 11 [JV (M_2 0 0 0), .ref (cB G + 170), .ref (cB G + 171), .ref (cB G + 172), .ref (cB G + 177), .ref (cB G + 178), JV (M_2 6 0 0), .ref (cB G + 179), .ref (cB G + 180), .ref (cB G + 181), .ref (cB G + 182), .ref (cB G + 183), .ref (cB G + 208), .ref (cB G + 209), JV (M_2 14 0 0), .ref (cB G + 212), JV (M_2 16 0 0), JV 0, .ref (cB G + 253), .ref (cB G + 254), .ref (cB G + 257), .ref (cB G + 260), .ref (cB G + 261), .ref (cB G + 264), JV (M_2 24 0 0), JV (M_2 25 0 0), JV (M_2 26 0 0), .ref (cB G + 265), JV (M_2 28 0 0), .ref (cB G + 270), .ref (cB G + 273), .ref (cB G + 274), .ref (cB G + 275), .ref (cB G + 276), .long z]) := ⟨_, rfl⟩
    refine WP.heq eh_3 ?_
    obtain ⟨M_3, eM_3⟩ : ∃ ss9 : ST, ss9 = su M_2 17 0 0 0 := ⟨_, rfl⟩
    have P_3 : MP G (N) M_3 L z h_3 := by rw [eM_3]; exact P_2.sc (f := 17) (v := 0) (by decide) (eh_3.trans (by simp [cMod, su]))
    refine wp_iload_n dX11_setRule_35 rfl ?_
    refine wp_iret dX11_setRule_36 rfl ?_
    refine ⟨M_3, Or.inl ⟨by omega, ⟨Nat.le_refl _, by omega, P_3, by rw [eM_3, eM_2]; exact ((RS_s16 r_1).der (by decide)), by rw [eM_3, su_f (by decide), eM_2, su_f (by decide), eM_1]; exact su_s, by rw [eM_3]; exact su_s, fun f hf => by rw [eM_3, su_f ((show ∀ x ∈ mKP, x ≠ 17 by decide) f hf), eM_2, su_f ((show ∀ x ∈ mKP, x ≠ 16 by decide) f hf), eM_1, su_f ((show ∀ x ∈ mKP, x ≠ 0 by decide) f hf)], ((FA.rf.up eh_1 (by omega)).up eh_2 (by omega)).up eh_3 (by omega)⟩, ?_⟩⟩
    rw [eM_1]
    exact congrArg (fun x => some (JV x)) ((congrFun (congrFun (su_f (by decide)) _) _).trans r.2.2.1.2.2)
  · refine wp_aload_n dX11_setRule_14 rfl ?_
    refine wp_iconst dX11_setRule_15 ?_
    refine wp_v1 0 0 (m_refuse (N := N) (x := 1) P_1) cvX11_194 dX11_setRule_16 ⟨Nat.le_of_ble_eq_true rfl, Nat.le_of_ble_eq_true rfl⟩ (Nat.le_of_ble_eq_true rfl) (P_1.s0 r_1) rfl rfl (by omega) (by omega) (fun r9 h8 N8 hq => ?_)
    obtain ⟨hN8, rfl, M8, P8, e8, f8⟩ := hq
    rw [hN8]
    have r8 : RS S M8 := by rw [e8]; exact r_1.der (by decide)
    change WP G mX11_setRule _ _ _ _ h8 N 19 [some (.ref (cB G + 169)), some (JV x), none] [JV 0]
    refine wp_iret dX11_setRule_19 rfl ?_
    exact ⟨M8, Or.inr (⟨(fun q => by rw [decide_eq_true (show 0 ≤ x ∧ x ≤ 3 by omega)] at c_11; exact absurd c_11 (by decide)), ⟨Nat.le_refl _, by omega, P8, r8, by rw [e8]; exact su_s, fun f h0 => by rw [e8, su_f h0, eM_1, su_f h0], (FA.rf.up eh_1 (by omega)).tr f8.fa (Nat.le_refl _)⟩, rfl⟩)⟩

theorem m_finish (P : MP G N M L z h) (r : RS S M) (w : WF S) {t : Int} (ht : InR t) {x : Int} (hx : InR x) {y : Int} (hy : InR y) : CT G mX11_finish [.ref (cB G + 169), JV t, JV x, JV y] h N 0 0 (fun r h' N' => ∃ M', (((0 ≤ t ∧ t < S 13 0 0) ∧ (0 ≤ x ∧ x ≤ 999 ∧ x ≤ y ∧ y ≤ 999)) ∧ MRG G (su (su (su S 9 t.toNat 0 1) 10 t.toNat 0 x) 11 t.toNat 0 y) M L z h N M' h' N' ∧ r = some (JV (S 9 t.toNat 0))) ∨ ((¬ (0 ≤ t ∧ t < S 13 0 0)) ∧ MRB G S M L z h N 1 M' h' N' ∧ r = some (JV 0)) ∨ (((0 ≤ t ∧ t < S 13 0 0) ∧ ¬ (0 ≤ x ∧ x ≤ 999 ∧ x ≤ y ∧ y ≤ 999)) ∧ MRB G S M L z h N 2 M' h' N' ∧ r = some (JV 0))) := by
  have wT := w.nT
  have wL := w.nL
  have wR := w.rule
  have hN0 := P.nN
  refine CT_of (by decide +kernel) rfl (by simp [Value.category]) (Nat.le_of_ble_eq_true rfl) ?_
  change WP G mX11_finish _ noX _ _ h N 0 [some (.ref (cB G + 169)), some (JV t), some (JV x), some (JV y), none] []
  refine wp_aload_n dX11_finish_0 rfl ?_
  refine wp_aload_n dX11_finish_1 rfl ?_
  refine wp_iload_n dX11_finish_2 rfl ?_
  refine wp_v1p (m_isTask (N := N) P r w ht) cvX11_201 dX11_finish_3 ⟨Nat.le_of_ble_eq_true rfl, Nat.le_of_ble_eq_true rfl⟩ (Nat.le_of_ble_eq_true rfl) (P.s0 r) rfl rfl ?_
  refine wp_if_ne 13 dX11_finish_6 (by decide) (bI_r _) (fun c_6 => ?_) (fun c_6 => ?_)
  · have q_6 := bI_p c_6
    refine wp_iload_n dX11_finish_13 rfl ?_
    refine wp_iconst dX11_finish_14 ?_
    refine wp_sipush dX11_finish_15 rfl ?_
    refine wp_s3p (m_is (N := N) hx ⟨by omega, by omega⟩ ⟨by omega, by omega⟩) csX11_92 dX11_finish_18 ⟨Nat.le_of_ble_eq_true rfl, Nat.le_of_ble_eq_true rfl⟩ (Nat.le_of_ble_eq_true rfl) ?_
    refine wp_if_eq 35 dX11_finish_21 (by decide) (bI_r _) (fun c_21 => ?_) (fun c_21 => ?_)
    · have q_6 := bI_p c_6
      refine wp_iconst dX11_finish_35 ?_
      refine wp_goto 40 dX11_finish_36 (by decide) ?_
      refine wp_put fkX11_88 dX11_finish_40 (P.s0 r) rfl rfl (Nat.le_of_ble_eq_true rfl) ?_
      obtain ⟨h_1, eh_1⟩ : ∃ hh9 : AH, hh9 = hup h (cB G + 169) (eO 11 [JV 2, .ref (cB G + 170), .ref (cB G + 171), .ref (cB G + 172), .ref (cB G + 177), .ref (cB G + 178), JV (S 13 0 0), .ref (cB G + 179), .ref (cB G + 180), .ref (cB G + 181), .ref (cB G + 182), .ref (cB G + 183), .ref (cB G + 208), .ref (cB G + 209), JV (S 14 0 0), .ref (cB G + 212), JV (S 15 0 0), JV (M 17 0 0), .ref (cB G + 253), .ref (cB G + 254), .ref (cB G + 257), .ref (cB G + 260), .ref (cB G + 261), .ref (cB G + 264), JV (M 24 0 0), JV (M 25 0 0), JV (M 26 0 0), .ref (cB G + 265), JV (M 28 0 0), .ref (cB G + 270), .ref (cB G + 273), .ref (cB G + 274), .ref (cB G + 275), .ref (cB G + 276), .long z]) := ⟨_, rfl⟩
      refine WP.heq eh_1 ?_
      obtain ⟨M_1, eM_1⟩ : ∃ ss9 : ST, ss9 = su M 0 0 0 2 := ⟨_, rfl⟩
      have P_1 : MP G (N) M_1 L z h_1 := by rw [eM_1]; exact P.sc (f := 0) (v := 2) (by decide) (eh_1.trans (by simp [cMod, su, r.2.2.1.1, r.2.2.1.2.1, r.2.2.1.2.2]))
      have r_1 : RS S M_1 := by rw [eM_1]; exact r.der (by decide)
      refine wp_aload_n dX11_finish_43 rfl ?_
      refine wp_get fkX11_88 dX11_finish_44 (P_1.s0 r_1) rfl ?_
      rw [show M_1 0 0 0 = 2 by rw [eM_1]; exact su_s]
      refine wp_if_le 52 dX11_finish_47 (by decide) ⟨by omega, by omega⟩ (fun c_47 => ?_) (fun c_47 => ?_)
      · exact absurd c_47 (by decide)
      · refine wp_iconst dX11_finish_50 ?_
        refine wp_zret dX11_finish_51 rfl (by omega) ?_
        exact ⟨M_1, Or.inr (Or.inr (⟨⟨by omega, fun q => by rw [decide_eq_true (show 0 ≤ x ∧ x ≤ 999 by omega)] at c_21; exact absurd c_21 (by decide)⟩, ⟨Nat.le_refl _, by omega, P_1, r_1, by rw [eM_1]; exact su_s, fun f h0 => by rw [eM_1, su_f h0], FA.rf.up eh_1 (by omega)⟩, rfl⟩))⟩
    · have q_21 := bI_p c_21
      refine wp_iload_n dX11_finish_24 rfl ?_
      refine wp_iload_n dX11_finish_25 rfl ?_
      refine wp_sipush dX11_finish_26 rfl ?_
      refine wp_s3p (m_is (N := N) hy hx ⟨by omega, by omega⟩) csX11_92 dX11_finish_29 ⟨Nat.le_of_ble_eq_true rfl, Nat.le_of_ble_eq_true rfl⟩ (Nat.le_of_ble_eq_true rfl) ?_
      refine wp_if_ne 39 dX11_finish_32 (by decide) (bI_r _) (fun c_32 => ?_) (fun c_32 => ?_)
      · have q_32 := bI_p c_32
        refine wp_iconst dX11_finish_39 ?_
        refine wp_put fkX11_88 dX11_finish_40 (P.s0 r) rfl rfl (Nat.le_of_ble_eq_true rfl) ?_
        obtain ⟨h_1, eh_1⟩ : ∃ hh9 : AH, hh9 = hup h (cB G + 169) (eO 11 [JV 0, .ref (cB G + 170), .ref (cB G + 171), .ref (cB G + 172), .ref (cB G + 177), .ref (cB G + 178), JV (S 13 0 0), .ref (cB G + 179), .ref (cB G + 180), .ref (cB G + 181), .ref (cB G + 182), .ref (cB G + 183), .ref (cB G + 208), .ref (cB G + 209), JV (S 14 0 0), .ref (cB G + 212), JV (S 15 0 0), JV (M 17 0 0), .ref (cB G + 253), .ref (cB G + 254), .ref (cB G + 257), .ref (cB G + 260), .ref (cB G + 261), .ref (cB G + 264), JV (M 24 0 0), JV (M 25 0 0), JV (M 26 0 0), .ref (cB G + 265), JV (M 28 0 0), .ref (cB G + 270), .ref (cB G + 273), .ref (cB G + 274), .ref (cB G + 275), .ref (cB G + 276), .long z]) := ⟨_, rfl⟩
        refine WP.heq eh_1 ?_
        obtain ⟨M_1, eM_1⟩ : ∃ ss9 : ST, ss9 = su M 0 0 0 0 := ⟨_, rfl⟩
        have P_1 : MP G (N) M_1 L z h_1 := by rw [eM_1]; exact P.sc (f := 0) (v := 0) (by decide) (eh_1.trans (by simp [cMod, su, r.2.2.1.1, r.2.2.1.2.1, r.2.2.1.2.2]))
        have r_1 : RS S M_1 := by rw [eM_1]; exact r.der (by decide)
        refine wp_aload_n dX11_finish_43 rfl ?_
        refine wp_get fkX11_88 dX11_finish_44 (P_1.s0 r_1) rfl ?_
        rw [show M_1 0 0 0 = 0 by rw [eM_1]; exact su_s]
        refine wp_if_le 52 dX11_finish_47 (by decide) ⟨by omega, by omega⟩ (fun c_47 => ?_) (fun c_47 => ?_)
        · obtain ⟨t9, rfl⟩ : ∃ t9 : Nat, t = (t9 : Int) := ⟨t.toNat, by omega⟩
          have w9 := (w.task (t := t9) (by omega))
          have q9 : M_1 12 t9 0 = S 9 t9 0 := by rw [eM_1, su_f (by decide)]; exact (r.2.1 t9).2.2.2.2.1
          refine wp_aload_n dX11_finish_52 rfl ?_
          refine wp_get fkX11_42 dX11_finish_53 P_1.c0 rfl ?_
          refine wp_iload_n dX11_finish_56 rfl ?_
          refine wp_zaload dX11_finish_57 P_1.c12 (by omega) (by omega) (by omega) ?_
          change WP G mX11_finish _ _ _ _ h_1 N 58 [some (.ref (cB G + 169)), some (JV (t9 : Int)), some (JV x), some (JV y), none] [JV (M_1 12 t9 0)]
          refine wp_istore dX11_finish_58 (Nat.le_of_ble_eq_true rfl) rfl ?_
          change WP G mX11_finish _ _ _ _ h_1 N 60 [some (.ref (cB G + 169)), some (JV (t9 : Int)), some (JV x), some (JV y), some (JV (M_1 12 t9 0))] []
          refine wp_aload_n dX11_finish_60 rfl ?_
          refine wp_get fkX11_42 dX11_finish_61 P_1.c0 rfl ?_
          refine wp_iload_n dX11_finish_64 rfl ?_
          refine wp_iconst dX11_finish_65 ?_
          refine wp_zastore dX11_finish_66 P_1.c12 (by omega) (by omega) (by omega) (Or.inr rfl) ?_
          obtain ⟨h_2, eh_2⟩ : ∃ hh9 : AH, hh9 = hup h_1 (cB G + 208) (eZ G 24 (fup (fun i => M_1 12 i 0) t9 1)) := ⟨_, rfl⟩
          refine WP.heq eh_2 ?_
          obtain ⟨M_2, eM_2⟩ : ∃ ss9 : ST, ss9 = su M_1 12 t9 0 1 := ⟨_, rfl⟩
          have P_2 : MP G (N) M_2 L z h_2 := by rw [eM_2]; exact P_1.u1 (q := (12, 208, 24, true)) (i := t9) (v := 1) (by decide) eh_2
          refine wp_aload_n dX11_finish_67 rfl ?_
          refine wp_get fkX11_46 dX11_finish_68 P_2.c0 rfl ?_
          refine wp_iconst dX11_finish_71 ?_
          refine wp_aaload dX11_finish_72 P_2.q13 rfl rfl (by omega) (by omega) (by omega) (if_pos (by omega)) ?_
          change WP G mX11_finish _ _ _ _ h_2 N 73 [some (.ref (cB G + 169)), some (JV (t9 : Int)), some (JV x), some (JV y), some (JV (M_1 12 t9 0))] [.ref (cB G + 210 + 0)]
          refine wp_iload_n dX11_finish_73 rfl ?_
          refine wp_iload_n dX11_finish_74 rfl ?_
          refine wp_iastore dX11_finish_75 (P_2.r13 (i := 0) (by omega)) (by omega) (by omega) (by omega) ?_
          obtain ⟨h_3, eh_3⟩ : ∃ hh9 : AH, hh9 = hup h_2 (cB G + 210 + 0) (eI G 24 (fup (fun j9 => M_2 13 0 j9) t9 x)) := ⟨_, rfl⟩
          refine WP.heq eh_3 ?_
          obtain ⟨M_3, eM_3⟩ : ∃ ss9 : ST, ss9 = su M_2 13 0 t9 x := ⟨_, rfl⟩
          have P_3 : MP G (N) M_3 L z h_3 := by rw [eM_3]; exact P_2.u2 (q := (13, 209, 2, 24)) (i := 0) (j := t9) (v := x) (by decide) (show 0 < 2 by omega) eh_3
          refine wp_aload_n dX11_finish_76 rfl ?_
          refine wp_get fkX11_46 dX11_finish_77 P_3.c0 rfl ?_
          refine wp_iconst dX11_finish_80 ?_
          refine wp_aaload dX11_finish_81 P_3.q13 rfl rfl (by omega) (by omega) (by omega) (if_pos (by omega)) ?_
          change WP G mX11_finish _ _ _ _ h_3 N 82 [some (.ref (cB G + 169)), some (JV (t9 : Int)), some (JV x), some (JV y), some (JV (M_1 12 t9 0))] [.ref (cB G + 210 + 1)]
          refine wp_iload_n dX11_finish_82 rfl ?_
          refine wp_iload_n dX11_finish_83 rfl ?_
          refine wp_iastore dX11_finish_84 (P_3.r13 (i := 1) (by omega)) (by omega) (by omega) (by omega) ?_
          obtain ⟨h_4, eh_4⟩ : ∃ hh9 : AH, hh9 = hup h_3 (cB G + 210 + 1) (eI G 24 (fup (fun j9 => M_3 13 1 j9) t9 y)) := ⟨_, rfl⟩
          refine WP.heq eh_4 ?_
          obtain ⟨M_4, eM_4⟩ : ∃ ss9 : ST, ss9 = su M_3 13 1 t9 y := ⟨_, rfl⟩
          have P_4 : MP G (N) M_4 L z h_4 := by rw [eM_4]; exact P_3.u2 (q := (13, 209, 2, 24)) (i := 1) (j := t9) (v := y) (by decide) (show 1 < 2 by omega) eh_4
          refine wp_aload_n dX11_finish_85 rfl ?_
          refine wp_iconst dX11_finish_86 ?_
          refine wp_put fkX11_175 dX11_finish_87 P_4.c0 rfl rfl (Nat.le_of_ble_eq_true rfl) ?_
          obtain ⟨h_5, eh_5⟩ : ∃ hh9 : AH, hh9 = hup h_4 (cB G + 169) (eO 11 [JV (M_4 0 0 0), .ref (cB G + 170), .ref (cB G + 171), .ref (cB G + 172), .ref (cB G + 177), .ref (cB G + 178), JV (M_4 6 0 0), .ref (cB G + 179), .ref (cB G + 180), .ref (cB G + 181), .ref (cB G + 182), .ref (cB G + 183), .ref (cB G + 208), .ref (cB G + 209), JV (M_4 14 0 0), .ref (cB G + 212), JV (M_4 16 0 0), JV 0, .ref (cB G + 253), .ref (cB G + 254), .ref (cB G + 257), .ref (cB G + 260), .ref (cB G + 261), .ref (cB G + 264), JV (M_4 24 0 0), JV (M_4 25 0 0), JV (M_4 26 0 0), .ref (cB G + 265), JV (M_4 28 0 0), .ref (cB G + 270), .ref (cB G + 273), .ref (cB G + 274), .ref (cB G + 275), .ref (cB G + 276), .long z]) := ⟨_, rfl⟩
          refine WP.heq eh_5 ?_
          obtain ⟨M_5, eM_5⟩ : ∃ ss9 : ST, ss9 = su M_4 17 0 0 0 := ⟨_, rfl⟩
          have P_5 : MP G (N) M_5 L z h_5 := by rw [eM_5]; exact P_4.sc (f := 17) (v := 0) (by decide) (eh_5.trans (by simp [cMod, su]))
          refine wp_iload dX11_finish_90 rfl ?_
          refine wp_zret dX11_finish_92 rfl (by omega) ?_
          refine ⟨M_5, Or.inl ⟨⟨by omega, by omega⟩, ⟨Nat.le_refl _, by omega, P_5, by rw [eM_5, eM_4, eM_3, eM_2]; exact ((RS_s13b (RS_s13a (RS_s12 r_1))).der (by decide)), by rw [eM_5, su_f (by decide), eM_4, su_f (by decide), eM_3, su_f (by decide), eM_2, su_f (by decide), eM_1]; exact su_s, by rw [eM_5]; exact su_s, fun f hf => by rw [eM_5, su_f ((show ∀ x ∈ mKP, x ≠ 17 by decide) f hf), eM_4, su_f ((show ∀ x ∈ mKP, x ≠ 13 by decide) f hf), eM_3, su_f ((show ∀ x ∈ mKP, x ≠ 13 by decide) f hf), eM_2, su_f ((show ∀ x ∈ mKP, x ≠ 12 by decide) f hf), eM_1, su_f ((show ∀ x ∈ mKP, x ≠ 0 by decide) f hf)], ((((FA.rf.up eh_1 (by omega)).up eh_2 (by omega)).up eh_3 (by omega)).up eh_4 (by omega)).up eh_5 (by omega)⟩, ?_⟩⟩
          rw [eM_1]
          exact congrArg (fun x => some (JV x)) ((congrFun (congrFun (su_f (by decide)) _) _).trans (r.2.1 _).2.2.2.2.1)
        · exact absurd c_47 (by decide)
      · have q_6 := bI_p c_6
        have q_21 := bI_p c_21
        refine wp_iconst dX11_finish_35 ?_
        refine wp_goto 40 dX11_finish_36 (by decide) ?_
        refine wp_put fkX11_88 dX11_finish_40 (P.s0 r) rfl rfl (Nat.le_of_ble_eq_true rfl) ?_
        obtain ⟨h_1, eh_1⟩ : ∃ hh9 : AH, hh9 = hup h (cB G + 169) (eO 11 [JV 2, .ref (cB G + 170), .ref (cB G + 171), .ref (cB G + 172), .ref (cB G + 177), .ref (cB G + 178), JV (S 13 0 0), .ref (cB G + 179), .ref (cB G + 180), .ref (cB G + 181), .ref (cB G + 182), .ref (cB G + 183), .ref (cB G + 208), .ref (cB G + 209), JV (S 14 0 0), .ref (cB G + 212), JV (S 15 0 0), JV (M 17 0 0), .ref (cB G + 253), .ref (cB G + 254), .ref (cB G + 257), .ref (cB G + 260), .ref (cB G + 261), .ref (cB G + 264), JV (M 24 0 0), JV (M 25 0 0), JV (M 26 0 0), .ref (cB G + 265), JV (M 28 0 0), .ref (cB G + 270), .ref (cB G + 273), .ref (cB G + 274), .ref (cB G + 275), .ref (cB G + 276), .long z]) := ⟨_, rfl⟩
        refine WP.heq eh_1 ?_
        obtain ⟨M_1, eM_1⟩ : ∃ ss9 : ST, ss9 = su M 0 0 0 2 := ⟨_, rfl⟩
        have P_1 : MP G (N) M_1 L z h_1 := by rw [eM_1]; exact P.sc (f := 0) (v := 2) (by decide) (eh_1.trans (by simp [cMod, su, r.2.2.1.1, r.2.2.1.2.1, r.2.2.1.2.2]))
        have r_1 : RS S M_1 := by rw [eM_1]; exact r.der (by decide)
        refine wp_aload_n dX11_finish_43 rfl ?_
        refine wp_get fkX11_88 dX11_finish_44 (P_1.s0 r_1) rfl ?_
        rw [show M_1 0 0 0 = 2 by rw [eM_1]; exact su_s]
        refine wp_if_le 52 dX11_finish_47 (by decide) ⟨by omega, by omega⟩ (fun c_47 => ?_) (fun c_47 => ?_)
        · exact absurd c_47 (by decide)
        · refine wp_iconst dX11_finish_50 ?_
          refine wp_zret dX11_finish_51 rfl (by omega) ?_
          exact ⟨M_1, Or.inr (Or.inr (⟨⟨by omega, fun q => by rw [decide_eq_true (show x ≤ y ∧ y ≤ 999 by omega)] at c_32; exact absurd c_32 (by decide)⟩, ⟨Nat.le_refl _, by omega, P_1, r_1, by rw [eM_1]; exact su_s, fun f h0 => by rw [eM_1, su_f h0], FA.rf.up eh_1 (by omega)⟩, rfl⟩))⟩
  · refine wp_iconst dX11_finish_9 ?_
    refine wp_goto 40 dX11_finish_10 (by decide) ?_
    refine wp_put fkX11_88 dX11_finish_40 (P.s0 r) rfl rfl (Nat.le_of_ble_eq_true rfl) ?_
    obtain ⟨h_1, eh_1⟩ : ∃ hh9 : AH, hh9 = hup h (cB G + 169) (eO 11 [JV 1, .ref (cB G + 170), .ref (cB G + 171), .ref (cB G + 172), .ref (cB G + 177), .ref (cB G + 178), JV (S 13 0 0), .ref (cB G + 179), .ref (cB G + 180), .ref (cB G + 181), .ref (cB G + 182), .ref (cB G + 183), .ref (cB G + 208), .ref (cB G + 209), JV (S 14 0 0), .ref (cB G + 212), JV (S 15 0 0), JV (M 17 0 0), .ref (cB G + 253), .ref (cB G + 254), .ref (cB G + 257), .ref (cB G + 260), .ref (cB G + 261), .ref (cB G + 264), JV (M 24 0 0), JV (M 25 0 0), JV (M 26 0 0), .ref (cB G + 265), JV (M 28 0 0), .ref (cB G + 270), .ref (cB G + 273), .ref (cB G + 274), .ref (cB G + 275), .ref (cB G + 276), .long z]) := ⟨_, rfl⟩
    refine WP.heq eh_1 ?_
    obtain ⟨M_1, eM_1⟩ : ∃ ss9 : ST, ss9 = su M 0 0 0 1 := ⟨_, rfl⟩
    have P_1 : MP G (N) M_1 L z h_1 := by rw [eM_1]; exact P.sc (f := 0) (v := 1) (by decide) (eh_1.trans (by simp [cMod, su, r.2.2.1.1, r.2.2.1.2.1, r.2.2.1.2.2]))
    have r_1 : RS S M_1 := by rw [eM_1]; exact r.der (by decide)
    refine wp_aload_n dX11_finish_43 rfl ?_
    refine wp_get fkX11_88 dX11_finish_44 (P_1.s0 r_1) rfl ?_
    rw [show M_1 0 0 0 = 1 by rw [eM_1]; exact su_s]
    refine wp_if_le 52 dX11_finish_47 (by decide) ⟨by omega, by omega⟩ (fun c_47 => ?_) (fun c_47 => ?_)
    · exact absurd c_47 (by decide)
    · refine wp_iconst dX11_finish_50 ?_
      refine wp_zret dX11_finish_51 rfl (by omega) ?_
      exact ⟨M_1, Or.inr (Or.inl ⟨(fun q => by rw [decide_eq_true (show 0 ≤ t ∧ t ≤ S 13 0 0 - 1 by omega)] at c_6; exact absurd c_6 (by decide)), ⟨Nat.le_refl _, by omega, P_1, r_1, by rw [eM_1]; exact su_s, fun f h0 => by rw [eM_1, su_f h0], FA.rf.up eh_1 (by omega)⟩, rfl⟩)⟩

theorem m_reopen (P : MP G N M L z h) (r : RS S M) (w : WF S) {t : Int} (ht : InR t) : CT G mX11_reopen [.ref (cB G + 169), JV t] h N 0 0 (fun r h' N' => ∃ M', (((0 ≤ t ∧ t < S 13 0 0)) ∧ MRG G (su S 9 t.toNat 0 0) M L z h N M' h' N' ∧ r = some (JV (S 9 t.toNat 0))) ∨ ((¬ (0 ≤ t ∧ t < S 13 0 0)) ∧ MRB G S M L z h N 1 M' h' N' ∧ r = some (JV 0))) := by
  have wT := w.nT
  have wL := w.nL
  have wR := w.rule
  have hN0 := P.nN
  refine CT_of (by decide +kernel) rfl (by simp [Value.category]) (Nat.le_of_ble_eq_true rfl) ?_
  change WP G mX11_reopen _ noX _ _ h N 0 [some (.ref (cB G + 169)), some (JV t), none] []
  refine wp_aload_n dX11_reopen_0 rfl ?_
  refine wp_aload_n dX11_reopen_1 rfl ?_
  refine wp_iload_n dX11_reopen_2 rfl ?_
  refine wp_v1p (m_isTask (N := N) P r w ht) cvX11_201 dX11_reopen_3 ⟨Nat.le_of_ble_eq_true rfl, Nat.le_of_ble_eq_true rfl⟩ (Nat.le_of_ble_eq_true rfl) (P.s0 r) rfl rfl ?_
  refine wp_if_eq 13 dX11_reopen_6 (by decide) (bI_r _) (fun c_6 => ?_) (fun c_6 => ?_)
  · refine wp_iconst dX11_reopen_13 ?_
    refine wp_put fkX11_88 dX11_reopen_14 (P.s0 r) rfl rfl (Nat.le_of_ble_eq_true rfl) ?_
    obtain ⟨h_1, eh_1⟩ : ∃ hh9 : AH, hh9 = hup h (cB G + 169) (eO 11 [JV 1, .ref (cB G + 170), .ref (cB G + 171), .ref (cB G + 172), .ref (cB G + 177), .ref (cB G + 178), JV (S 13 0 0), .ref (cB G + 179), .ref (cB G + 180), .ref (cB G + 181), .ref (cB G + 182), .ref (cB G + 183), .ref (cB G + 208), .ref (cB G + 209), JV (S 14 0 0), .ref (cB G + 212), JV (S 15 0 0), JV (M 17 0 0), .ref (cB G + 253), .ref (cB G + 254), .ref (cB G + 257), .ref (cB G + 260), .ref (cB G + 261), .ref (cB G + 264), JV (M 24 0 0), JV (M 25 0 0), JV (M 26 0 0), .ref (cB G + 265), JV (M 28 0 0), .ref (cB G + 270), .ref (cB G + 273), .ref (cB G + 274), .ref (cB G + 275), .ref (cB G + 276), .long z]) := ⟨_, rfl⟩
    refine WP.heq eh_1 ?_
    obtain ⟨M_1, eM_1⟩ : ∃ ss9 : ST, ss9 = su M 0 0 0 1 := ⟨_, rfl⟩
    have P_1 : MP G (N) M_1 L z h_1 := by rw [eM_1]; exact P.sc (f := 0) (v := 1) (by decide) (eh_1.trans (by simp [cMod, su, r.2.2.1.1, r.2.2.1.2.1, r.2.2.1.2.2]))
    have r_1 : RS S M_1 := by rw [eM_1]; exact r.der (by decide)
    refine wp_aload_n dX11_reopen_17 rfl ?_
    refine wp_get fkX11_88 dX11_reopen_18 (P_1.s0 r_1) rfl ?_
    rw [show M_1 0 0 0 = 1 by rw [eM_1]; exact su_s]
    refine wp_if_le 26 dX11_reopen_21 (by decide) ⟨by omega, by omega⟩ (fun c_21 => ?_) (fun c_21 => ?_)
    · exact absurd c_21 (by decide)
    · refine wp_iconst dX11_reopen_24 ?_
      refine wp_zret dX11_reopen_25 rfl (by omega) ?_
      exact ⟨M_1, Or.inr (⟨(fun q => by rw [decide_eq_true (show 0 ≤ t ∧ t ≤ S 13 0 0 - 1 by omega)] at c_6; exact absurd c_6 (by decide)), ⟨Nat.le_refl _, by omega, P_1, r_1, by rw [eM_1]; exact su_s, fun f h0 => by rw [eM_1, su_f h0], FA.rf.up eh_1 (by omega)⟩, rfl⟩)⟩
  · have q_6 := bI_p c_6
    refine wp_iconst dX11_reopen_9 ?_
    refine wp_goto 14 dX11_reopen_10 (by decide) ?_
    refine wp_put fkX11_88 dX11_reopen_14 (P.s0 r) rfl rfl (Nat.le_of_ble_eq_true rfl) ?_
    obtain ⟨h_1, eh_1⟩ : ∃ hh9 : AH, hh9 = hup h (cB G + 169) (eO 11 [JV 0, .ref (cB G + 170), .ref (cB G + 171), .ref (cB G + 172), .ref (cB G + 177), .ref (cB G + 178), JV (S 13 0 0), .ref (cB G + 179), .ref (cB G + 180), .ref (cB G + 181), .ref (cB G + 182), .ref (cB G + 183), .ref (cB G + 208), .ref (cB G + 209), JV (S 14 0 0), .ref (cB G + 212), JV (S 15 0 0), JV (M 17 0 0), .ref (cB G + 253), .ref (cB G + 254), .ref (cB G + 257), .ref (cB G + 260), .ref (cB G + 261), .ref (cB G + 264), JV (M 24 0 0), JV (M 25 0 0), JV (M 26 0 0), .ref (cB G + 265), JV (M 28 0 0), .ref (cB G + 270), .ref (cB G + 273), .ref (cB G + 274), .ref (cB G + 275), .ref (cB G + 276), .long z]) := ⟨_, rfl⟩
    refine WP.heq eh_1 ?_
    obtain ⟨M_1, eM_1⟩ : ∃ ss9 : ST, ss9 = su M 0 0 0 0 := ⟨_, rfl⟩
    have P_1 : MP G (N) M_1 L z h_1 := by rw [eM_1]; exact P.sc (f := 0) (v := 0) (by decide) (eh_1.trans (by simp [cMod, su, r.2.2.1.1, r.2.2.1.2.1, r.2.2.1.2.2]))
    have r_1 : RS S M_1 := by rw [eM_1]; exact r.der (by decide)
    refine wp_aload_n dX11_reopen_17 rfl ?_
    refine wp_get fkX11_88 dX11_reopen_18 (P_1.s0 r_1) rfl ?_
    rw [show M_1 0 0 0 = 0 by rw [eM_1]; exact su_s]
    refine wp_if_le 26 dX11_reopen_21 (by decide) ⟨by omega, by omega⟩ (fun c_21 => ?_) (fun c_21 => ?_)
    · obtain ⟨t9, rfl⟩ : ∃ t9 : Nat, t = (t9 : Int) := ⟨t.toNat, by omega⟩
      have w9 := (w.task (t := t9) (by omega))
      have q9 : M_1 12 t9 0 = S 9 t9 0 := by rw [eM_1, su_f (by decide)]; exact (r.2.1 t9).2.2.2.2.1
      refine wp_aload_n dX11_reopen_26 rfl ?_
      refine wp_get fkX11_42 dX11_reopen_27 P_1.c0 rfl ?_
      refine wp_iload_n dX11_reopen_30 rfl ?_
      refine wp_zaload dX11_reopen_31 P_1.c12 (by omega) (by omega) (by omega) ?_
      change WP G mX11_reopen _ _ _ _ h_1 N 32 [some (.ref (cB G + 169)), some (JV (t9 : Int)), none] [JV (M_1 12 t9 0)]
      refine wp_istore_n dX11_reopen_32 (Nat.le_of_ble_eq_true rfl) rfl ?_
      change WP G mX11_reopen _ _ _ _ h_1 N 33 [some (.ref (cB G + 169)), some (JV (t9 : Int)), some (JV (M_1 12 t9 0))] []
      refine wp_aload_n dX11_reopen_33 rfl ?_
      refine wp_get fkX11_42 dX11_reopen_34 P_1.c0 rfl ?_
      refine wp_iload_n dX11_reopen_37 rfl ?_
      refine wp_iconst dX11_reopen_38 ?_
      refine wp_zastore dX11_reopen_39 P_1.c12 (by omega) (by omega) (by omega) (Or.inl rfl) ?_
      obtain ⟨h_2, eh_2⟩ : ∃ hh9 : AH, hh9 = hup h_1 (cB G + 208) (eZ G 24 (fup (fun i => M_1 12 i 0) t9 0)) := ⟨_, rfl⟩
      refine WP.heq eh_2 ?_
      obtain ⟨M_2, eM_2⟩ : ∃ ss9 : ST, ss9 = su M_1 12 t9 0 0 := ⟨_, rfl⟩
      have P_2 : MP G (N) M_2 L z h_2 := by rw [eM_2]; exact P_1.u1 (q := (12, 208, 24, true)) (i := t9) (v := 0) (by decide) eh_2
      refine wp_aload_n dX11_reopen_40 rfl ?_
      refine wp_iconst dX11_reopen_41 ?_
      refine wp_put fkX11_175 dX11_reopen_42 P_2.c0 rfl rfl (Nat.le_of_ble_eq_true rfl) ?_
      obtain ⟨h_3, eh_3⟩ : ∃ hh9 : AH, hh9 = hup h_2 (cB G + 169) (eO 11 [JV (M_2 0 0 0), .ref (cB G + 170), .ref (cB G + 171), .ref (cB G + 172), .ref (cB G + 177), .ref (cB G + 178), JV (M_2 6 0 0), .ref (cB G + 179), .ref (cB G + 180), .ref (cB G + 181), .ref (cB G + 182), .ref (cB G + 183), .ref (cB G + 208), .ref (cB G + 209), JV (M_2 14 0 0), .ref (cB G + 212), JV (M_2 16 0 0), JV 0, .ref (cB G + 253), .ref (cB G + 254), .ref (cB G + 257), .ref (cB G + 260), .ref (cB G + 261), .ref (cB G + 264), JV (M_2 24 0 0), JV (M_2 25 0 0), JV (M_2 26 0 0), .ref (cB G + 265), JV (M_2 28 0 0), .ref (cB G + 270), .ref (cB G + 273), .ref (cB G + 274), .ref (cB G + 275), .ref (cB G + 276), .long z]) := ⟨_, rfl⟩
      refine WP.heq eh_3 ?_
      obtain ⟨M_3, eM_3⟩ : ∃ ss9 : ST, ss9 = su M_2 17 0 0 0 := ⟨_, rfl⟩
      have P_3 : MP G (N) M_3 L z h_3 := by rw [eM_3]; exact P_2.sc (f := 17) (v := 0) (by decide) (eh_3.trans (by simp [cMod, su]))
      refine wp_iload_n dX11_reopen_45 rfl ?_
      refine wp_zret dX11_reopen_46 rfl (by omega) ?_
      refine ⟨M_3, Or.inl ⟨by omega, ⟨Nat.le_refl _, by omega, P_3, by rw [eM_3, eM_2]; exact ((RS_s12 r_1).der (by decide)), by rw [eM_3, su_f (by decide), eM_2, su_f (by decide), eM_1]; exact su_s, by rw [eM_3]; exact su_s, fun f hf => by rw [eM_3, su_f ((show ∀ x ∈ mKP, x ≠ 17 by decide) f hf), eM_2, su_f ((show ∀ x ∈ mKP, x ≠ 12 by decide) f hf), eM_1, su_f ((show ∀ x ∈ mKP, x ≠ 0 by decide) f hf)], ((FA.rf.up eh_1 (by omega)).up eh_2 (by omega)).up eh_3 (by omega)⟩, ?_⟩⟩
      rw [eM_1]
      exact congrArg (fun x => some (JV x)) ((congrFun (congrFun (su_f (by decide)) _) _).trans (r.2.1 _).2.2.2.2.1)
    · exact absurd c_21 (by decide)

end Mset

/-! ===== the project's state: a table of numbers (field, i, j), and its cells ===== -/
abbrev ST : Type := Nat → Nat → Nat → Int
def su (S : ST) (f i j : Nat) (v : Int) : ST := fun f' i' j' => if f' = f ∧ i' = i ∧ j' = j then v else S f' i' j'
theorem su_f {S : ST} {f i j f' : Nat} {v : Int} (hn : f' ≠ f) : su S f i j v f' = S f' := by
  funext i' j'
  exact if_neg fun q => hn q.1
theorem su_i {S : ST} {f i j f' i' j' : Nat} {v : Int} (hn : i' ≠ i) : su S f i j v f' i' j' = S f' i' j' := if_neg fun q => hn q.2.1
theorem su_s {S : ST} {f i j : Nat} {v : Int} : su S f i j v f i j = v := if_pos ⟨rfl, rfl, rfl⟩
theorem su_fup {S : ST} {f i j : Nat} {v : Int} : (fun x => su S f i j v f x j) = fup (fun x => S f x j) i v := by
  funext x
  unfold su fup
  by_cases hx : x = i <;> simp [hx]
theorem su_fup2 {S : ST} {f i j : Nat} {v : Int} : (fun x => su S f i j v f i x) = fup (fun x => S f i x) j v := by
  funext x
  unfold su fup
  by_cases hx : x = j <;> simp [hx]
/-- what lies outside lo .. hi - 1 is the same -/
def FR (lo hi : Nat) (h h' : AH) : Prop := ∀ q : Nat, (q < lo ∨ hi ≤ q) → h' q = h q
theorem FR.rf {lo hi : Nat} {h : AH} : FR lo hi h h := fun _ _ => rfl
theorem FR.tr {lo hi : Nat} {h h1 h2 : AH} (a : FR lo hi h h1) (b : FR lo hi h1 h2) : FR lo hi h h2 := fun q hq => (b q hq).trans (a q hq)
theorem FR.up {lo hi a : Nat} {e : va_E} {h h1 h2 : AH} (x : FR lo hi h h1) (eh : h2 = hup h1 a e) (ha : lo ≤ a ∧ a < hi) : FR lo hi h h2 := fun q hq => (hup_at eh (by omega)).trans (x q hq)
theorem FR.mono {lo hi lo' hi' : Nat} {h h1 : AH} (a : FR lo hi h h1) (hl : lo' ≤ lo) (hh : hi ≤ hi') : FR lo' hi' h h1 := fun q hq => a q (by omega)
abbrev oCals (b : Nat) : Nat → Option Nat := fun i => if i < 4 then some (b + 8 + 2 * i) else none
abbrev oCrews (b : Nat) : Nat → Option Nat := fun i => if i < 4 then some (b + 16 + i) else none
abbrev oTasks (b : Nat) : Nat → Option Nat := fun i => if i < 24 then some (b + 20 + 2 * i) else none
abbrev oLinks (b : Nat) (g : Nat → Int) : Nat → Option Nat := fun i => if i < 40 then some (b + 68 + (g i).toNat) else none
abbrev cProj (b : Nat) (S : ST) : va_E := eO 8 [.ref (b + 2), .ref (b + 3), .ref (b + 4), .ref (b + 5), JV (S 13 0 0), JV (S 14 0 0), JV (S 15 0 0), .ref (b + 6), .ref (b + 7)]
abbrev cCal (a : Nat) (S : ST) (c : Nat) : va_E := eO 0 [JV (S 0 c 0), JV (S 1 c 0), .ref (a + 1)]
abbrev cCrew (S : ST) (c : Nat) : va_E := eO 1 [JV (S 3 c 0), JV (S 4 c 0)]
abbrev cTask (a : Nat) (S : ST) (t : Nat) : va_E := eO 9 [JV (S 5 t 0), JV (S 6 t 0), JV (S 7 t 0), JV (S 8 t 0), JV (S 9 t 0), JV (S 10 t 0), JV (S 11 t 0), .ref (a + 1)]
abbrev cLink (S : ST) (x : Nat) : va_E := eO 4 [JV (S 19 x 0), JV (S 20 x 0), JV (S 21 x 0), JV (S 22 x 0)]
/-- the project's cells -/
def HP (G : Ctx) (S : ST) (h : AH) : Prop :=
  h (cB G + 1) = some (cProj (cB G) S) ∧ h (cB G + 2) = some (eQ G 5 4 (oCals (cB G))) ∧ h (cB G + 3) = some (eQ G 6 4 (oCrews (cB G))) ∧ h (cB G + 4) = some (eQ G 7 24 (oTasks (cB G))) ∧
  h (cB G + 5) = some (eQ G 8 40 (oLinks (cB G) (fun i => S 18 i 0))) ∧ h (cB G + 6) = some (eI G 24 (fun i => S 16 i 0)) ∧ h (cB G + 7) = some (eZ G 24 (fun i => S 17 i 0)) ∧
  (∀ c, c < 4 → h (cB G + 8 + 2 * c) = some (cCal (cB G + 8 + 2 * c) S c)) ∧ (∀ c, c < 4 → h (cB G + 8 + 2 * c + 1) = some (eZ G 1000 (fun d => S 2 c d))) ∧
  (∀ c, c < 4 → h (cB G + 16 + c) = some (cCrew S c)) ∧ (∀ t, t < 24 → h (cB G + 20 + 2 * t) = some (cTask (cB G + 20 + 2 * t) S t)) ∧ (∀ t, t < 24 → h (cB G + 20 + 2 * t + 1) = some (eI G 4 (fun c => S 12 t c))) ∧
  (∀ x, x < 40 → h (cB G + 68 + x) = some (cLink S x))
theorem HP.frame {G : Ctx} {S : ST} {h h' : AH} (H : HP G S h) (hk : ∀ q, cB G + 1 ≤ q → q < cB G + 108 → h' q = h q) : HP G S h' := by
  obtain ⟨p1, p2, p3, p4, p5, p6, p7, p8, p9, p10, p11, p12, p13⟩ := H
  refine ⟨?_, ?_, ?_, ?_, ?_, ?_, ?_, fun c hc => ?_, fun c hc => ?_, fun c hc => ?_, fun c hc => ?_, fun c hc => ?_, fun c hc => ?_⟩ <;> rw [hk _ (by omega) (by omega)] <;> first | assumption | exact p8 c hc | exact p9 c hc | exact p10 c hc | exact p11 c hc | exact p12 c hc | exact p13 c hc
section HPU
variable {G : Ctx} {S : ST} {h h1 : AH}
theorem HP_0 {i : Nat} {v : Int} (hi : i < 4) (H : HP G S h) (e : h1 = hup h (cB G + 8 + 2 * i) (cCal (cB G + 8 + 2 * i) (su S 0 i 0 v) i)) : HP G (su S 0 i 0 v) h1 := by
  obtain ⟨p1, p2, p3, p4, p5, p6, p7, p8, p9, p10, p11, p12, p13⟩ := H
  have nn : ∀ q, q ≠ cB G + 8 + 2 * i → h1 q = h q := fun q hq => hup_at e hq
  have ee : h1 (cB G + 8 + 2 * i) = some (cCal (cB G + 8 + 2 * i) (su S 0 i 0 v) i) := by rw [e]; exact hup_self _ _ _
  refine ⟨?_, ?_, ?_, ?_, ?_, ?_, ?_, ?_, ?_, ?_, ?_, ?_, ?_⟩
  · rw [nn _ (by omega)]; simp only [cProj, cCal, cCrew, cTask, cLink, su_f (S := S) (f := 0) (i := i) (j := 0) (f' := 13) (v := v) (by decide), su_f (S := S) (f := 0) (i := i) (j := 0) (f' := 14) (v := v) (by decide), su_f (S := S) (f := 0) (i := i) (j := 0) (f' := 15) (v := v) (by decide)]; exact p1
  · rw [nn _ (by omega)]; exact p2
  · rw [nn _ (by omega)]; exact p3
  · rw [nn _ (by omega)]; exact p4
  · rw [nn _ (by omega)]; simp only [cProj, cCal, cCrew, cTask, cLink, su_f (S := S) (f := 0) (i := i) (j := 0) (f' := 18) (v := v) (by decide)]; exact p5
  · rw [nn _ (by omega)]; simp only [cProj, cCal, cCrew, cTask, cLink, su_f (S := S) (f := 0) (i := i) (j := 0) (f' := 16) (v := v) (by decide)]; exact p6
  · rw [nn _ (by omega)]; simp only [cProj, cCal, cCrew, cTask, cLink, su_f (S := S) (f := 0) (i := i) (j := 0) (f' := 17) (v := v) (by decide)]; exact p7
  · intro c hc
    by_cases hci : c = i
    · subst hci; exact ee
    · rw [nn _ (by omega)]; simp only [cProj, cCal, cCrew, cTask, cLink, su_i hci]; exact p8 c hc
  · intro c hc; rw [nn _ (by omega)]; simp only [cProj, cCal, cCrew, cTask, cLink, su_f (S := S) (f := 0) (i := i) (j := 0) (f' := 2) (v := v) (by decide)]; exact p9 c hc
  · intro c hc; rw [nn _ (by omega)]; simp only [cProj, cCal, cCrew, cTask, cLink, su_f (S := S) (f := 0) (i := i) (j := 0) (f' := 3) (v := v) (by decide), su_f (S := S) (f := 0) (i := i) (j := 0) (f' := 4) (v := v) (by decide)]; exact p10 c hc
  · intro c hc; rw [nn _ (by omega)]; simp only [cProj, cCal, cCrew, cTask, cLink, su_f (S := S) (f := 0) (i := i) (j := 0) (f' := 5) (v := v) (by decide), su_f (S := S) (f := 0) (i := i) (j := 0) (f' := 6) (v := v) (by decide), su_f (S := S) (f := 0) (i := i) (j := 0) (f' := 7) (v := v) (by decide), su_f (S := S) (f := 0) (i := i) (j := 0) (f' := 8) (v := v) (by decide), su_f (S := S) (f := 0) (i := i) (j := 0) (f' := 9) (v := v) (by decide), su_f (S := S) (f := 0) (i := i) (j := 0) (f' := 10) (v := v) (by decide), su_f (S := S) (f := 0) (i := i) (j := 0) (f' := 11) (v := v) (by decide)]; exact p11 c hc
  · intro c hc; rw [nn _ (by omega)]; simp only [cProj, cCal, cCrew, cTask, cLink, su_f (S := S) (f := 0) (i := i) (j := 0) (f' := 12) (v := v) (by decide)]; exact p12 c hc
  · intro c hc; rw [nn _ (by omega)]; simp only [cProj, cCal, cCrew, cTask, cLink, su_f (S := S) (f := 0) (i := i) (j := 0) (f' := 19) (v := v) (by decide), su_f (S := S) (f := 0) (i := i) (j := 0) (f' := 20) (v := v) (by decide), su_f (S := S) (f := 0) (i := i) (j := 0) (f' := 21) (v := v) (by decide), su_f (S := S) (f := 0) (i := i) (j := 0) (f' := 22) (v := v) (by decide)]; exact p13 c hc
theorem HP_1 {i : Nat} {v : Int} (hi : i < 4) (H : HP G S h) (e : h1 = hup h (cB G + 8 + 2 * i) (cCal (cB G + 8 + 2 * i) (su S 1 i 0 v) i)) : HP G (su S 1 i 0 v) h1 := by
  obtain ⟨p1, p2, p3, p4, p5, p6, p7, p8, p9, p10, p11, p12, p13⟩ := H
  have nn : ∀ q, q ≠ cB G + 8 + 2 * i → h1 q = h q := fun q hq => hup_at e hq
  have ee : h1 (cB G + 8 + 2 * i) = some (cCal (cB G + 8 + 2 * i) (su S 1 i 0 v) i) := by rw [e]; exact hup_self _ _ _
  refine ⟨?_, ?_, ?_, ?_, ?_, ?_, ?_, ?_, ?_, ?_, ?_, ?_, ?_⟩
  · rw [nn _ (by omega)]; simp only [cProj, cCal, cCrew, cTask, cLink, su_f (S := S) (f := 1) (i := i) (j := 0) (f' := 13) (v := v) (by decide), su_f (S := S) (f := 1) (i := i) (j := 0) (f' := 14) (v := v) (by decide), su_f (S := S) (f := 1) (i := i) (j := 0) (f' := 15) (v := v) (by decide)]; exact p1
  · rw [nn _ (by omega)]; exact p2
  · rw [nn _ (by omega)]; exact p3
  · rw [nn _ (by omega)]; exact p4
  · rw [nn _ (by omega)]; simp only [cProj, cCal, cCrew, cTask, cLink, su_f (S := S) (f := 1) (i := i) (j := 0) (f' := 18) (v := v) (by decide)]; exact p5
  · rw [nn _ (by omega)]; simp only [cProj, cCal, cCrew, cTask, cLink, su_f (S := S) (f := 1) (i := i) (j := 0) (f' := 16) (v := v) (by decide)]; exact p6
  · rw [nn _ (by omega)]; simp only [cProj, cCal, cCrew, cTask, cLink, su_f (S := S) (f := 1) (i := i) (j := 0) (f' := 17) (v := v) (by decide)]; exact p7
  · intro c hc
    by_cases hci : c = i
    · subst hci; exact ee
    · rw [nn _ (by omega)]; simp only [cProj, cCal, cCrew, cTask, cLink, su_i hci]; exact p8 c hc
  · intro c hc; rw [nn _ (by omega)]; simp only [cProj, cCal, cCrew, cTask, cLink, su_f (S := S) (f := 1) (i := i) (j := 0) (f' := 2) (v := v) (by decide)]; exact p9 c hc
  · intro c hc; rw [nn _ (by omega)]; simp only [cProj, cCal, cCrew, cTask, cLink, su_f (S := S) (f := 1) (i := i) (j := 0) (f' := 3) (v := v) (by decide), su_f (S := S) (f := 1) (i := i) (j := 0) (f' := 4) (v := v) (by decide)]; exact p10 c hc
  · intro c hc; rw [nn _ (by omega)]; simp only [cProj, cCal, cCrew, cTask, cLink, su_f (S := S) (f := 1) (i := i) (j := 0) (f' := 5) (v := v) (by decide), su_f (S := S) (f := 1) (i := i) (j := 0) (f' := 6) (v := v) (by decide), su_f (S := S) (f := 1) (i := i) (j := 0) (f' := 7) (v := v) (by decide), su_f (S := S) (f := 1) (i := i) (j := 0) (f' := 8) (v := v) (by decide), su_f (S := S) (f := 1) (i := i) (j := 0) (f' := 9) (v := v) (by decide), su_f (S := S) (f := 1) (i := i) (j := 0) (f' := 10) (v := v) (by decide), su_f (S := S) (f := 1) (i := i) (j := 0) (f' := 11) (v := v) (by decide)]; exact p11 c hc
  · intro c hc; rw [nn _ (by omega)]; simp only [cProj, cCal, cCrew, cTask, cLink, su_f (S := S) (f := 1) (i := i) (j := 0) (f' := 12) (v := v) (by decide)]; exact p12 c hc
  · intro c hc; rw [nn _ (by omega)]; simp only [cProj, cCal, cCrew, cTask, cLink, su_f (S := S) (f := 1) (i := i) (j := 0) (f' := 19) (v := v) (by decide), su_f (S := S) (f := 1) (i := i) (j := 0) (f' := 20) (v := v) (by decide), su_f (S := S) (f := 1) (i := i) (j := 0) (f' := 21) (v := v) (by decide), su_f (S := S) (f := 1) (i := i) (j := 0) (f' := 22) (v := v) (by decide)]; exact p13 c hc
theorem HP_2 {i j : Nat} {v : Int} (hi : i < 4) (H : HP G S h) (e : h1 = hup h (cB G + 8 + 2 * i + 1) (eZ G 1000 (fup (fun d => S 2 i d) j v))) : HP G (su S 2 i j v) h1 := by
  obtain ⟨p1, p2, p3, p4, p5, p6, p7, p8, p9, p10, p11, p12, p13⟩ := H
  have nn : ∀ q, q ≠ cB G + 8 + 2 * i + 1 → h1 q = h q := fun q hq => hup_at e hq
  have ee : h1 (cB G + 8 + 2 * i + 1) = some (eZ G 1000 (fup (fun d => S 2 i d) j v)) := by rw [e]; exact hup_self _ _ _
  refine ⟨?_, ?_, ?_, ?_, ?_, ?_, ?_, ?_, ?_, ?_, ?_, ?_, ?_⟩
  · rw [nn _ (by omega)]; simp only [cProj, cCal, cCrew, cTask, cLink, su_f (S := S) (f := 2) (i := i) (j := j) (f' := 13) (v := v) (by decide), su_f (S := S) (f := 2) (i := i) (j := j) (f' := 14) (v := v) (by decide), su_f (S := S) (f := 2) (i := i) (j := j) (f' := 15) (v := v) (by decide)]; exact p1
  · rw [nn _ (by omega)]; exact p2
  · rw [nn _ (by omega)]; exact p3
  · rw [nn _ (by omega)]; exact p4
  · rw [nn _ (by omega)]; simp only [cProj, cCal, cCrew, cTask, cLink, su_f (S := S) (f := 2) (i := i) (j := j) (f' := 18) (v := v) (by decide)]; exact p5
  · rw [nn _ (by omega)]; simp only [cProj, cCal, cCrew, cTask, cLink, su_f (S := S) (f := 2) (i := i) (j := j) (f' := 16) (v := v) (by decide)]; exact p6
  · rw [nn _ (by omega)]; simp only [cProj, cCal, cCrew, cTask, cLink, su_f (S := S) (f := 2) (i := i) (j := j) (f' := 17) (v := v) (by decide)]; exact p7
  · intro c hc; rw [nn _ (by omega)]; simp only [cProj, cCal, cCrew, cTask, cLink, su_f (S := S) (f := 2) (i := i) (j := j) (f' := 0) (v := v) (by decide), su_f (S := S) (f := 2) (i := i) (j := j) (f' := 1) (v := v) (by decide)]; exact p8 c hc
  · intro c hc
    by_cases hci : c = i
    · subst hci; rw [ee, su_fup2]
    · rw [nn _ (by omega)]; simp only [cProj, cCal, cCrew, cTask, cLink, su_i hci]; exact p9 c hc
  · intro c hc; rw [nn _ (by omega)]; simp only [cProj, cCal, cCrew, cTask, cLink, su_f (S := S) (f := 2) (i := i) (j := j) (f' := 3) (v := v) (by decide), su_f (S := S) (f := 2) (i := i) (j := j) (f' := 4) (v := v) (by decide)]; exact p10 c hc
  · intro c hc; rw [nn _ (by omega)]; simp only [cProj, cCal, cCrew, cTask, cLink, su_f (S := S) (f := 2) (i := i) (j := j) (f' := 5) (v := v) (by decide), su_f (S := S) (f := 2) (i := i) (j := j) (f' := 6) (v := v) (by decide), su_f (S := S) (f := 2) (i := i) (j := j) (f' := 7) (v := v) (by decide), su_f (S := S) (f := 2) (i := i) (j := j) (f' := 8) (v := v) (by decide), su_f (S := S) (f := 2) (i := i) (j := j) (f' := 9) (v := v) (by decide), su_f (S := S) (f := 2) (i := i) (j := j) (f' := 10) (v := v) (by decide), su_f (S := S) (f := 2) (i := i) (j := j) (f' := 11) (v := v) (by decide)]; exact p11 c hc
  · intro c hc; rw [nn _ (by omega)]; simp only [cProj, cCal, cCrew, cTask, cLink, su_f (S := S) (f := 2) (i := i) (j := j) (f' := 12) (v := v) (by decide)]; exact p12 c hc
  · intro c hc; rw [nn _ (by omega)]; simp only [cProj, cCal, cCrew, cTask, cLink, su_f (S := S) (f := 2) (i := i) (j := j) (f' := 19) (v := v) (by decide), su_f (S := S) (f := 2) (i := i) (j := j) (f' := 20) (v := v) (by decide), su_f (S := S) (f := 2) (i := i) (j := j) (f' := 21) (v := v) (by decide), su_f (S := S) (f := 2) (i := i) (j := j) (f' := 22) (v := v) (by decide)]; exact p13 c hc
theorem HP_3 {i : Nat} {v : Int} (hi : i < 4) (H : HP G S h) (e : h1 = hup h (cB G + 16 + i) (cCrew (su S 3 i 0 v) i)) : HP G (su S 3 i 0 v) h1 := by
  obtain ⟨p1, p2, p3, p4, p5, p6, p7, p8, p9, p10, p11, p12, p13⟩ := H
  have nn : ∀ q, q ≠ cB G + 16 + i → h1 q = h q := fun q hq => hup_at e hq
  have ee : h1 (cB G + 16 + i) = some (cCrew (su S 3 i 0 v) i) := by rw [e]; exact hup_self _ _ _
  refine ⟨?_, ?_, ?_, ?_, ?_, ?_, ?_, ?_, ?_, ?_, ?_, ?_, ?_⟩
  · rw [nn _ (by omega)]; simp only [cProj, cCal, cCrew, cTask, cLink, su_f (S := S) (f := 3) (i := i) (j := 0) (f' := 13) (v := v) (by decide), su_f (S := S) (f := 3) (i := i) (j := 0) (f' := 14) (v := v) (by decide), su_f (S := S) (f := 3) (i := i) (j := 0) (f' := 15) (v := v) (by decide)]; exact p1
  · rw [nn _ (by omega)]; exact p2
  · rw [nn _ (by omega)]; exact p3
  · rw [nn _ (by omega)]; exact p4
  · rw [nn _ (by omega)]; simp only [cProj, cCal, cCrew, cTask, cLink, su_f (S := S) (f := 3) (i := i) (j := 0) (f' := 18) (v := v) (by decide)]; exact p5
  · rw [nn _ (by omega)]; simp only [cProj, cCal, cCrew, cTask, cLink, su_f (S := S) (f := 3) (i := i) (j := 0) (f' := 16) (v := v) (by decide)]; exact p6
  · rw [nn _ (by omega)]; simp only [cProj, cCal, cCrew, cTask, cLink, su_f (S := S) (f := 3) (i := i) (j := 0) (f' := 17) (v := v) (by decide)]; exact p7
  · intro c hc; rw [nn _ (by omega)]; simp only [cProj, cCal, cCrew, cTask, cLink, su_f (S := S) (f := 3) (i := i) (j := 0) (f' := 0) (v := v) (by decide), su_f (S := S) (f := 3) (i := i) (j := 0) (f' := 1) (v := v) (by decide)]; exact p8 c hc
  · intro c hc; rw [nn _ (by omega)]; simp only [cProj, cCal, cCrew, cTask, cLink, su_f (S := S) (f := 3) (i := i) (j := 0) (f' := 2) (v := v) (by decide)]; exact p9 c hc
  · intro c hc
    by_cases hci : c = i
    · subst hci; exact ee
    · rw [nn _ (by omega)]; simp only [cProj, cCal, cCrew, cTask, cLink, su_i hci]; exact p10 c hc
  · intro c hc; rw [nn _ (by omega)]; simp only [cProj, cCal, cCrew, cTask, cLink, su_f (S := S) (f := 3) (i := i) (j := 0) (f' := 5) (v := v) (by decide), su_f (S := S) (f := 3) (i := i) (j := 0) (f' := 6) (v := v) (by decide), su_f (S := S) (f := 3) (i := i) (j := 0) (f' := 7) (v := v) (by decide), su_f (S := S) (f := 3) (i := i) (j := 0) (f' := 8) (v := v) (by decide), su_f (S := S) (f := 3) (i := i) (j := 0) (f' := 9) (v := v) (by decide), su_f (S := S) (f := 3) (i := i) (j := 0) (f' := 10) (v := v) (by decide), su_f (S := S) (f := 3) (i := i) (j := 0) (f' := 11) (v := v) (by decide)]; exact p11 c hc
  · intro c hc; rw [nn _ (by omega)]; simp only [cProj, cCal, cCrew, cTask, cLink, su_f (S := S) (f := 3) (i := i) (j := 0) (f' := 12) (v := v) (by decide)]; exact p12 c hc
  · intro c hc; rw [nn _ (by omega)]; simp only [cProj, cCal, cCrew, cTask, cLink, su_f (S := S) (f := 3) (i := i) (j := 0) (f' := 19) (v := v) (by decide), su_f (S := S) (f := 3) (i := i) (j := 0) (f' := 20) (v := v) (by decide), su_f (S := S) (f := 3) (i := i) (j := 0) (f' := 21) (v := v) (by decide), su_f (S := S) (f := 3) (i := i) (j := 0) (f' := 22) (v := v) (by decide)]; exact p13 c hc
theorem HP_4 {i : Nat} {v : Int} (hi : i < 4) (H : HP G S h) (e : h1 = hup h (cB G + 16 + i) (cCrew (su S 4 i 0 v) i)) : HP G (su S 4 i 0 v) h1 := by
  obtain ⟨p1, p2, p3, p4, p5, p6, p7, p8, p9, p10, p11, p12, p13⟩ := H
  have nn : ∀ q, q ≠ cB G + 16 + i → h1 q = h q := fun q hq => hup_at e hq
  have ee : h1 (cB G + 16 + i) = some (cCrew (su S 4 i 0 v) i) := by rw [e]; exact hup_self _ _ _
  refine ⟨?_, ?_, ?_, ?_, ?_, ?_, ?_, ?_, ?_, ?_, ?_, ?_, ?_⟩
  · rw [nn _ (by omega)]; simp only [cProj, cCal, cCrew, cTask, cLink, su_f (S := S) (f := 4) (i := i) (j := 0) (f' := 13) (v := v) (by decide), su_f (S := S) (f := 4) (i := i) (j := 0) (f' := 14) (v := v) (by decide), su_f (S := S) (f := 4) (i := i) (j := 0) (f' := 15) (v := v) (by decide)]; exact p1
  · rw [nn _ (by omega)]; exact p2
  · rw [nn _ (by omega)]; exact p3
  · rw [nn _ (by omega)]; exact p4
  · rw [nn _ (by omega)]; simp only [cProj, cCal, cCrew, cTask, cLink, su_f (S := S) (f := 4) (i := i) (j := 0) (f' := 18) (v := v) (by decide)]; exact p5
  · rw [nn _ (by omega)]; simp only [cProj, cCal, cCrew, cTask, cLink, su_f (S := S) (f := 4) (i := i) (j := 0) (f' := 16) (v := v) (by decide)]; exact p6
  · rw [nn _ (by omega)]; simp only [cProj, cCal, cCrew, cTask, cLink, su_f (S := S) (f := 4) (i := i) (j := 0) (f' := 17) (v := v) (by decide)]; exact p7
  · intro c hc; rw [nn _ (by omega)]; simp only [cProj, cCal, cCrew, cTask, cLink, su_f (S := S) (f := 4) (i := i) (j := 0) (f' := 0) (v := v) (by decide), su_f (S := S) (f := 4) (i := i) (j := 0) (f' := 1) (v := v) (by decide)]; exact p8 c hc
  · intro c hc; rw [nn _ (by omega)]; simp only [cProj, cCal, cCrew, cTask, cLink, su_f (S := S) (f := 4) (i := i) (j := 0) (f' := 2) (v := v) (by decide)]; exact p9 c hc
  · intro c hc
    by_cases hci : c = i
    · subst hci; exact ee
    · rw [nn _ (by omega)]; simp only [cProj, cCal, cCrew, cTask, cLink, su_i hci]; exact p10 c hc
  · intro c hc; rw [nn _ (by omega)]; simp only [cProj, cCal, cCrew, cTask, cLink, su_f (S := S) (f := 4) (i := i) (j := 0) (f' := 5) (v := v) (by decide), su_f (S := S) (f := 4) (i := i) (j := 0) (f' := 6) (v := v) (by decide), su_f (S := S) (f := 4) (i := i) (j := 0) (f' := 7) (v := v) (by decide), su_f (S := S) (f := 4) (i := i) (j := 0) (f' := 8) (v := v) (by decide), su_f (S := S) (f := 4) (i := i) (j := 0) (f' := 9) (v := v) (by decide), su_f (S := S) (f := 4) (i := i) (j := 0) (f' := 10) (v := v) (by decide), su_f (S := S) (f := 4) (i := i) (j := 0) (f' := 11) (v := v) (by decide)]; exact p11 c hc
  · intro c hc; rw [nn _ (by omega)]; simp only [cProj, cCal, cCrew, cTask, cLink, su_f (S := S) (f := 4) (i := i) (j := 0) (f' := 12) (v := v) (by decide)]; exact p12 c hc
  · intro c hc; rw [nn _ (by omega)]; simp only [cProj, cCal, cCrew, cTask, cLink, su_f (S := S) (f := 4) (i := i) (j := 0) (f' := 19) (v := v) (by decide), su_f (S := S) (f := 4) (i := i) (j := 0) (f' := 20) (v := v) (by decide), su_f (S := S) (f := 4) (i := i) (j := 0) (f' := 21) (v := v) (by decide), su_f (S := S) (f := 4) (i := i) (j := 0) (f' := 22) (v := v) (by decide)]; exact p13 c hc
theorem HP_5 {i : Nat} {v : Int} (hi : i < 24) (H : HP G S h) (e : h1 = hup h (cB G + 20 + 2 * i) (cTask (cB G + 20 + 2 * i) (su S 5 i 0 v) i)) : HP G (su S 5 i 0 v) h1 := by
  obtain ⟨p1, p2, p3, p4, p5, p6, p7, p8, p9, p10, p11, p12, p13⟩ := H
  have nn : ∀ q, q ≠ cB G + 20 + 2 * i → h1 q = h q := fun q hq => hup_at e hq
  have ee : h1 (cB G + 20 + 2 * i) = some (cTask (cB G + 20 + 2 * i) (su S 5 i 0 v) i) := by rw [e]; exact hup_self _ _ _
  refine ⟨?_, ?_, ?_, ?_, ?_, ?_, ?_, ?_, ?_, ?_, ?_, ?_, ?_⟩
  · rw [nn _ (by omega)]; simp only [cProj, cCal, cCrew, cTask, cLink, su_f (S := S) (f := 5) (i := i) (j := 0) (f' := 13) (v := v) (by decide), su_f (S := S) (f := 5) (i := i) (j := 0) (f' := 14) (v := v) (by decide), su_f (S := S) (f := 5) (i := i) (j := 0) (f' := 15) (v := v) (by decide)]; exact p1
  · rw [nn _ (by omega)]; exact p2
  · rw [nn _ (by omega)]; exact p3
  · rw [nn _ (by omega)]; exact p4
  · rw [nn _ (by omega)]; simp only [cProj, cCal, cCrew, cTask, cLink, su_f (S := S) (f := 5) (i := i) (j := 0) (f' := 18) (v := v) (by decide)]; exact p5
  · rw [nn _ (by omega)]; simp only [cProj, cCal, cCrew, cTask, cLink, su_f (S := S) (f := 5) (i := i) (j := 0) (f' := 16) (v := v) (by decide)]; exact p6
  · rw [nn _ (by omega)]; simp only [cProj, cCal, cCrew, cTask, cLink, su_f (S := S) (f := 5) (i := i) (j := 0) (f' := 17) (v := v) (by decide)]; exact p7
  · intro c hc; rw [nn _ (by omega)]; simp only [cProj, cCal, cCrew, cTask, cLink, su_f (S := S) (f := 5) (i := i) (j := 0) (f' := 0) (v := v) (by decide), su_f (S := S) (f := 5) (i := i) (j := 0) (f' := 1) (v := v) (by decide)]; exact p8 c hc
  · intro c hc; rw [nn _ (by omega)]; simp only [cProj, cCal, cCrew, cTask, cLink, su_f (S := S) (f := 5) (i := i) (j := 0) (f' := 2) (v := v) (by decide)]; exact p9 c hc
  · intro c hc; rw [nn _ (by omega)]; simp only [cProj, cCal, cCrew, cTask, cLink, su_f (S := S) (f := 5) (i := i) (j := 0) (f' := 3) (v := v) (by decide), su_f (S := S) (f := 5) (i := i) (j := 0) (f' := 4) (v := v) (by decide)]; exact p10 c hc
  · intro c hc
    by_cases hci : c = i
    · subst hci; exact ee
    · rw [nn _ (by omega)]; simp only [cProj, cCal, cCrew, cTask, cLink, su_i hci]; exact p11 c hc
  · intro c hc; rw [nn _ (by omega)]; simp only [cProj, cCal, cCrew, cTask, cLink, su_f (S := S) (f := 5) (i := i) (j := 0) (f' := 12) (v := v) (by decide)]; exact p12 c hc
  · intro c hc; rw [nn _ (by omega)]; simp only [cProj, cCal, cCrew, cTask, cLink, su_f (S := S) (f := 5) (i := i) (j := 0) (f' := 19) (v := v) (by decide), su_f (S := S) (f := 5) (i := i) (j := 0) (f' := 20) (v := v) (by decide), su_f (S := S) (f := 5) (i := i) (j := 0) (f' := 21) (v := v) (by decide), su_f (S := S) (f := 5) (i := i) (j := 0) (f' := 22) (v := v) (by decide)]; exact p13 c hc
theorem HP_6 {i : Nat} {v : Int} (hi : i < 24) (H : HP G S h) (e : h1 = hup h (cB G + 20 + 2 * i) (cTask (cB G + 20 + 2 * i) (su S 6 i 0 v) i)) : HP G (su S 6 i 0 v) h1 := by
  obtain ⟨p1, p2, p3, p4, p5, p6, p7, p8, p9, p10, p11, p12, p13⟩ := H
  have nn : ∀ q, q ≠ cB G + 20 + 2 * i → h1 q = h q := fun q hq => hup_at e hq
  have ee : h1 (cB G + 20 + 2 * i) = some (cTask (cB G + 20 + 2 * i) (su S 6 i 0 v) i) := by rw [e]; exact hup_self _ _ _
  refine ⟨?_, ?_, ?_, ?_, ?_, ?_, ?_, ?_, ?_, ?_, ?_, ?_, ?_⟩
  · rw [nn _ (by omega)]; simp only [cProj, cCal, cCrew, cTask, cLink, su_f (S := S) (f := 6) (i := i) (j := 0) (f' := 13) (v := v) (by decide), su_f (S := S) (f := 6) (i := i) (j := 0) (f' := 14) (v := v) (by decide), su_f (S := S) (f := 6) (i := i) (j := 0) (f' := 15) (v := v) (by decide)]; exact p1
  · rw [nn _ (by omega)]; exact p2
  · rw [nn _ (by omega)]; exact p3
  · rw [nn _ (by omega)]; exact p4
  · rw [nn _ (by omega)]; simp only [cProj, cCal, cCrew, cTask, cLink, su_f (S := S) (f := 6) (i := i) (j := 0) (f' := 18) (v := v) (by decide)]; exact p5
  · rw [nn _ (by omega)]; simp only [cProj, cCal, cCrew, cTask, cLink, su_f (S := S) (f := 6) (i := i) (j := 0) (f' := 16) (v := v) (by decide)]; exact p6
  · rw [nn _ (by omega)]; simp only [cProj, cCal, cCrew, cTask, cLink, su_f (S := S) (f := 6) (i := i) (j := 0) (f' := 17) (v := v) (by decide)]; exact p7
  · intro c hc; rw [nn _ (by omega)]; simp only [cProj, cCal, cCrew, cTask, cLink, su_f (S := S) (f := 6) (i := i) (j := 0) (f' := 0) (v := v) (by decide), su_f (S := S) (f := 6) (i := i) (j := 0) (f' := 1) (v := v) (by decide)]; exact p8 c hc
  · intro c hc; rw [nn _ (by omega)]; simp only [cProj, cCal, cCrew, cTask, cLink, su_f (S := S) (f := 6) (i := i) (j := 0) (f' := 2) (v := v) (by decide)]; exact p9 c hc
  · intro c hc; rw [nn _ (by omega)]; simp only [cProj, cCal, cCrew, cTask, cLink, su_f (S := S) (f := 6) (i := i) (j := 0) (f' := 3) (v := v) (by decide), su_f (S := S) (f := 6) (i := i) (j := 0) (f' := 4) (v := v) (by decide)]; exact p10 c hc
  · intro c hc
    by_cases hci : c = i
    · subst hci; exact ee
    · rw [nn _ (by omega)]; simp only [cProj, cCal, cCrew, cTask, cLink, su_i hci]; exact p11 c hc
  · intro c hc; rw [nn _ (by omega)]; simp only [cProj, cCal, cCrew, cTask, cLink, su_f (S := S) (f := 6) (i := i) (j := 0) (f' := 12) (v := v) (by decide)]; exact p12 c hc
  · intro c hc; rw [nn _ (by omega)]; simp only [cProj, cCal, cCrew, cTask, cLink, su_f (S := S) (f := 6) (i := i) (j := 0) (f' := 19) (v := v) (by decide), su_f (S := S) (f := 6) (i := i) (j := 0) (f' := 20) (v := v) (by decide), su_f (S := S) (f := 6) (i := i) (j := 0) (f' := 21) (v := v) (by decide), su_f (S := S) (f := 6) (i := i) (j := 0) (f' := 22) (v := v) (by decide)]; exact p13 c hc
theorem HP_7 {i : Nat} {v : Int} (hi : i < 24) (H : HP G S h) (e : h1 = hup h (cB G + 20 + 2 * i) (cTask (cB G + 20 + 2 * i) (su S 7 i 0 v) i)) : HP G (su S 7 i 0 v) h1 := by
  obtain ⟨p1, p2, p3, p4, p5, p6, p7, p8, p9, p10, p11, p12, p13⟩ := H
  have nn : ∀ q, q ≠ cB G + 20 + 2 * i → h1 q = h q := fun q hq => hup_at e hq
  have ee : h1 (cB G + 20 + 2 * i) = some (cTask (cB G + 20 + 2 * i) (su S 7 i 0 v) i) := by rw [e]; exact hup_self _ _ _
  refine ⟨?_, ?_, ?_, ?_, ?_, ?_, ?_, ?_, ?_, ?_, ?_, ?_, ?_⟩
  · rw [nn _ (by omega)]; simp only [cProj, cCal, cCrew, cTask, cLink, su_f (S := S) (f := 7) (i := i) (j := 0) (f' := 13) (v := v) (by decide), su_f (S := S) (f := 7) (i := i) (j := 0) (f' := 14) (v := v) (by decide), su_f (S := S) (f := 7) (i := i) (j := 0) (f' := 15) (v := v) (by decide)]; exact p1
  · rw [nn _ (by omega)]; exact p2
  · rw [nn _ (by omega)]; exact p3
  · rw [nn _ (by omega)]; exact p4
  · rw [nn _ (by omega)]; simp only [cProj, cCal, cCrew, cTask, cLink, su_f (S := S) (f := 7) (i := i) (j := 0) (f' := 18) (v := v) (by decide)]; exact p5
  · rw [nn _ (by omega)]; simp only [cProj, cCal, cCrew, cTask, cLink, su_f (S := S) (f := 7) (i := i) (j := 0) (f' := 16) (v := v) (by decide)]; exact p6
  · rw [nn _ (by omega)]; simp only [cProj, cCal, cCrew, cTask, cLink, su_f (S := S) (f := 7) (i := i) (j := 0) (f' := 17) (v := v) (by decide)]; exact p7
  · intro c hc; rw [nn _ (by omega)]; simp only [cProj, cCal, cCrew, cTask, cLink, su_f (S := S) (f := 7) (i := i) (j := 0) (f' := 0) (v := v) (by decide), su_f (S := S) (f := 7) (i := i) (j := 0) (f' := 1) (v := v) (by decide)]; exact p8 c hc
  · intro c hc; rw [nn _ (by omega)]; simp only [cProj, cCal, cCrew, cTask, cLink, su_f (S := S) (f := 7) (i := i) (j := 0) (f' := 2) (v := v) (by decide)]; exact p9 c hc
  · intro c hc; rw [nn _ (by omega)]; simp only [cProj, cCal, cCrew, cTask, cLink, su_f (S := S) (f := 7) (i := i) (j := 0) (f' := 3) (v := v) (by decide), su_f (S := S) (f := 7) (i := i) (j := 0) (f' := 4) (v := v) (by decide)]; exact p10 c hc
  · intro c hc
    by_cases hci : c = i
    · subst hci; exact ee
    · rw [nn _ (by omega)]; simp only [cProj, cCal, cCrew, cTask, cLink, su_i hci]; exact p11 c hc
  · intro c hc; rw [nn _ (by omega)]; simp only [cProj, cCal, cCrew, cTask, cLink, su_f (S := S) (f := 7) (i := i) (j := 0) (f' := 12) (v := v) (by decide)]; exact p12 c hc
  · intro c hc; rw [nn _ (by omega)]; simp only [cProj, cCal, cCrew, cTask, cLink, su_f (S := S) (f := 7) (i := i) (j := 0) (f' := 19) (v := v) (by decide), su_f (S := S) (f := 7) (i := i) (j := 0) (f' := 20) (v := v) (by decide), su_f (S := S) (f := 7) (i := i) (j := 0) (f' := 21) (v := v) (by decide), su_f (S := S) (f := 7) (i := i) (j := 0) (f' := 22) (v := v) (by decide)]; exact p13 c hc
theorem HP_8 {i : Nat} {v : Int} (hi : i < 24) (H : HP G S h) (e : h1 = hup h (cB G + 20 + 2 * i) (cTask (cB G + 20 + 2 * i) (su S 8 i 0 v) i)) : HP G (su S 8 i 0 v) h1 := by
  obtain ⟨p1, p2, p3, p4, p5, p6, p7, p8, p9, p10, p11, p12, p13⟩ := H
  have nn : ∀ q, q ≠ cB G + 20 + 2 * i → h1 q = h q := fun q hq => hup_at e hq
  have ee : h1 (cB G + 20 + 2 * i) = some (cTask (cB G + 20 + 2 * i) (su S 8 i 0 v) i) := by rw [e]; exact hup_self _ _ _
  refine ⟨?_, ?_, ?_, ?_, ?_, ?_, ?_, ?_, ?_, ?_, ?_, ?_, ?_⟩
  · rw [nn _ (by omega)]; simp only [cProj, cCal, cCrew, cTask, cLink, su_f (S := S) (f := 8) (i := i) (j := 0) (f' := 13) (v := v) (by decide), su_f (S := S) (f := 8) (i := i) (j := 0) (f' := 14) (v := v) (by decide), su_f (S := S) (f := 8) (i := i) (j := 0) (f' := 15) (v := v) (by decide)]; exact p1
  · rw [nn _ (by omega)]; exact p2
  · rw [nn _ (by omega)]; exact p3
  · rw [nn _ (by omega)]; exact p4
  · rw [nn _ (by omega)]; simp only [cProj, cCal, cCrew, cTask, cLink, su_f (S := S) (f := 8) (i := i) (j := 0) (f' := 18) (v := v) (by decide)]; exact p5
  · rw [nn _ (by omega)]; simp only [cProj, cCal, cCrew, cTask, cLink, su_f (S := S) (f := 8) (i := i) (j := 0) (f' := 16) (v := v) (by decide)]; exact p6
  · rw [nn _ (by omega)]; simp only [cProj, cCal, cCrew, cTask, cLink, su_f (S := S) (f := 8) (i := i) (j := 0) (f' := 17) (v := v) (by decide)]; exact p7
  · intro c hc; rw [nn _ (by omega)]; simp only [cProj, cCal, cCrew, cTask, cLink, su_f (S := S) (f := 8) (i := i) (j := 0) (f' := 0) (v := v) (by decide), su_f (S := S) (f := 8) (i := i) (j := 0) (f' := 1) (v := v) (by decide)]; exact p8 c hc
  · intro c hc; rw [nn _ (by omega)]; simp only [cProj, cCal, cCrew, cTask, cLink, su_f (S := S) (f := 8) (i := i) (j := 0) (f' := 2) (v := v) (by decide)]; exact p9 c hc
  · intro c hc; rw [nn _ (by omega)]; simp only [cProj, cCal, cCrew, cTask, cLink, su_f (S := S) (f := 8) (i := i) (j := 0) (f' := 3) (v := v) (by decide), su_f (S := S) (f := 8) (i := i) (j := 0) (f' := 4) (v := v) (by decide)]; exact p10 c hc
  · intro c hc
    by_cases hci : c = i
    · subst hci; exact ee
    · rw [nn _ (by omega)]; simp only [cProj, cCal, cCrew, cTask, cLink, su_i hci]; exact p11 c hc
  · intro c hc; rw [nn _ (by omega)]; simp only [cProj, cCal, cCrew, cTask, cLink, su_f (S := S) (f := 8) (i := i) (j := 0) (f' := 12) (v := v) (by decide)]; exact p12 c hc
  · intro c hc; rw [nn _ (by omega)]; simp only [cProj, cCal, cCrew, cTask, cLink, su_f (S := S) (f := 8) (i := i) (j := 0) (f' := 19) (v := v) (by decide), su_f (S := S) (f := 8) (i := i) (j := 0) (f' := 20) (v := v) (by decide), su_f (S := S) (f := 8) (i := i) (j := 0) (f' := 21) (v := v) (by decide), su_f (S := S) (f := 8) (i := i) (j := 0) (f' := 22) (v := v) (by decide)]; exact p13 c hc
theorem HP_9 {i : Nat} {v : Int} (hi : i < 24) (H : HP G S h) (e : h1 = hup h (cB G + 20 + 2 * i) (cTask (cB G + 20 + 2 * i) (su S 9 i 0 v) i)) : HP G (su S 9 i 0 v) h1 := by
  obtain ⟨p1, p2, p3, p4, p5, p6, p7, p8, p9, p10, p11, p12, p13⟩ := H
  have nn : ∀ q, q ≠ cB G + 20 + 2 * i → h1 q = h q := fun q hq => hup_at e hq
  have ee : h1 (cB G + 20 + 2 * i) = some (cTask (cB G + 20 + 2 * i) (su S 9 i 0 v) i) := by rw [e]; exact hup_self _ _ _
  refine ⟨?_, ?_, ?_, ?_, ?_, ?_, ?_, ?_, ?_, ?_, ?_, ?_, ?_⟩
  · rw [nn _ (by omega)]; simp only [cProj, cCal, cCrew, cTask, cLink, su_f (S := S) (f := 9) (i := i) (j := 0) (f' := 13) (v := v) (by decide), su_f (S := S) (f := 9) (i := i) (j := 0) (f' := 14) (v := v) (by decide), su_f (S := S) (f := 9) (i := i) (j := 0) (f' := 15) (v := v) (by decide)]; exact p1
  · rw [nn _ (by omega)]; exact p2
  · rw [nn _ (by omega)]; exact p3
  · rw [nn _ (by omega)]; exact p4
  · rw [nn _ (by omega)]; simp only [cProj, cCal, cCrew, cTask, cLink, su_f (S := S) (f := 9) (i := i) (j := 0) (f' := 18) (v := v) (by decide)]; exact p5
  · rw [nn _ (by omega)]; simp only [cProj, cCal, cCrew, cTask, cLink, su_f (S := S) (f := 9) (i := i) (j := 0) (f' := 16) (v := v) (by decide)]; exact p6
  · rw [nn _ (by omega)]; simp only [cProj, cCal, cCrew, cTask, cLink, su_f (S := S) (f := 9) (i := i) (j := 0) (f' := 17) (v := v) (by decide)]; exact p7
  · intro c hc; rw [nn _ (by omega)]; simp only [cProj, cCal, cCrew, cTask, cLink, su_f (S := S) (f := 9) (i := i) (j := 0) (f' := 0) (v := v) (by decide), su_f (S := S) (f := 9) (i := i) (j := 0) (f' := 1) (v := v) (by decide)]; exact p8 c hc
  · intro c hc; rw [nn _ (by omega)]; simp only [cProj, cCal, cCrew, cTask, cLink, su_f (S := S) (f := 9) (i := i) (j := 0) (f' := 2) (v := v) (by decide)]; exact p9 c hc
  · intro c hc; rw [nn _ (by omega)]; simp only [cProj, cCal, cCrew, cTask, cLink, su_f (S := S) (f := 9) (i := i) (j := 0) (f' := 3) (v := v) (by decide), su_f (S := S) (f := 9) (i := i) (j := 0) (f' := 4) (v := v) (by decide)]; exact p10 c hc
  · intro c hc
    by_cases hci : c = i
    · subst hci; exact ee
    · rw [nn _ (by omega)]; simp only [cProj, cCal, cCrew, cTask, cLink, su_i hci]; exact p11 c hc
  · intro c hc; rw [nn _ (by omega)]; simp only [cProj, cCal, cCrew, cTask, cLink, su_f (S := S) (f := 9) (i := i) (j := 0) (f' := 12) (v := v) (by decide)]; exact p12 c hc
  · intro c hc; rw [nn _ (by omega)]; simp only [cProj, cCal, cCrew, cTask, cLink, su_f (S := S) (f := 9) (i := i) (j := 0) (f' := 19) (v := v) (by decide), su_f (S := S) (f := 9) (i := i) (j := 0) (f' := 20) (v := v) (by decide), su_f (S := S) (f := 9) (i := i) (j := 0) (f' := 21) (v := v) (by decide), su_f (S := S) (f := 9) (i := i) (j := 0) (f' := 22) (v := v) (by decide)]; exact p13 c hc
theorem HP_10 {i : Nat} {v : Int} (hi : i < 24) (H : HP G S h) (e : h1 = hup h (cB G + 20 + 2 * i) (cTask (cB G + 20 + 2 * i) (su S 10 i 0 v) i)) : HP G (su S 10 i 0 v) h1 := by
  obtain ⟨p1, p2, p3, p4, p5, p6, p7, p8, p9, p10, p11, p12, p13⟩ := H
  have nn : ∀ q, q ≠ cB G + 20 + 2 * i → h1 q = h q := fun q hq => hup_at e hq
  have ee : h1 (cB G + 20 + 2 * i) = some (cTask (cB G + 20 + 2 * i) (su S 10 i 0 v) i) := by rw [e]; exact hup_self _ _ _
  refine ⟨?_, ?_, ?_, ?_, ?_, ?_, ?_, ?_, ?_, ?_, ?_, ?_, ?_⟩
  · rw [nn _ (by omega)]; simp only [cProj, cCal, cCrew, cTask, cLink, su_f (S := S) (f := 10) (i := i) (j := 0) (f' := 13) (v := v) (by decide), su_f (S := S) (f := 10) (i := i) (j := 0) (f' := 14) (v := v) (by decide), su_f (S := S) (f := 10) (i := i) (j := 0) (f' := 15) (v := v) (by decide)]; exact p1
  · rw [nn _ (by omega)]; exact p2
  · rw [nn _ (by omega)]; exact p3
  · rw [nn _ (by omega)]; exact p4
  · rw [nn _ (by omega)]; simp only [cProj, cCal, cCrew, cTask, cLink, su_f (S := S) (f := 10) (i := i) (j := 0) (f' := 18) (v := v) (by decide)]; exact p5
  · rw [nn _ (by omega)]; simp only [cProj, cCal, cCrew, cTask, cLink, su_f (S := S) (f := 10) (i := i) (j := 0) (f' := 16) (v := v) (by decide)]; exact p6
  · rw [nn _ (by omega)]; simp only [cProj, cCal, cCrew, cTask, cLink, su_f (S := S) (f := 10) (i := i) (j := 0) (f' := 17) (v := v) (by decide)]; exact p7
  · intro c hc; rw [nn _ (by omega)]; simp only [cProj, cCal, cCrew, cTask, cLink, su_f (S := S) (f := 10) (i := i) (j := 0) (f' := 0) (v := v) (by decide), su_f (S := S) (f := 10) (i := i) (j := 0) (f' := 1) (v := v) (by decide)]; exact p8 c hc
  · intro c hc; rw [nn _ (by omega)]; simp only [cProj, cCal, cCrew, cTask, cLink, su_f (S := S) (f := 10) (i := i) (j := 0) (f' := 2) (v := v) (by decide)]; exact p9 c hc
  · intro c hc; rw [nn _ (by omega)]; simp only [cProj, cCal, cCrew, cTask, cLink, su_f (S := S) (f := 10) (i := i) (j := 0) (f' := 3) (v := v) (by decide), su_f (S := S) (f := 10) (i := i) (j := 0) (f' := 4) (v := v) (by decide)]; exact p10 c hc
  · intro c hc
    by_cases hci : c = i
    · subst hci; exact ee
    · rw [nn _ (by omega)]; simp only [cProj, cCal, cCrew, cTask, cLink, su_i hci]; exact p11 c hc
  · intro c hc; rw [nn _ (by omega)]; simp only [cProj, cCal, cCrew, cTask, cLink, su_f (S := S) (f := 10) (i := i) (j := 0) (f' := 12) (v := v) (by decide)]; exact p12 c hc
  · intro c hc; rw [nn _ (by omega)]; simp only [cProj, cCal, cCrew, cTask, cLink, su_f (S := S) (f := 10) (i := i) (j := 0) (f' := 19) (v := v) (by decide), su_f (S := S) (f := 10) (i := i) (j := 0) (f' := 20) (v := v) (by decide), su_f (S := S) (f := 10) (i := i) (j := 0) (f' := 21) (v := v) (by decide), su_f (S := S) (f := 10) (i := i) (j := 0) (f' := 22) (v := v) (by decide)]; exact p13 c hc
theorem HP_11 {i : Nat} {v : Int} (hi : i < 24) (H : HP G S h) (e : h1 = hup h (cB G + 20 + 2 * i) (cTask (cB G + 20 + 2 * i) (su S 11 i 0 v) i)) : HP G (su S 11 i 0 v) h1 := by
  obtain ⟨p1, p2, p3, p4, p5, p6, p7, p8, p9, p10, p11, p12, p13⟩ := H
  have nn : ∀ q, q ≠ cB G + 20 + 2 * i → h1 q = h q := fun q hq => hup_at e hq
  have ee : h1 (cB G + 20 + 2 * i) = some (cTask (cB G + 20 + 2 * i) (su S 11 i 0 v) i) := by rw [e]; exact hup_self _ _ _
  refine ⟨?_, ?_, ?_, ?_, ?_, ?_, ?_, ?_, ?_, ?_, ?_, ?_, ?_⟩
  · rw [nn _ (by omega)]; simp only [cProj, cCal, cCrew, cTask, cLink, su_f (S := S) (f := 11) (i := i) (j := 0) (f' := 13) (v := v) (by decide), su_f (S := S) (f := 11) (i := i) (j := 0) (f' := 14) (v := v) (by decide), su_f (S := S) (f := 11) (i := i) (j := 0) (f' := 15) (v := v) (by decide)]; exact p1
  · rw [nn _ (by omega)]; exact p2
  · rw [nn _ (by omega)]; exact p3
  · rw [nn _ (by omega)]; exact p4
  · rw [nn _ (by omega)]; simp only [cProj, cCal, cCrew, cTask, cLink, su_f (S := S) (f := 11) (i := i) (j := 0) (f' := 18) (v := v) (by decide)]; exact p5
  · rw [nn _ (by omega)]; simp only [cProj, cCal, cCrew, cTask, cLink, su_f (S := S) (f := 11) (i := i) (j := 0) (f' := 16) (v := v) (by decide)]; exact p6
  · rw [nn _ (by omega)]; simp only [cProj, cCal, cCrew, cTask, cLink, su_f (S := S) (f := 11) (i := i) (j := 0) (f' := 17) (v := v) (by decide)]; exact p7
  · intro c hc; rw [nn _ (by omega)]; simp only [cProj, cCal, cCrew, cTask, cLink, su_f (S := S) (f := 11) (i := i) (j := 0) (f' := 0) (v := v) (by decide), su_f (S := S) (f := 11) (i := i) (j := 0) (f' := 1) (v := v) (by decide)]; exact p8 c hc
  · intro c hc; rw [nn _ (by omega)]; simp only [cProj, cCal, cCrew, cTask, cLink, su_f (S := S) (f := 11) (i := i) (j := 0) (f' := 2) (v := v) (by decide)]; exact p9 c hc
  · intro c hc; rw [nn _ (by omega)]; simp only [cProj, cCal, cCrew, cTask, cLink, su_f (S := S) (f := 11) (i := i) (j := 0) (f' := 3) (v := v) (by decide), su_f (S := S) (f := 11) (i := i) (j := 0) (f' := 4) (v := v) (by decide)]; exact p10 c hc
  · intro c hc
    by_cases hci : c = i
    · subst hci; exact ee
    · rw [nn _ (by omega)]; simp only [cProj, cCal, cCrew, cTask, cLink, su_i hci]; exact p11 c hc
  · intro c hc; rw [nn _ (by omega)]; simp only [cProj, cCal, cCrew, cTask, cLink, su_f (S := S) (f := 11) (i := i) (j := 0) (f' := 12) (v := v) (by decide)]; exact p12 c hc
  · intro c hc; rw [nn _ (by omega)]; simp only [cProj, cCal, cCrew, cTask, cLink, su_f (S := S) (f := 11) (i := i) (j := 0) (f' := 19) (v := v) (by decide), su_f (S := S) (f := 11) (i := i) (j := 0) (f' := 20) (v := v) (by decide), su_f (S := S) (f := 11) (i := i) (j := 0) (f' := 21) (v := v) (by decide), su_f (S := S) (f := 11) (i := i) (j := 0) (f' := 22) (v := v) (by decide)]; exact p13 c hc
theorem HP_12 {i j : Nat} {v : Int} (hi : i < 24) (H : HP G S h) (e : h1 = hup h (cB G + 20 + 2 * i + 1) (eI G 4 (fup (fun c => S 12 i c) j v))) : HP G (su S 12 i j v) h1 := by
  obtain ⟨p1, p2, p3, p4, p5, p6, p7, p8, p9, p10, p11, p12, p13⟩ := H
  have nn : ∀ q, q ≠ cB G + 20 + 2 * i + 1 → h1 q = h q := fun q hq => hup_at e hq
  have ee : h1 (cB G + 20 + 2 * i + 1) = some (eI G 4 (fup (fun c => S 12 i c) j v)) := by rw [e]; exact hup_self _ _ _
  refine ⟨?_, ?_, ?_, ?_, ?_, ?_, ?_, ?_, ?_, ?_, ?_, ?_, ?_⟩
  · rw [nn _ (by omega)]; simp only [cProj, cCal, cCrew, cTask, cLink, su_f (S := S) (f := 12) (i := i) (j := j) (f' := 13) (v := v) (by decide), su_f (S := S) (f := 12) (i := i) (j := j) (f' := 14) (v := v) (by decide), su_f (S := S) (f := 12) (i := i) (j := j) (f' := 15) (v := v) (by decide)]; exact p1
  · rw [nn _ (by omega)]; exact p2
  · rw [nn _ (by omega)]; exact p3
  · rw [nn _ (by omega)]; exact p4
  · rw [nn _ (by omega)]; simp only [cProj, cCal, cCrew, cTask, cLink, su_f (S := S) (f := 12) (i := i) (j := j) (f' := 18) (v := v) (by decide)]; exact p5
  · rw [nn _ (by omega)]; simp only [cProj, cCal, cCrew, cTask, cLink, su_f (S := S) (f := 12) (i := i) (j := j) (f' := 16) (v := v) (by decide)]; exact p6
  · rw [nn _ (by omega)]; simp only [cProj, cCal, cCrew, cTask, cLink, su_f (S := S) (f := 12) (i := i) (j := j) (f' := 17) (v := v) (by decide)]; exact p7
  · intro c hc; rw [nn _ (by omega)]; simp only [cProj, cCal, cCrew, cTask, cLink, su_f (S := S) (f := 12) (i := i) (j := j) (f' := 0) (v := v) (by decide), su_f (S := S) (f := 12) (i := i) (j := j) (f' := 1) (v := v) (by decide)]; exact p8 c hc
  · intro c hc; rw [nn _ (by omega)]; simp only [cProj, cCal, cCrew, cTask, cLink, su_f (S := S) (f := 12) (i := i) (j := j) (f' := 2) (v := v) (by decide)]; exact p9 c hc
  · intro c hc; rw [nn _ (by omega)]; simp only [cProj, cCal, cCrew, cTask, cLink, su_f (S := S) (f := 12) (i := i) (j := j) (f' := 3) (v := v) (by decide), su_f (S := S) (f := 12) (i := i) (j := j) (f' := 4) (v := v) (by decide)]; exact p10 c hc
  · intro c hc; rw [nn _ (by omega)]; simp only [cProj, cCal, cCrew, cTask, cLink, su_f (S := S) (f := 12) (i := i) (j := j) (f' := 5) (v := v) (by decide), su_f (S := S) (f := 12) (i := i) (j := j) (f' := 6) (v := v) (by decide), su_f (S := S) (f := 12) (i := i) (j := j) (f' := 7) (v := v) (by decide), su_f (S := S) (f := 12) (i := i) (j := j) (f' := 8) (v := v) (by decide), su_f (S := S) (f := 12) (i := i) (j := j) (f' := 9) (v := v) (by decide), su_f (S := S) (f := 12) (i := i) (j := j) (f' := 10) (v := v) (by decide), su_f (S := S) (f := 12) (i := i) (j := j) (f' := 11) (v := v) (by decide)]; exact p11 c hc
  · intro c hc
    by_cases hci : c = i
    · subst hci; rw [ee, su_fup2]
    · rw [nn _ (by omega)]; simp only [cProj, cCal, cCrew, cTask, cLink, su_i hci]; exact p12 c hc
  · intro c hc; rw [nn _ (by omega)]; simp only [cProj, cCal, cCrew, cTask, cLink, su_f (S := S) (f := 12) (i := i) (j := j) (f' := 19) (v := v) (by decide), su_f (S := S) (f := 12) (i := i) (j := j) (f' := 20) (v := v) (by decide), su_f (S := S) (f := 12) (i := i) (j := j) (f' := 21) (v := v) (by decide), su_f (S := S) (f := 12) (i := i) (j := j) (f' := 22) (v := v) (by decide)]; exact p13 c hc
theorem HP_13 {v : Int} (H : HP G S h) (e : h1 = hup h (cB G + 1) (cProj (cB G) (su S 13 0 0 v))) : HP G (su S 13 0 0 v) h1 := by
  obtain ⟨p1, p2, p3, p4, p5, p6, p7, p8, p9, p10, p11, p12, p13⟩ := H
  have nn : ∀ q, q ≠ cB G + 1 → h1 q = h q := fun q hq => hup_at e hq
  have ee : h1 (cB G + 1) = some (cProj (cB G) (su S 13 0 0 v)) := by rw [e]; exact hup_self _ _ _
  refine ⟨?_, ?_, ?_, ?_, ?_, ?_, ?_, ?_, ?_, ?_, ?_, ?_, ?_⟩
  · exact ee
  · rw [nn _ (by omega)]; exact p2
  · rw [nn _ (by omega)]; exact p3
  · rw [nn _ (by omega)]; exact p4
  · rw [nn _ (by omega)]; simp only [cProj, cCal, cCrew, cTask, cLink, su_f (S := S) (f := 13) (i := 0) (j := 0) (f' := 18) (v := v) (by decide)]; exact p5
  · rw [nn _ (by omega)]; simp only [cProj, cCal, cCrew, cTask, cLink, su_f (S := S) (f := 13) (i := 0) (j := 0) (f' := 16) (v := v) (by decide)]; exact p6
  · rw [nn _ (by omega)]; simp only [cProj, cCal, cCrew, cTask, cLink, su_f (S := S) (f := 13) (i := 0) (j := 0) (f' := 17) (v := v) (by decide)]; exact p7
  · intro c hc; rw [nn _ (by omega)]; simp only [cProj, cCal, cCrew, cTask, cLink, su_f (S := S) (f := 13) (i := 0) (j := 0) (f' := 0) (v := v) (by decide), su_f (S := S) (f := 13) (i := 0) (j := 0) (f' := 1) (v := v) (by decide)]; exact p8 c hc
  · intro c hc; rw [nn _ (by omega)]; simp only [cProj, cCal, cCrew, cTask, cLink, su_f (S := S) (f := 13) (i := 0) (j := 0) (f' := 2) (v := v) (by decide)]; exact p9 c hc
  · intro c hc; rw [nn _ (by omega)]; simp only [cProj, cCal, cCrew, cTask, cLink, su_f (S := S) (f := 13) (i := 0) (j := 0) (f' := 3) (v := v) (by decide), su_f (S := S) (f := 13) (i := 0) (j := 0) (f' := 4) (v := v) (by decide)]; exact p10 c hc
  · intro c hc; rw [nn _ (by omega)]; simp only [cProj, cCal, cCrew, cTask, cLink, su_f (S := S) (f := 13) (i := 0) (j := 0) (f' := 5) (v := v) (by decide), su_f (S := S) (f := 13) (i := 0) (j := 0) (f' := 6) (v := v) (by decide), su_f (S := S) (f := 13) (i := 0) (j := 0) (f' := 7) (v := v) (by decide), su_f (S := S) (f := 13) (i := 0) (j := 0) (f' := 8) (v := v) (by decide), su_f (S := S) (f := 13) (i := 0) (j := 0) (f' := 9) (v := v) (by decide), su_f (S := S) (f := 13) (i := 0) (j := 0) (f' := 10) (v := v) (by decide), su_f (S := S) (f := 13) (i := 0) (j := 0) (f' := 11) (v := v) (by decide)]; exact p11 c hc
  · intro c hc; rw [nn _ (by omega)]; simp only [cProj, cCal, cCrew, cTask, cLink, su_f (S := S) (f := 13) (i := 0) (j := 0) (f' := 12) (v := v) (by decide)]; exact p12 c hc
  · intro c hc; rw [nn _ (by omega)]; simp only [cProj, cCal, cCrew, cTask, cLink, su_f (S := S) (f := 13) (i := 0) (j := 0) (f' := 19) (v := v) (by decide), su_f (S := S) (f := 13) (i := 0) (j := 0) (f' := 20) (v := v) (by decide), su_f (S := S) (f := 13) (i := 0) (j := 0) (f' := 21) (v := v) (by decide), su_f (S := S) (f := 13) (i := 0) (j := 0) (f' := 22) (v := v) (by decide)]; exact p13 c hc
theorem HP_14 {v : Int} (H : HP G S h) (e : h1 = hup h (cB G + 1) (cProj (cB G) (su S 14 0 0 v))) : HP G (su S 14 0 0 v) h1 := by
  obtain ⟨p1, p2, p3, p4, p5, p6, p7, p8, p9, p10, p11, p12, p13⟩ := H
  have nn : ∀ q, q ≠ cB G + 1 → h1 q = h q := fun q hq => hup_at e hq
  have ee : h1 (cB G + 1) = some (cProj (cB G) (su S 14 0 0 v)) := by rw [e]; exact hup_self _ _ _
  refine ⟨?_, ?_, ?_, ?_, ?_, ?_, ?_, ?_, ?_, ?_, ?_, ?_, ?_⟩
  · exact ee
  · rw [nn _ (by omega)]; exact p2
  · rw [nn _ (by omega)]; exact p3
  · rw [nn _ (by omega)]; exact p4
  · rw [nn _ (by omega)]; simp only [cProj, cCal, cCrew, cTask, cLink, su_f (S := S) (f := 14) (i := 0) (j := 0) (f' := 18) (v := v) (by decide)]; exact p5
  · rw [nn _ (by omega)]; simp only [cProj, cCal, cCrew, cTask, cLink, su_f (S := S) (f := 14) (i := 0) (j := 0) (f' := 16) (v := v) (by decide)]; exact p6
  · rw [nn _ (by omega)]; simp only [cProj, cCal, cCrew, cTask, cLink, su_f (S := S) (f := 14) (i := 0) (j := 0) (f' := 17) (v := v) (by decide)]; exact p7
  · intro c hc; rw [nn _ (by omega)]; simp only [cProj, cCal, cCrew, cTask, cLink, su_f (S := S) (f := 14) (i := 0) (j := 0) (f' := 0) (v := v) (by decide), su_f (S := S) (f := 14) (i := 0) (j := 0) (f' := 1) (v := v) (by decide)]; exact p8 c hc
  · intro c hc; rw [nn _ (by omega)]; simp only [cProj, cCal, cCrew, cTask, cLink, su_f (S := S) (f := 14) (i := 0) (j := 0) (f' := 2) (v := v) (by decide)]; exact p9 c hc
  · intro c hc; rw [nn _ (by omega)]; simp only [cProj, cCal, cCrew, cTask, cLink, su_f (S := S) (f := 14) (i := 0) (j := 0) (f' := 3) (v := v) (by decide), su_f (S := S) (f := 14) (i := 0) (j := 0) (f' := 4) (v := v) (by decide)]; exact p10 c hc
  · intro c hc; rw [nn _ (by omega)]; simp only [cProj, cCal, cCrew, cTask, cLink, su_f (S := S) (f := 14) (i := 0) (j := 0) (f' := 5) (v := v) (by decide), su_f (S := S) (f := 14) (i := 0) (j := 0) (f' := 6) (v := v) (by decide), su_f (S := S) (f := 14) (i := 0) (j := 0) (f' := 7) (v := v) (by decide), su_f (S := S) (f := 14) (i := 0) (j := 0) (f' := 8) (v := v) (by decide), su_f (S := S) (f := 14) (i := 0) (j := 0) (f' := 9) (v := v) (by decide), su_f (S := S) (f := 14) (i := 0) (j := 0) (f' := 10) (v := v) (by decide), su_f (S := S) (f := 14) (i := 0) (j := 0) (f' := 11) (v := v) (by decide)]; exact p11 c hc
  · intro c hc; rw [nn _ (by omega)]; simp only [cProj, cCal, cCrew, cTask, cLink, su_f (S := S) (f := 14) (i := 0) (j := 0) (f' := 12) (v := v) (by decide)]; exact p12 c hc
  · intro c hc; rw [nn _ (by omega)]; simp only [cProj, cCal, cCrew, cTask, cLink, su_f (S := S) (f := 14) (i := 0) (j := 0) (f' := 19) (v := v) (by decide), su_f (S := S) (f := 14) (i := 0) (j := 0) (f' := 20) (v := v) (by decide), su_f (S := S) (f := 14) (i := 0) (j := 0) (f' := 21) (v := v) (by decide), su_f (S := S) (f := 14) (i := 0) (j := 0) (f' := 22) (v := v) (by decide)]; exact p13 c hc
theorem HP_15 {v : Int} (H : HP G S h) (e : h1 = hup h (cB G + 1) (cProj (cB G) (su S 15 0 0 v))) : HP G (su S 15 0 0 v) h1 := by
  obtain ⟨p1, p2, p3, p4, p5, p6, p7, p8, p9, p10, p11, p12, p13⟩ := H
  have nn : ∀ q, q ≠ cB G + 1 → h1 q = h q := fun q hq => hup_at e hq
  have ee : h1 (cB G + 1) = some (cProj (cB G) (su S 15 0 0 v)) := by rw [e]; exact hup_self _ _ _
  refine ⟨?_, ?_, ?_, ?_, ?_, ?_, ?_, ?_, ?_, ?_, ?_, ?_, ?_⟩
  · exact ee
  · rw [nn _ (by omega)]; exact p2
  · rw [nn _ (by omega)]; exact p3
  · rw [nn _ (by omega)]; exact p4
  · rw [nn _ (by omega)]; simp only [cProj, cCal, cCrew, cTask, cLink, su_f (S := S) (f := 15) (i := 0) (j := 0) (f' := 18) (v := v) (by decide)]; exact p5
  · rw [nn _ (by omega)]; simp only [cProj, cCal, cCrew, cTask, cLink, su_f (S := S) (f := 15) (i := 0) (j := 0) (f' := 16) (v := v) (by decide)]; exact p6
  · rw [nn _ (by omega)]; simp only [cProj, cCal, cCrew, cTask, cLink, su_f (S := S) (f := 15) (i := 0) (j := 0) (f' := 17) (v := v) (by decide)]; exact p7
  · intro c hc; rw [nn _ (by omega)]; simp only [cProj, cCal, cCrew, cTask, cLink, su_f (S := S) (f := 15) (i := 0) (j := 0) (f' := 0) (v := v) (by decide), su_f (S := S) (f := 15) (i := 0) (j := 0) (f' := 1) (v := v) (by decide)]; exact p8 c hc
  · intro c hc; rw [nn _ (by omega)]; simp only [cProj, cCal, cCrew, cTask, cLink, su_f (S := S) (f := 15) (i := 0) (j := 0) (f' := 2) (v := v) (by decide)]; exact p9 c hc
  · intro c hc; rw [nn _ (by omega)]; simp only [cProj, cCal, cCrew, cTask, cLink, su_f (S := S) (f := 15) (i := 0) (j := 0) (f' := 3) (v := v) (by decide), su_f (S := S) (f := 15) (i := 0) (j := 0) (f' := 4) (v := v) (by decide)]; exact p10 c hc
  · intro c hc; rw [nn _ (by omega)]; simp only [cProj, cCal, cCrew, cTask, cLink, su_f (S := S) (f := 15) (i := 0) (j := 0) (f' := 5) (v := v) (by decide), su_f (S := S) (f := 15) (i := 0) (j := 0) (f' := 6) (v := v) (by decide), su_f (S := S) (f := 15) (i := 0) (j := 0) (f' := 7) (v := v) (by decide), su_f (S := S) (f := 15) (i := 0) (j := 0) (f' := 8) (v := v) (by decide), su_f (S := S) (f := 15) (i := 0) (j := 0) (f' := 9) (v := v) (by decide), su_f (S := S) (f := 15) (i := 0) (j := 0) (f' := 10) (v := v) (by decide), su_f (S := S) (f := 15) (i := 0) (j := 0) (f' := 11) (v := v) (by decide)]; exact p11 c hc
  · intro c hc; rw [nn _ (by omega)]; simp only [cProj, cCal, cCrew, cTask, cLink, su_f (S := S) (f := 15) (i := 0) (j := 0) (f' := 12) (v := v) (by decide)]; exact p12 c hc
  · intro c hc; rw [nn _ (by omega)]; simp only [cProj, cCal, cCrew, cTask, cLink, su_f (S := S) (f := 15) (i := 0) (j := 0) (f' := 19) (v := v) (by decide), su_f (S := S) (f := 15) (i := 0) (j := 0) (f' := 20) (v := v) (by decide), su_f (S := S) (f := 15) (i := 0) (j := 0) (f' := 21) (v := v) (by decide), su_f (S := S) (f := 15) (i := 0) (j := 0) (f' := 22) (v := v) (by decide)]; exact p13 c hc
theorem HP_16 {i : Nat} {v : Int} (H : HP G S h) (e : h1 = hup h (cB G + 6) (eI G 24 (fup (fun i => S 16 i 0) i v))) : HP G (su S 16 i 0 v) h1 := by
  obtain ⟨p1, p2, p3, p4, p5, p6, p7, p8, p9, p10, p11, p12, p13⟩ := H
  have nn : ∀ q, q ≠ cB G + 6 → h1 q = h q := fun q hq => hup_at e hq
  have ee : h1 (cB G + 6) = some (eI G 24 (fup (fun i => S 16 i 0) i v)) := by rw [e]; exact hup_self _ _ _
  refine ⟨?_, ?_, ?_, ?_, ?_, ?_, ?_, ?_, ?_, ?_, ?_, ?_, ?_⟩
  · rw [nn _ (by omega)]; simp only [cProj, cCal, cCrew, cTask, cLink, su_f (S := S) (f := 16) (i := i) (j := 0) (f' := 13) (v := v) (by decide), su_f (S := S) (f := 16) (i := i) (j := 0) (f' := 14) (v := v) (by decide), su_f (S := S) (f := 16) (i := i) (j := 0) (f' := 15) (v := v) (by decide)]; exact p1
  · rw [nn _ (by omega)]; exact p2
  · rw [nn _ (by omega)]; exact p3
  · rw [nn _ (by omega)]; exact p4
  · rw [nn _ (by omega)]; simp only [cProj, cCal, cCrew, cTask, cLink, su_f (S := S) (f := 16) (i := i) (j := 0) (f' := 18) (v := v) (by decide)]; exact p5
  · rw [ee, su_fup]
  · rw [nn _ (by omega)]; simp only [cProj, cCal, cCrew, cTask, cLink, su_f (S := S) (f := 16) (i := i) (j := 0) (f' := 17) (v := v) (by decide)]; exact p7
  · intro c hc; rw [nn _ (by omega)]; simp only [cProj, cCal, cCrew, cTask, cLink, su_f (S := S) (f := 16) (i := i) (j := 0) (f' := 0) (v := v) (by decide), su_f (S := S) (f := 16) (i := i) (j := 0) (f' := 1) (v := v) (by decide)]; exact p8 c hc
  · intro c hc; rw [nn _ (by omega)]; simp only [cProj, cCal, cCrew, cTask, cLink, su_f (S := S) (f := 16) (i := i) (j := 0) (f' := 2) (v := v) (by decide)]; exact p9 c hc
  · intro c hc; rw [nn _ (by omega)]; simp only [cProj, cCal, cCrew, cTask, cLink, su_f (S := S) (f := 16) (i := i) (j := 0) (f' := 3) (v := v) (by decide), su_f (S := S) (f := 16) (i := i) (j := 0) (f' := 4) (v := v) (by decide)]; exact p10 c hc
  · intro c hc; rw [nn _ (by omega)]; simp only [cProj, cCal, cCrew, cTask, cLink, su_f (S := S) (f := 16) (i := i) (j := 0) (f' := 5) (v := v) (by decide), su_f (S := S) (f := 16) (i := i) (j := 0) (f' := 6) (v := v) (by decide), su_f (S := S) (f := 16) (i := i) (j := 0) (f' := 7) (v := v) (by decide), su_f (S := S) (f := 16) (i := i) (j := 0) (f' := 8) (v := v) (by decide), su_f (S := S) (f := 16) (i := i) (j := 0) (f' := 9) (v := v) (by decide), su_f (S := S) (f := 16) (i := i) (j := 0) (f' := 10) (v := v) (by decide), su_f (S := S) (f := 16) (i := i) (j := 0) (f' := 11) (v := v) (by decide)]; exact p11 c hc
  · intro c hc; rw [nn _ (by omega)]; simp only [cProj, cCal, cCrew, cTask, cLink, su_f (S := S) (f := 16) (i := i) (j := 0) (f' := 12) (v := v) (by decide)]; exact p12 c hc
  · intro c hc; rw [nn _ (by omega)]; simp only [cProj, cCal, cCrew, cTask, cLink, su_f (S := S) (f := 16) (i := i) (j := 0) (f' := 19) (v := v) (by decide), su_f (S := S) (f := 16) (i := i) (j := 0) (f' := 20) (v := v) (by decide), su_f (S := S) (f := 16) (i := i) (j := 0) (f' := 21) (v := v) (by decide), su_f (S := S) (f := 16) (i := i) (j := 0) (f' := 22) (v := v) (by decide)]; exact p13 c hc
theorem HP_17 {i : Nat} {v : Int} (H : HP G S h) (e : h1 = hup h (cB G + 7) (eZ G 24 (fup (fun i => S 17 i 0) i v))) : HP G (su S 17 i 0 v) h1 := by
  obtain ⟨p1, p2, p3, p4, p5, p6, p7, p8, p9, p10, p11, p12, p13⟩ := H
  have nn : ∀ q, q ≠ cB G + 7 → h1 q = h q := fun q hq => hup_at e hq
  have ee : h1 (cB G + 7) = some (eZ G 24 (fup (fun i => S 17 i 0) i v)) := by rw [e]; exact hup_self _ _ _
  refine ⟨?_, ?_, ?_, ?_, ?_, ?_, ?_, ?_, ?_, ?_, ?_, ?_, ?_⟩
  · rw [nn _ (by omega)]; simp only [cProj, cCal, cCrew, cTask, cLink, su_f (S := S) (f := 17) (i := i) (j := 0) (f' := 13) (v := v) (by decide), su_f (S := S) (f := 17) (i := i) (j := 0) (f' := 14) (v := v) (by decide), su_f (S := S) (f := 17) (i := i) (j := 0) (f' := 15) (v := v) (by decide)]; exact p1
  · rw [nn _ (by omega)]; exact p2
  · rw [nn _ (by omega)]; exact p3
  · rw [nn _ (by omega)]; exact p4
  · rw [nn _ (by omega)]; simp only [cProj, cCal, cCrew, cTask, cLink, su_f (S := S) (f := 17) (i := i) (j := 0) (f' := 18) (v := v) (by decide)]; exact p5
  · rw [nn _ (by omega)]; simp only [cProj, cCal, cCrew, cTask, cLink, su_f (S := S) (f := 17) (i := i) (j := 0) (f' := 16) (v := v) (by decide)]; exact p6
  · rw [ee, su_fup]
  · intro c hc; rw [nn _ (by omega)]; simp only [cProj, cCal, cCrew, cTask, cLink, su_f (S := S) (f := 17) (i := i) (j := 0) (f' := 0) (v := v) (by decide), su_f (S := S) (f := 17) (i := i) (j := 0) (f' := 1) (v := v) (by decide)]; exact p8 c hc
  · intro c hc; rw [nn _ (by omega)]; simp only [cProj, cCal, cCrew, cTask, cLink, su_f (S := S) (f := 17) (i := i) (j := 0) (f' := 2) (v := v) (by decide)]; exact p9 c hc
  · intro c hc; rw [nn _ (by omega)]; simp only [cProj, cCal, cCrew, cTask, cLink, su_f (S := S) (f := 17) (i := i) (j := 0) (f' := 3) (v := v) (by decide), su_f (S := S) (f := 17) (i := i) (j := 0) (f' := 4) (v := v) (by decide)]; exact p10 c hc
  · intro c hc; rw [nn _ (by omega)]; simp only [cProj, cCal, cCrew, cTask, cLink, su_f (S := S) (f := 17) (i := i) (j := 0) (f' := 5) (v := v) (by decide), su_f (S := S) (f := 17) (i := i) (j := 0) (f' := 6) (v := v) (by decide), su_f (S := S) (f := 17) (i := i) (j := 0) (f' := 7) (v := v) (by decide), su_f (S := S) (f := 17) (i := i) (j := 0) (f' := 8) (v := v) (by decide), su_f (S := S) (f := 17) (i := i) (j := 0) (f' := 9) (v := v) (by decide), su_f (S := S) (f := 17) (i := i) (j := 0) (f' := 10) (v := v) (by decide), su_f (S := S) (f := 17) (i := i) (j := 0) (f' := 11) (v := v) (by decide)]; exact p11 c hc
  · intro c hc; rw [nn _ (by omega)]; simp only [cProj, cCal, cCrew, cTask, cLink, su_f (S := S) (f := 17) (i := i) (j := 0) (f' := 12) (v := v) (by decide)]; exact p12 c hc
  · intro c hc; rw [nn _ (by omega)]; simp only [cProj, cCal, cCrew, cTask, cLink, su_f (S := S) (f := 17) (i := i) (j := 0) (f' := 19) (v := v) (by decide), su_f (S := S) (f := 17) (i := i) (j := 0) (f' := 20) (v := v) (by decide), su_f (S := S) (f := 17) (i := i) (j := 0) (f' := 21) (v := v) (by decide), su_f (S := S) (f := 17) (i := i) (j := 0) (f' := 22) (v := v) (by decide)]; exact p13 c hc
theorem HP_18 {i : Nat} {v : Int} (H : HP G S h) (e : h1 = hup h (cB G + 5) (eQ G 8 40 (oLinks (cB G) (fup (fun i => S 18 i 0) i v)))) : HP G (su S 18 i 0 v) h1 := by
  obtain ⟨p1, p2, p3, p4, p5, p6, p7, p8, p9, p10, p11, p12, p13⟩ := H
  have nn : ∀ q, q ≠ cB G + 5 → h1 q = h q := fun q hq => hup_at e hq
  have ee : h1 (cB G + 5) = some (eQ G 8 40 (oLinks (cB G) (fup (fun i => S 18 i 0) i v))) := by rw [e]; exact hup_self _ _ _
  refine ⟨?_, ?_, ?_, ?_, ?_, ?_, ?_, ?_, ?_, ?_, ?_, ?_, ?_⟩
  · rw [nn _ (by omega)]; simp only [cProj, cCal, cCrew, cTask, cLink, su_f (S := S) (f := 18) (i := i) (j := 0) (f' := 13) (v := v) (by decide), su_f (S := S) (f := 18) (i := i) (j := 0) (f' := 14) (v := v) (by decide), su_f (S := S) (f := 18) (i := i) (j := 0) (f' := 15) (v := v) (by decide)]; exact p1
  · rw [nn _ (by omega)]; exact p2
  · rw [nn _ (by omega)]; exact p3
  · rw [nn _ (by omega)]; exact p4
  · rw [ee, su_fup]
  · rw [nn _ (by omega)]; simp only [cProj, cCal, cCrew, cTask, cLink, su_f (S := S) (f := 18) (i := i) (j := 0) (f' := 16) (v := v) (by decide)]; exact p6
  · rw [nn _ (by omega)]; simp only [cProj, cCal, cCrew, cTask, cLink, su_f (S := S) (f := 18) (i := i) (j := 0) (f' := 17) (v := v) (by decide)]; exact p7
  · intro c hc; rw [nn _ (by omega)]; simp only [cProj, cCal, cCrew, cTask, cLink, su_f (S := S) (f := 18) (i := i) (j := 0) (f' := 0) (v := v) (by decide), su_f (S := S) (f := 18) (i := i) (j := 0) (f' := 1) (v := v) (by decide)]; exact p8 c hc
  · intro c hc; rw [nn _ (by omega)]; simp only [cProj, cCal, cCrew, cTask, cLink, su_f (S := S) (f := 18) (i := i) (j := 0) (f' := 2) (v := v) (by decide)]; exact p9 c hc
  · intro c hc; rw [nn _ (by omega)]; simp only [cProj, cCal, cCrew, cTask, cLink, su_f (S := S) (f := 18) (i := i) (j := 0) (f' := 3) (v := v) (by decide), su_f (S := S) (f := 18) (i := i) (j := 0) (f' := 4) (v := v) (by decide)]; exact p10 c hc
  · intro c hc; rw [nn _ (by omega)]; simp only [cProj, cCal, cCrew, cTask, cLink, su_f (S := S) (f := 18) (i := i) (j := 0) (f' := 5) (v := v) (by decide), su_f (S := S) (f := 18) (i := i) (j := 0) (f' := 6) (v := v) (by decide), su_f (S := S) (f := 18) (i := i) (j := 0) (f' := 7) (v := v) (by decide), su_f (S := S) (f := 18) (i := i) (j := 0) (f' := 8) (v := v) (by decide), su_f (S := S) (f := 18) (i := i) (j := 0) (f' := 9) (v := v) (by decide), su_f (S := S) (f := 18) (i := i) (j := 0) (f' := 10) (v := v) (by decide), su_f (S := S) (f := 18) (i := i) (j := 0) (f' := 11) (v := v) (by decide)]; exact p11 c hc
  · intro c hc; rw [nn _ (by omega)]; simp only [cProj, cCal, cCrew, cTask, cLink, su_f (S := S) (f := 18) (i := i) (j := 0) (f' := 12) (v := v) (by decide)]; exact p12 c hc
  · intro c hc; rw [nn _ (by omega)]; simp only [cProj, cCal, cCrew, cTask, cLink, su_f (S := S) (f := 18) (i := i) (j := 0) (f' := 19) (v := v) (by decide), su_f (S := S) (f := 18) (i := i) (j := 0) (f' := 20) (v := v) (by decide), su_f (S := S) (f := 18) (i := i) (j := 0) (f' := 21) (v := v) (by decide), su_f (S := S) (f := 18) (i := i) (j := 0) (f' := 22) (v := v) (by decide)]; exact p13 c hc
theorem HP_19 {i : Nat} {v : Int} (hi : i < 40) (H : HP G S h) (e : h1 = hup h (cB G + 68 + i) (cLink (su S 19 i 0 v) i)) : HP G (su S 19 i 0 v) h1 := by
  obtain ⟨p1, p2, p3, p4, p5, p6, p7, p8, p9, p10, p11, p12, p13⟩ := H
  have nn : ∀ q, q ≠ cB G + 68 + i → h1 q = h q := fun q hq => hup_at e hq
  have ee : h1 (cB G + 68 + i) = some (cLink (su S 19 i 0 v) i) := by rw [e]; exact hup_self _ _ _
  refine ⟨?_, ?_, ?_, ?_, ?_, ?_, ?_, ?_, ?_, ?_, ?_, ?_, ?_⟩
  · rw [nn _ (by omega)]; simp only [cProj, cCal, cCrew, cTask, cLink, su_f (S := S) (f := 19) (i := i) (j := 0) (f' := 13) (v := v) (by decide), su_f (S := S) (f := 19) (i := i) (j := 0) (f' := 14) (v := v) (by decide), su_f (S := S) (f := 19) (i := i) (j := 0) (f' := 15) (v := v) (by decide)]; exact p1
  · rw [nn _ (by omega)]; exact p2
  · rw [nn _ (by omega)]; exact p3
  · rw [nn _ (by omega)]; exact p4
  · rw [nn _ (by omega)]; simp only [cProj, cCal, cCrew, cTask, cLink, su_f (S := S) (f := 19) (i := i) (j := 0) (f' := 18) (v := v) (by decide)]; exact p5
  · rw [nn _ (by omega)]; simp only [cProj, cCal, cCrew, cTask, cLink, su_f (S := S) (f := 19) (i := i) (j := 0) (f' := 16) (v := v) (by decide)]; exact p6
  · rw [nn _ (by omega)]; simp only [cProj, cCal, cCrew, cTask, cLink, su_f (S := S) (f := 19) (i := i) (j := 0) (f' := 17) (v := v) (by decide)]; exact p7
  · intro c hc; rw [nn _ (by omega)]; simp only [cProj, cCal, cCrew, cTask, cLink, su_f (S := S) (f := 19) (i := i) (j := 0) (f' := 0) (v := v) (by decide), su_f (S := S) (f := 19) (i := i) (j := 0) (f' := 1) (v := v) (by decide)]; exact p8 c hc
  · intro c hc; rw [nn _ (by omega)]; simp only [cProj, cCal, cCrew, cTask, cLink, su_f (S := S) (f := 19) (i := i) (j := 0) (f' := 2) (v := v) (by decide)]; exact p9 c hc
  · intro c hc; rw [nn _ (by omega)]; simp only [cProj, cCal, cCrew, cTask, cLink, su_f (S := S) (f := 19) (i := i) (j := 0) (f' := 3) (v := v) (by decide), su_f (S := S) (f := 19) (i := i) (j := 0) (f' := 4) (v := v) (by decide)]; exact p10 c hc
  · intro c hc; rw [nn _ (by omega)]; simp only [cProj, cCal, cCrew, cTask, cLink, su_f (S := S) (f := 19) (i := i) (j := 0) (f' := 5) (v := v) (by decide), su_f (S := S) (f := 19) (i := i) (j := 0) (f' := 6) (v := v) (by decide), su_f (S := S) (f := 19) (i := i) (j := 0) (f' := 7) (v := v) (by decide), su_f (S := S) (f := 19) (i := i) (j := 0) (f' := 8) (v := v) (by decide), su_f (S := S) (f := 19) (i := i) (j := 0) (f' := 9) (v := v) (by decide), su_f (S := S) (f := 19) (i := i) (j := 0) (f' := 10) (v := v) (by decide), su_f (S := S) (f := 19) (i := i) (j := 0) (f' := 11) (v := v) (by decide)]; exact p11 c hc
  · intro c hc; rw [nn _ (by omega)]; simp only [cProj, cCal, cCrew, cTask, cLink, su_f (S := S) (f := 19) (i := i) (j := 0) (f' := 12) (v := v) (by decide)]; exact p12 c hc
  · intro c hc
    by_cases hci : c = i
    · subst hci; exact ee
    · rw [nn _ (by omega)]; simp only [cProj, cCal, cCrew, cTask, cLink, su_i hci]; exact p13 c hc
theorem HP_20 {i : Nat} {v : Int} (hi : i < 40) (H : HP G S h) (e : h1 = hup h (cB G + 68 + i) (cLink (su S 20 i 0 v) i)) : HP G (su S 20 i 0 v) h1 := by
  obtain ⟨p1, p2, p3, p4, p5, p6, p7, p8, p9, p10, p11, p12, p13⟩ := H
  have nn : ∀ q, q ≠ cB G + 68 + i → h1 q = h q := fun q hq => hup_at e hq
  have ee : h1 (cB G + 68 + i) = some (cLink (su S 20 i 0 v) i) := by rw [e]; exact hup_self _ _ _
  refine ⟨?_, ?_, ?_, ?_, ?_, ?_, ?_, ?_, ?_, ?_, ?_, ?_, ?_⟩
  · rw [nn _ (by omega)]; simp only [cProj, cCal, cCrew, cTask, cLink, su_f (S := S) (f := 20) (i := i) (j := 0) (f' := 13) (v := v) (by decide), su_f (S := S) (f := 20) (i := i) (j := 0) (f' := 14) (v := v) (by decide), su_f (S := S) (f := 20) (i := i) (j := 0) (f' := 15) (v := v) (by decide)]; exact p1
  · rw [nn _ (by omega)]; exact p2
  · rw [nn _ (by omega)]; exact p3
  · rw [nn _ (by omega)]; exact p4
  · rw [nn _ (by omega)]; simp only [cProj, cCal, cCrew, cTask, cLink, su_f (S := S) (f := 20) (i := i) (j := 0) (f' := 18) (v := v) (by decide)]; exact p5
  · rw [nn _ (by omega)]; simp only [cProj, cCal, cCrew, cTask, cLink, su_f (S := S) (f := 20) (i := i) (j := 0) (f' := 16) (v := v) (by decide)]; exact p6
  · rw [nn _ (by omega)]; simp only [cProj, cCal, cCrew, cTask, cLink, su_f (S := S) (f := 20) (i := i) (j := 0) (f' := 17) (v := v) (by decide)]; exact p7
  · intro c hc; rw [nn _ (by omega)]; simp only [cProj, cCal, cCrew, cTask, cLink, su_f (S := S) (f := 20) (i := i) (j := 0) (f' := 0) (v := v) (by decide), su_f (S := S) (f := 20) (i := i) (j := 0) (f' := 1) (v := v) (by decide)]; exact p8 c hc
  · intro c hc; rw [nn _ (by omega)]; simp only [cProj, cCal, cCrew, cTask, cLink, su_f (S := S) (f := 20) (i := i) (j := 0) (f' := 2) (v := v) (by decide)]; exact p9 c hc
  · intro c hc; rw [nn _ (by omega)]; simp only [cProj, cCal, cCrew, cTask, cLink, su_f (S := S) (f := 20) (i := i) (j := 0) (f' := 3) (v := v) (by decide), su_f (S := S) (f := 20) (i := i) (j := 0) (f' := 4) (v := v) (by decide)]; exact p10 c hc
  · intro c hc; rw [nn _ (by omega)]; simp only [cProj, cCal, cCrew, cTask, cLink, su_f (S := S) (f := 20) (i := i) (j := 0) (f' := 5) (v := v) (by decide), su_f (S := S) (f := 20) (i := i) (j := 0) (f' := 6) (v := v) (by decide), su_f (S := S) (f := 20) (i := i) (j := 0) (f' := 7) (v := v) (by decide), su_f (S := S) (f := 20) (i := i) (j := 0) (f' := 8) (v := v) (by decide), su_f (S := S) (f := 20) (i := i) (j := 0) (f' := 9) (v := v) (by decide), su_f (S := S) (f := 20) (i := i) (j := 0) (f' := 10) (v := v) (by decide), su_f (S := S) (f := 20) (i := i) (j := 0) (f' := 11) (v := v) (by decide)]; exact p11 c hc
  · intro c hc; rw [nn _ (by omega)]; simp only [cProj, cCal, cCrew, cTask, cLink, su_f (S := S) (f := 20) (i := i) (j := 0) (f' := 12) (v := v) (by decide)]; exact p12 c hc
  · intro c hc
    by_cases hci : c = i
    · subst hci; exact ee
    · rw [nn _ (by omega)]; simp only [cProj, cCal, cCrew, cTask, cLink, su_i hci]; exact p13 c hc
theorem HP_21 {i : Nat} {v : Int} (hi : i < 40) (H : HP G S h) (e : h1 = hup h (cB G + 68 + i) (cLink (su S 21 i 0 v) i)) : HP G (su S 21 i 0 v) h1 := by
  obtain ⟨p1, p2, p3, p4, p5, p6, p7, p8, p9, p10, p11, p12, p13⟩ := H
  have nn : ∀ q, q ≠ cB G + 68 + i → h1 q = h q := fun q hq => hup_at e hq
  have ee : h1 (cB G + 68 + i) = some (cLink (su S 21 i 0 v) i) := by rw [e]; exact hup_self _ _ _
  refine ⟨?_, ?_, ?_, ?_, ?_, ?_, ?_, ?_, ?_, ?_, ?_, ?_, ?_⟩
  · rw [nn _ (by omega)]; simp only [cProj, cCal, cCrew, cTask, cLink, su_f (S := S) (f := 21) (i := i) (j := 0) (f' := 13) (v := v) (by decide), su_f (S := S) (f := 21) (i := i) (j := 0) (f' := 14) (v := v) (by decide), su_f (S := S) (f := 21) (i := i) (j := 0) (f' := 15) (v := v) (by decide)]; exact p1
  · rw [nn _ (by omega)]; exact p2
  · rw [nn _ (by omega)]; exact p3
  · rw [nn _ (by omega)]; exact p4
  · rw [nn _ (by omega)]; simp only [cProj, cCal, cCrew, cTask, cLink, su_f (S := S) (f := 21) (i := i) (j := 0) (f' := 18) (v := v) (by decide)]; exact p5
  · rw [nn _ (by omega)]; simp only [cProj, cCal, cCrew, cTask, cLink, su_f (S := S) (f := 21) (i := i) (j := 0) (f' := 16) (v := v) (by decide)]; exact p6
  · rw [nn _ (by omega)]; simp only [cProj, cCal, cCrew, cTask, cLink, su_f (S := S) (f := 21) (i := i) (j := 0) (f' := 17) (v := v) (by decide)]; exact p7
  · intro c hc; rw [nn _ (by omega)]; simp only [cProj, cCal, cCrew, cTask, cLink, su_f (S := S) (f := 21) (i := i) (j := 0) (f' := 0) (v := v) (by decide), su_f (S := S) (f := 21) (i := i) (j := 0) (f' := 1) (v := v) (by decide)]; exact p8 c hc
  · intro c hc; rw [nn _ (by omega)]; simp only [cProj, cCal, cCrew, cTask, cLink, su_f (S := S) (f := 21) (i := i) (j := 0) (f' := 2) (v := v) (by decide)]; exact p9 c hc
  · intro c hc; rw [nn _ (by omega)]; simp only [cProj, cCal, cCrew, cTask, cLink, su_f (S := S) (f := 21) (i := i) (j := 0) (f' := 3) (v := v) (by decide), su_f (S := S) (f := 21) (i := i) (j := 0) (f' := 4) (v := v) (by decide)]; exact p10 c hc
  · intro c hc; rw [nn _ (by omega)]; simp only [cProj, cCal, cCrew, cTask, cLink, su_f (S := S) (f := 21) (i := i) (j := 0) (f' := 5) (v := v) (by decide), su_f (S := S) (f := 21) (i := i) (j := 0) (f' := 6) (v := v) (by decide), su_f (S := S) (f := 21) (i := i) (j := 0) (f' := 7) (v := v) (by decide), su_f (S := S) (f := 21) (i := i) (j := 0) (f' := 8) (v := v) (by decide), su_f (S := S) (f := 21) (i := i) (j := 0) (f' := 9) (v := v) (by decide), su_f (S := S) (f := 21) (i := i) (j := 0) (f' := 10) (v := v) (by decide), su_f (S := S) (f := 21) (i := i) (j := 0) (f' := 11) (v := v) (by decide)]; exact p11 c hc
  · intro c hc; rw [nn _ (by omega)]; simp only [cProj, cCal, cCrew, cTask, cLink, su_f (S := S) (f := 21) (i := i) (j := 0) (f' := 12) (v := v) (by decide)]; exact p12 c hc
  · intro c hc
    by_cases hci : c = i
    · subst hci; exact ee
    · rw [nn _ (by omega)]; simp only [cProj, cCal, cCrew, cTask, cLink, su_i hci]; exact p13 c hc
theorem HP_22 {i : Nat} {v : Int} (hi : i < 40) (H : HP G S h) (e : h1 = hup h (cB G + 68 + i) (cLink (su S 22 i 0 v) i)) : HP G (su S 22 i 0 v) h1 := by
  obtain ⟨p1, p2, p3, p4, p5, p6, p7, p8, p9, p10, p11, p12, p13⟩ := H
  have nn : ∀ q, q ≠ cB G + 68 + i → h1 q = h q := fun q hq => hup_at e hq
  have ee : h1 (cB G + 68 + i) = some (cLink (su S 22 i 0 v) i) := by rw [e]; exact hup_self _ _ _
  refine ⟨?_, ?_, ?_, ?_, ?_, ?_, ?_, ?_, ?_, ?_, ?_, ?_, ?_⟩
  · rw [nn _ (by omega)]; simp only [cProj, cCal, cCrew, cTask, cLink, su_f (S := S) (f := 22) (i := i) (j := 0) (f' := 13) (v := v) (by decide), su_f (S := S) (f := 22) (i := i) (j := 0) (f' := 14) (v := v) (by decide), su_f (S := S) (f := 22) (i := i) (j := 0) (f' := 15) (v := v) (by decide)]; exact p1
  · rw [nn _ (by omega)]; exact p2
  · rw [nn _ (by omega)]; exact p3
  · rw [nn _ (by omega)]; exact p4
  · rw [nn _ (by omega)]; simp only [cProj, cCal, cCrew, cTask, cLink, su_f (S := S) (f := 22) (i := i) (j := 0) (f' := 18) (v := v) (by decide)]; exact p5
  · rw [nn _ (by omega)]; simp only [cProj, cCal, cCrew, cTask, cLink, su_f (S := S) (f := 22) (i := i) (j := 0) (f' := 16) (v := v) (by decide)]; exact p6
  · rw [nn _ (by omega)]; simp only [cProj, cCal, cCrew, cTask, cLink, su_f (S := S) (f := 22) (i := i) (j := 0) (f' := 17) (v := v) (by decide)]; exact p7
  · intro c hc; rw [nn _ (by omega)]; simp only [cProj, cCal, cCrew, cTask, cLink, su_f (S := S) (f := 22) (i := i) (j := 0) (f' := 0) (v := v) (by decide), su_f (S := S) (f := 22) (i := i) (j := 0) (f' := 1) (v := v) (by decide)]; exact p8 c hc
  · intro c hc; rw [nn _ (by omega)]; simp only [cProj, cCal, cCrew, cTask, cLink, su_f (S := S) (f := 22) (i := i) (j := 0) (f' := 2) (v := v) (by decide)]; exact p9 c hc
  · intro c hc; rw [nn _ (by omega)]; simp only [cProj, cCal, cCrew, cTask, cLink, su_f (S := S) (f := 22) (i := i) (j := 0) (f' := 3) (v := v) (by decide), su_f (S := S) (f := 22) (i := i) (j := 0) (f' := 4) (v := v) (by decide)]; exact p10 c hc
  · intro c hc; rw [nn _ (by omega)]; simp only [cProj, cCal, cCrew, cTask, cLink, su_f (S := S) (f := 22) (i := i) (j := 0) (f' := 5) (v := v) (by decide), su_f (S := S) (f := 22) (i := i) (j := 0) (f' := 6) (v := v) (by decide), su_f (S := S) (f := 22) (i := i) (j := 0) (f' := 7) (v := v) (by decide), su_f (S := S) (f := 22) (i := i) (j := 0) (f' := 8) (v := v) (by decide), su_f (S := S) (f := 22) (i := i) (j := 0) (f' := 9) (v := v) (by decide), su_f (S := S) (f := 22) (i := i) (j := 0) (f' := 10) (v := v) (by decide), su_f (S := S) (f := 22) (i := i) (j := 0) (f' := 11) (v := v) (by decide)]; exact p11 c hc
  · intro c hc; rw [nn _ (by omega)]; simp only [cProj, cCal, cCrew, cTask, cLink, su_f (S := S) (f := 22) (i := i) (j := 0) (f' := 12) (v := v) (by decide)]; exact p12 c hc
  · intro c hc
    by_cases hci : c = i
    · subst hci; exact ee
    · rw [nn _ (by omega)]; simp only [cProj, cCal, cCrew, cTask, cLink, su_i hci]; exact p13 c hc
end HPU

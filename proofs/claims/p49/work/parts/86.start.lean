/-! ===== the law's beginning: what the tables say of the start ===== -/
section St
theorem str_of {own tx : String} {k : Nat} {args : Array Value} {s : State} (h : (Cond.stringRef own k tx).before args s = true) : ∃ a : Nat, vk_R own k tx a s := by
  have hcur : ∃ cur, s.vm.findClass own = some cur := by
    have h1 := h
    simp only [Cond.before, Cond.holds, Cond.value] at h1
    cases hc : s.vm.findClass own with
    | none => simp [hc] at h1
    | some cur => exact ⟨cur, rfl⟩
  obtain ⟨cur, hcur⟩ := hcur
  obtain ⟨-, -, -, a, -, -, -, -, -, hev⟩ := Cond.stringRef_spec hcur h
  exact ⟨a, vk_R.of h hev⟩
theorem arr_of {ty : FieldType} {args : Array Value} {s : State} (hr : ∀ C, ty ≠ .object C) (h : (Cond.arrayClass ty).before args s = true) : ∃ (c : ClassId) (k : Class) (comp : ClassId), s.vm.classes[c]? = some k ∧ k.kind = .array comp ty ∧ s.vm.findClass ("[" ++ ty.toString) = some c ∧ ArrOfT s c ty ∧ va_RA s c ty := by
  obtain ⟨c, k, comp, f, g, e⟩ := Cond.arrayClass_spec h
  refine ⟨c, k, comp, g, e, f, fun n z => ⟨fun k h => (by cases h), k, g, comp, e⟩, ?_⟩
  cases ty with
  | object C => exact absurd rfl (hr C)
  | _ => exact f
theorem arr_ob {C : String} {args : Array Value} {s : State} (h : (Cond.arrayOver (.object C)).before args s = true) : ∃ c : ClassId, ArrOfT s c (.object C) ∧ va_RA s c (.object C) := by
  obtain ⟨comp, c, k, fc, -, g, e, f⟩ := Cond.arrayOver_spec h
  exact ⟨c, fun n z => ⟨fun k h => (by cases h), k, g, comp, e⟩, k, comp, g, e, fc, f⟩
set_option maxRecDepth 8000 in
theorem KN_start {p : Program} {s : State} {m : MethodId} {meth : Method} {c : Code} {b L : Nat} {xs : Nat → Int32} (l : Launch) (hflags : l.flags = flags0) (C0 : lw_At p s m meth c b L xs) : ∃ G : Ctx, cL G = l ∧ cB G = s.heap.size ∧ KN G s := by
  obtain ⟨hx, hb, hr, hml, hown, hts, hX, hbl, hlocks, hgv⟩ := id C0
  have hW : ∀ w ∈ AW, w.before #[Value.ref b] s = true := fun w hw => hts w (List.mem_filter.mp hw).1
  have hT : ∀ (i : Nat) (w : Cond), tables_1[i]? = some w → w.before #[Value.ref b] s = true := fun i w h => hts w (List.mem_append_right _ (List.mem_of_getElem? h))
  have hN := flat_of_before _ hgv
  obtain ⟨c0, i0, hc0⟩ := u_known (C := RX0) (T := TX0) (N := 3) (n := 3) hW ckX0.2.1 (hW _ isX0)
  obtain ⟨c1, i1, hc1⟩ := u_known (C := RX1) (T := TX1) (N := 2) (n := 2) hW ckX1.2.1 (hW _ isX1)
  obtain ⟨c2, i2, hc2⟩ := u_known (C := RX2) (T := TX2) (N := 5) (n := 5) hW ckX2.2.1 (hW _ isX2)
  obtain ⟨c3, i3, hc3⟩ := u_known (C := RX3) (T := TX3) (N := 7) (n := 7) hW ckX3.2.1 (hW _ isX3)
  obtain ⟨c4, i4, hc4⟩ := u_known (C := RX4) (T := TX4) (N := 4) (n := 4) hW ckX4.2.1 (hW _ isX4)
  obtain ⟨c5, i5, hc5⟩ := u_known (C := RX5) (T := TX5) (N := 2) (n := 2) hW ckX5.2.1 (hW _ isX5)
  obtain ⟨c6, i6, hc6⟩ := u_known (C := RX6) (T := TX6) (N := 5) (n := 5) hW ckX6.2.1 (hW _ isX6)
  obtain ⟨c7, i7, hc7⟩ := u_known (C := RX7) (T := TX7) (N := 2) (n := 2) hW ckX7.2.1 (hW _ isX7)
  obtain ⟨c8, i8, hc8⟩ := u_known (C := RX8) (T := TX8) (N := 9) (n := 9) hW ckX8.2.1 (hW _ isX8)
  obtain ⟨c9, i9, hc9⟩ := u_known (C := RX9) (T := TX9) (N := 8) (n := 8) hW ckX9.2.1 (hW _ isX9)
  obtain ⟨c10, i10, hc10⟩ := u_known (C := RX10) (T := TX10) (N := 8) (n := 8) hW ckX10.2.1 (hW _ isX10)
  obtain ⟨a0, k0, p0, g0, e0, f0, A0, B0⟩ := arr_of (ty := .int) (fun C h => by cases h) (hT 69 _ (by decide +kernel))
  obtain ⟨a1, k1, p1, g1, e1, f1, A1, B1⟩ := arr_of (ty := .boolean) (fun C h => by cases h) (hT 70 _ (by decide +kernel))
  have hO : (Cond.arrayOver (.array .int)).before #[Value.ref b] s = true := (hT 269 _ (by decide +kernel))
  obtain ⟨p4, a4, k4, f40, g4, e4, f4⟩ := Cond.arrayOver_specA hO
  have e40 : p4 = a0 := Option.some.inj (f40.symm.trans f0)
  have A4 : ArrOfT s a4 (.array .int) := fun n z => ⟨fun k h => (by cases h), k4, g4, p4, e4⟩
  have B4 : va_RA s a4 (.array .int) := f4
  have O5 : (Cond.arrayOver (.object RX0)).before #[Value.ref b] s = true := (hT 46 _ (by decide +kernel))
  obtain ⟨a5, A5, B5⟩ := arr_ob O5
  have O6 : (Cond.arrayOver (.object RX1)).before #[Value.ref b] s = true := (hT 48 _ (by decide +kernel))
  obtain ⟨a6, A6, B6⟩ := arr_ob O6
  have O7 : (Cond.arrayOver (.object RX9)).before #[Value.ref b] s = true := (hT 50 _ (by decide +kernel))
  obtain ⟨a7, A7, B7⟩ := arr_ob O7
  have O8 : (Cond.arrayOver (.object RX4)).before #[Value.ref b] s = true := (hT 52 _ (by decide +kernel))
  obtain ⟨a8, A8, B8⟩ := arr_ob O8
  obtain ⟨s278, hs278⟩ := str_of (own := RX10) (k := 278) (tx := "there is no such one") (hT 912 _ (by decide +kernel))
  obtain ⟨s285, hs285⟩ := str_of (own := RX10) (k := 285) (tx := "a number is outside its bounds") (hT 929 _ (by decide +kernel))
  obtain ⟨s290, hs290⟩ := str_of (own := RX10) (k := 290) (tx := "this can not be added") (hT 948 _ (by decide +kernel))
  refine ⟨(l, (fun k => match k with | 0 => c0 | 1 => c1 | 2 => c2 | 3 => c3 | 4 => c4 | 5 => c5 | 6 => c6 | 7 => c7 | 8 => c8 | 9 => c9 | _ => c10, fun k => match k with | 0 => i0 | 1 => i1 | 2 => i2 | 3 => i3 | 4 => i4 | 5 => i5 | 6 => i6 | 7 => i7 | 8 => i8 | 9 => i9 | _ => i10), (fun k => match k with | 0 => a0 | 1 => a1 | 2 => a0 | 3 => a0 | 4 => a4 | 5 => a5 | 6 => a6 | 7 => a7 | _ => a8), s.heap.size, (fun k => if k = 278 then s278 else if k = 285 then s285 else s290)), rfl, rfl, ?_⟩
  refine ⟨?_, ⟨?_, ?_⟩, ?_, ?_, ?_, ?_, ?_, ?_, ⟨k0, k4, g0, g4, ?_, ⟨p0, e0⟩, hO⟩, ?_, ?_, Nat.le_refl _⟩
  · show l.stackTraces = false
    unfold Launch.stackTraces
    rw [hflags]
    decide
  · intro k q hq
    match k, hq with
    | 0, hq => cases hq; exact hc0
    | 1, hq => cases hq; exact hc1
    | 2, hq => cases hq; exact hc2
    | 3, hq => cases hq; exact hc3
    | 4, hq => cases hq; exact hc4
    | 5, hq => cases hq; exact hc5
    | 6, hq => cases hq; exact hc6
    | 7, hq => cases hq; exact hc7
    | 8, hq => cases hq; exact hc8
    | 9, hq => cases hq; exact hc9
    | 10, hq => cases hq; exact hc10
    | k + 11, hq => simp [swCl] at hq
  · intro k q hq
    match k, hq with
    | 0, hq => cases hq; exact ⟨A0, B0⟩
    | 1, hq => cases hq; exact ⟨A1, B1⟩
    | 2, hq => cases hq; exact ⟨A0, B0⟩
    | 3, hq => cases hq; exact ⟨A0, B0⟩
    | 4, hq => cases hq; exact ⟨A4, B4⟩
    | 5, hq => cases hq; exact ⟨A5, B5⟩
    | 6, hq => cases hq; exact ⟨A6, B6⟩
    | 7, hq => cases hq; exact ⟨A7, B7⟩
    | 8, hq => cases hq; exact ⟨A8, B8⟩
    | k + 9, hq => simp [swTys] at hq
  · intro w hw
    simp only [List.mem_cons, List.not_mem_nil, or_false] at hw
    rcases hw with rfl | rfl | rfl | rfl | rfl | rfl | rfl | rfl | rfl | rfl | rfl
    · exact va_Nw.of rfl (hT 54 _ (by decide +kernel))
    · exact va_Nw.of rfl (hT 72 _ (by decide +kernel))
    · exact va_Nw.of rfl (hT 87 _ (by decide +kernel))
    · exact va_Nw.of rfl (hT 135 _ (by decide +kernel))
    · exact va_Nw.of rfl (hT 214 _ (by decide +kernel))
    · exact va_Nw.of rfl (hT 261 _ (by decide +kernel))
    · exact va_Nw.of rfl (hT 264 _ (by decide +kernel))
    · exact va_Nw.of rfl (hT 307 _ (by decide +kernel))
    · exact va_Nw.of rfl (hT 315 _ (by decide +kernel))
    · exact va_Nw.of rfl (hT 317 _ (by decide +kernel))
    · exact va_Nw.of rfl (hT 812 _ (by decide +kernel))
  · intro q hq
    simp only [List.mem_cons, List.not_mem_nil, or_false] at hq
    rcases hq with rfl | rfl | rfl
    · exact va_Nw.of rfl (hT 922 _ (by decide +kernel))
    · exact va_Nw.of rfl (hT 905 _ (by decide +kernel))
    · exact va_Nw.of rfl (hT 941 _ (by decide +kernel))
  · intro x hx
    simp only [List.mem_cons, List.not_mem_nil, or_false] at hx
    rcases hx with rfl | rfl | rfl | rfl | rfl | rfl
    · exact va_Nw.of rfl (hT 456 _ (by decide +kernel))
    · exact va_Nw.of rfl (hT 457 _ (by decide +kernel))
    · exact va_Nw.of rfl (hT 458 _ (by decide +kernel))
    · exact va_Nw.of rfl (hT 459 _ (by decide +kernel))
    · exact va_Nw.of rfl (hT 460 _ (by decide +kernel))
    · exact va_Nw.of rfl (hT 461 _ (by decide +kernel))
  · intro q hq
    simp only [List.mem_cons, List.not_mem_nil, or_false] at hq
    rcases hq with rfl | rfl | rfl
    · exact va_Nc.of (hN (Cond.not (.castable "java/lang/IllegalArgumentException" "java/lang/IndexOutOfBoundsException")) (by decide +kernel))
    · exact va_Nc.of (hN (Cond.not (.castable "java/lang/IllegalStateException" "java/lang/IndexOutOfBoundsException")) (by decide +kernel))
    · exact va_Nc.of (hN (Cond.not (.castable "java/lang/IllegalArgumentException" "java/lang/IllegalStateException")) (by decide +kernel))
  · intro C hC
    simp only [List.mem_cons, List.not_mem_nil, or_false] at hC
    rcases hC with rfl | rfl | rfl | rfl
    · exact va_AO.of O5
    · exact va_AO.of O6
    · exact va_AO.of O7
    · exact va_AO.of O8
  · intro q hq
    simp only [List.mem_cons, List.not_mem_nil, or_false] at hq
    rcases hq with rfl | rfl | rfl
    · exact hs278
    · exact hs285
    · exact hs290
  · rw [e40] at e4
    exact e4
  · exact vx_Zqof (hT 480 _ (by decide +kernel)) (hT 13 _ (by decide +kernel)) (hN (Cond.isRef (.static "java/lang/Throwable" "UNASSIGNED_STACK" "[Ljava/lang/StackTraceElement;")) (by decide +kernel)) (fun a h1 h2 => Nat.lt_irrefl _ (Nat.lt_of_lt_of_le h1 h2))
  · exact vx_Zqof (hT 482 _ (by decide +kernel)) (hT 13 _ (by decide +kernel)) (hN (Cond.isRef (.static "java/lang/Throwable" "SUPPRESSED_SENTINEL" "Ljava/util/List;")) (by decide +kernel)) (fun a h1 h2 => Nat.lt_irrefl _ (Nat.lt_of_lt_of_le h1 h2))
/-- YOUR PART of the skeleton: the law's run from its entry -/
theorem whole_start {p : Program} {e : Env} {s : State} {m : MethodId} {below : List Frame} {meth : Method} {c : Code} (l : Launch) (hflags : l.flags = flags0) {b L : Nat} {xs : Nat → Int32} (hL : L ≤ 260) (C0 : lw_At p s m meth c b L xs) : W p l e room_1 s m #[Value.ref b] below meth c s.heap [] 0 0 (lw_Z below #[Value.ref b] s) (entryFrame m ([Value.ref b] : List Value).toArray 8) := by
  obtain ⟨hx, hb, hr, hml, hown, hts, hX, hbl, hlocks, hgv⟩ := id C0
  obtain ⟨G, rfl, hG, hK⟩ := KN_start l hflags C0
  have hW : ∀ w ∈ AW, w.before #[Value.ref b] s = true := fun w hw => hts w (List.mem_filter.mp hw).1
  have w := law_run (G := G) (s := s) (args := #[Value.ref b]) (Z := fun below => lw_Z below #[Value.ref b] s) (N := s.heap.size) hX hbl (by rw [hG]; exact hbl) hL hG (fun h9 N9 i9 => law_end (by rw [hG]; exact Nat.le_refl _))
  have hLR := LR_entry (vs := [Value.ref b]) (nL := 8) (by simp [Value.category]) (Nat.le_of_ble_eq_true rfl)
  rw [lg_entry_eq]
  exact w p e room_1 m below meth c s.heap [] 0 0 600104 7301313 _ ⟨rfl, rfl, rfl⟩ ⟨hx, hb, hml, hr, hown, hW, hlocks, trivial, trivial, hK⟩ (Nat.le_of_ble_eq_true rfl) (Nat.le_of_ble_eq_true rfl) (by omega) (by omega) (Nat.le_of_ble_eq_true rfl) (Nat.le_of_ble_eq_true rfl) ⟨rfl, fun a e9 h9 => by cases h9⟩ va_S.rf hLR
end St

/-! ===== the rest of what is asked ===== -/
section Ask3
variable {G : Ctx} {h : AH} {N : Nat} {S : ST} {st : Int} {K : KTup}
theorem SPI.move {h' : AH} (sp : SPI G h S st K) (hs : h' (cB G) = some (cSP G st)) (H : HP G S h') (nt : NWz G h' (cB G + 134)) (lt : LVz G h' (cB G + 142)) (f1 : ∀ q, cB G + 108 ≤ q → q < cB G + 134 → h' q = h q) (f2 : ∀ q, cB G + 154 ≤ q → h' q = h q) : SPI G h' S st K := by
  obtain ⟨_, _, w, tp, _, _, kp, c⟩ := sp
  refine ⟨hs, H, w, tp, nt, lt, ⟨kp.1.frame (fun q h1 h2 => f2 q (by omega)), kp.2⟩, ?_, fun q hq => (f2 q (by omega)).trans (c.2 q hq)⟩
  rcases c with ⟨⟨c0, n, l, d⟩ | ⟨c0, f⟩, _⟩
  · exact Or.inl ⟨c0, n.frame (fun q h1 h2 => f1 q (by omega) (by omega)), l.frame (fun q h1 h2 => f1 q (by omega) (by omega)), d.frame (fun q h1 h2 => f1 q (by omega) (by omega))⟩
  · exact Or.inr ⟨c0, f.frame f1⟩
theorem LVS.z {a : Nat} {s : LState} {u : Int} (V : LVS G h a S s u) (li : LI s u) : LVz G h a := ⟨_, _, _, u, _, _, _, _, V, li.2.2.2.2.1, li.z⟩
theorem cnt_mono (wk : Nat → Bool) : ∀ (n m d : Nat), n ≤ m → cnt wk n d ≤ cnt wk m d
  | 0, m, d, _ => (cnt_r wk m d).1
  | n + 1, 0, d, h => absurd h (by omega)
  | n + 1, m + 1, d, h => by
    rw [cnt, cnt]
    have := cnt_mono wk n m (d + 1) (by omega)
    omega
theorem partF_r {b e inn ws kw : Nat → Int} {kr : Nat → Nat → Int} (kq : KR b e inn ws) {t : Nat} (ht : t < 24) (d : Int) : 0 ≤ partF S b e ws kw kr t d ∧ partF S b e ws kw kr t d ≤ 71280 := by
  unfold partF
  have q := (kq.2 t ht).2.2.1
  split
  · omega
  · rename_i hz
    have a := cnt_r (wkd (kw (S 6 t 0).toNat) (kr (S 6 t 0).toNat)) (e t - b t).toNat (b t).toNat
    have c := cnt_r (wkd (kw (S 6 t 0).toNat) (kr (S 6 t 0).toNat)) (min (e t) d - b t).toNat (b t).toNat
    have m := cnt_mono (wkd (kw (S 6 t 0).toNat) (kr (S 6 t 0).toNat)) (min (e t) d - b t).toNat (e t - b t).toNat (b t).toNat (by omega)
    refine ⟨Int.ediv_nonneg (Int.mul_nonneg q.1 c.1) a.1, ?_⟩
    refine Int.le_trans (Int.ediv_le_of_le_mul (by omega) (Int.mul_le_mul_of_nonneg_left m q.1)) q.2
theorem planF_r {b e inn ws kw : Nat → Int} {kr : Nat → Nat → Int} (kq : KR b e inn ws) (d : Int) : ∀ (m i : Nat), i + m ≤ 24 → 0 ≤ planF S b e inn ws kw kr d m i ∧ planF S b e inn ws kw kr d m i ≤ 71280 * (m : Int)
  | 0, _, _ => ⟨Int.le_refl _, by show (0 : Int) ≤ 71280 * 0; omega⟩
  | m + 1, i, hi => by
    have a := planF_r (kw := kw) (kr := kr) kq d m (i + 1) (by omega)
    have p := partF_r (S := S) (kw := kw) (kr := kr) kq (t := i) (by omega) d
    rw [planF]
    split <;> omega
def KEPT (S : ST) (K K' : KTup) (s : LState) : Prop := (∀ x : Nat, (x : Int) < S 13 0 0 → K'.2.1 x = s.1 x ∧ K'.2.2.1 x = s.2.1 x ∧ K'.2.2.2.1 x = s.2.2.1 x ∧ K'.2.2.2.2.1 x = S 5 x 0 * wsum (fun c => S 12 x c * S 4 c 0) 4) ∧ (∀ x : Nat, ¬ (x : Int) < S 13 0 0 → K'.2.1 x = K.2.1 x ∧ K'.2.2.1 x = K.2.2.1 x ∧ K'.2.2.2.1 x = K.2.2.2.1 x ∧ K'.2.2.2.2.1 x = K.2.2.2.2.1 x) ∧ ∀ c, c < 4 → K'.2.2.2.2.2.1 c = S 0 c 0 ∧ K'.2.2.2.2.2.2.1 c = S 1 c 0 ∧ ∀ d, d < 1000 → K'.2.2.2.2.2.2.2 c d = S 2 c d
theorem worth_r (w : WF S) {x : Nat} (hx : x < 24) : 0 ≤ S 5 x 0 * wsum (fun c => S 12 x c * S 4 c 0) 4 ∧ S 5 x 0 * wsum (fun c => S 12 x c * S 4 c 0) 4 ≤ 71280 := by
  have wx := (w.task hx).1
  have a := wsum_r (f := fun c => S 12 x c * S 4 c 0) (M := 891) 4 (fun c hc => by
    have n := w.need x c
    have p := w.crew hc
    exact ⟨Int.mul_nonneg n.1 p.2.1, Int.le_trans (Int.mul_le_mul n.2 p.2.2 p.2.1 (by omega)) (by omega)⟩)
  exact ⟨Int.mul_nonneg wx.1 a.1, Int.le_trans (Int.mul_le_mul wx.2 a.2 a.1 (by omega)) (by omega)⟩
theorem KR.keep {K K' : KTup} {s : LState} {u : Int} (w : WF S) (kq : KR K.2.1 K.2.2.1 K.2.2.2.1 K.2.2.2.2.1) (li : LI s u) (lo : LO S s) (k : KEPT S K K' s) : KR K'.2.1 K'.2.2.1 K'.2.2.2.1 K'.2.2.2.2.1 := by
  refine ⟨fun x => ?_, fun x hx => ?_⟩
  · by_cases hn : (x : Int) < S 13 0 0
    · rw [(k.1 x hn).2.2.1]; exact li.1 x
    · rw [(k.2.1 x hn).2.2.1]; exact kq.1 x
  · by_cases hn : (x : Int) < S 13 0 0
    · obtain ⟨e1, e2, e3, e4⟩ := k.1 x hn
      rw [e1, e2, e3, e4]
      have a := li.2.1 x hx
      have b := li.2.2.2.2.2.2
      have c := worth_r w hx
      exact ⟨by omega, by omega, c, fun h => (lo.1 x hx h).1⟩
    · obtain ⟨e1, e2, e3, e4⟩ := k.2.1 x hn
      rw [e1, e2, e3, e4]
      exact kq.2 x hx
theorem c_heldBy {t : Nat} (sp : SPI G h S st K) (ht : (t : Int) < S 13 0 0) : CT G mX10_heldBy [.ref (cB G), JV (t : Int)] h N 0 0 (fun r h' N' => N' = N ∧ SPI G h' S 0 K ∧ ∃ v : Int, r = some (JV v) ∧ ∃ eb ee lb le rm ld od, FV S eb ee lb le rm ld od ∧ v = lthF S (lvAll S lb rm (S 15 0 0) od).1 (lvAll S lb rm (S 15 0 0) od).2.1 (lvAll S lb rm (S 15 0 0) od).2.2.1 t) := by
  have hT := sp.2.2.1.nT
  have ht24 : t < 24 := by omega
  refine CT_of (by decide +kernel) rfl (by simp [Value.category]) (Nat.le_of_ble_eq_true rfl) ?_
  change WP G mX10_heldBy _ noX _ _ h N 0 [some (.ref (cB G)), some (JV (t : Int))] []
  refine wp_aload_n dX10_heldBy_0 rfl ?_
  refine wp_iload_n dX10_heldBy_1 rfl ?_
  refine wp_v1 0 0 (c_checkTask (N := N) sp.1 sp.2.1 (by have := sp.2.2.1.nT; omega) (by omega) ht) cvX10_114 dX10_heldBy_2 ⟨Nat.le_of_ble_eq_true rfl, Nat.le_of_ble_eq_true rfl⟩ (Nat.le_of_ble_eq_true rfl) sp.1 rfl rfl (by omega) (by omega) (fun r h9 N9 hq => ?_)
  obtain ⟨rfl, hh9, hN9⟩ := hq
  rw [hN9]
  rw [hh9]
  change WP G mX10_heldBy _ _ _ _ h N 5 [some (.ref (cB G)), some (JV (t : Int))] []
  refine wp_aload_n dX10_heldBy_5 rfl ?_
  refine wp_v0 0 0 (c_refresh (N := N) sp) cvX10_171 dX10_heldBy_6 ⟨Nat.le_of_ble_eq_true rfl, Nat.le_of_ble_eq_true rfl⟩ (Nat.le_of_ble_eq_true rfl) sp.1 rfl rfl (by omega) (by omega) (fun r h9 N9 hq => ?_)
  obtain ⟨rfl, hN9, sp9⟩ := hq
  rw [hN9]
  have sp8 := sp9
  obtain ⟨eb, ee, lb, le, rm, ld, wu, od, u9, W9, fa, fb, fc, fd, V9, li9⟩ := sp9.fresh
  obtain ⟨hs9, H9, w9, tp9, nt9, lt9, kp9, cc9⟩ := sp9
  have fv : FV S eb ee lb le rm ld od := ⟨fa, fb, fc, u9, li9⟩
  clear cc9
  change WP G mX10_heldBy _ _ _ _ h9 N 9 [some (.ref (cB G)), some (JV (t : Int))] []
  refine wp_aload_n dX10_heldBy_9 rfl ?_
  refine wp_get fkX10_28 dX10_heldBy_10 hs9 rfl ?_
  refine wp_iload_n dX10_heldBy_13 rfl ?_
  refine wp_v1p (c_linkThatHolds (N := N) V9 H9 w9 li9.pb li9.1 ht24 (fun h1 h2 j hj hl => by have lo := LO_all (S := S) w9 (lb := lb) (rm := rm) (rl := S 15 0 0) (od := od); have wj := w9.at (i := j) (by have := w9.nL; omega); exact (lo.1 (lF S j).toNat (by show (S 19 (S 18 j 0).toNat 0).toNat < 24; omega) (lo.2 t ht24 h2 h1 j hj hl)).2)) cvX10_229 dX10_heldBy_14 ⟨Nat.le_of_ble_eq_true rfl, Nat.le_of_ble_eq_true rfl⟩ (Nat.le_of_ble_eq_true rfl) V9.1 rfl rfl ?_
  refine wp_iret dX10_heldBy_17 rfl ?_
  exact ⟨rfl, sp8, _, rfl, eb, ee, lb, le, rm, ld, od, fv, rfl⟩

theorem c_keep (sp : SPI G h S st K) : CT G mX10_keep [.ref (cB G)] h N 0 0 (fun r h' N' => N' = N ∧ ∃ K', K'.1 = K.1 ∧ SPI G h' S 0 K' ∧ ∃ v : Int, r = some (JV v) ∧ ∃ eb ee lb le rm ld od, FV S eb ee lb le rm ld od ∧ v = (lvAll S lb rm (S 15 0 0) od).2.2.2.2.1 ∧ KEPT S K K' (lvAll S lb rm (S 15 0 0) od)) := by
  refine CT_of (by decide +kernel) rfl (by simp [Value.category]) (Nat.le_of_ble_eq_true rfl) ?_
  change WP G mX10_keep _ noX _ _ h N 0 [some (.ref (cB G))] []
  refine wp_aload_n dX10_keep_0 rfl ?_
  refine wp_v0 0 0 (c_refresh (N := N) sp) cvX10_171 dX10_keep_1 ⟨Nat.le_of_ble_eq_true rfl, Nat.le_of_ble_eq_true rfl⟩ (Nat.le_of_ble_eq_true rfl) sp.1 rfl rfl (by omega) (by omega) (fun r h9 N9 hq => ?_)
  obtain ⟨rfl, hN9, sp9⟩ := hq
  rw [hN9]
  have sp8 := sp9
  obtain ⟨eb, ee, lb, le, rm, ld, wu, od, u9, W9, fa, fb, fc, fd, V9, li9⟩ := sp9.fresh
  obtain ⟨hs9, H9, w9, tp9, nt9, lt9, kp9, cc9⟩ := sp9
  have fv : FV S eb ee lb le rm ld od := ⟨fa, fb, fc, u9, li9⟩
  clear cc9
  change WP G mX10_keep _ _ _ _ h9 N 4 [some (.ref (cB G))] []
  refine wp_aload_n dX10_keep_4 rfl ?_
  refine wp_get fkX10_48 dX10_keep_5 hs9 rfl ?_
  refine wp_aload_n dX10_keep_8 rfl ?_
  refine wp_get fkX10_28 dX10_keep_9 hs9 rfl ?_
  refine wp_v1 0 0 (c_take (N := N) (a := cB G + 154) (q := cB G + 116) (by omega) (by omega) w9 li9.1 kp9.1 H9 V9) cvX10_236 dX10_keep_12 ⟨Nat.le_of_ble_eq_true rfl, Nat.le_of_ble_eq_true rfl⟩ (Nat.le_of_ble_eq_true rfl) kp9.1.1 rfl rfl (by omega) (by omega) (fun r h8 N9 hq => ?_)
  obtain ⟨rfl, hN9, b', e', i', w', kw', kf', kr', K8, H8, p1, p2, p3, f8⟩ := hq
  rw [hN9]
  have hs8 := (f8 (cB G) (by omega)).trans hs9
  have V8 := LV.frame V9 (fun q h1 h2 => f8 q (by omega))
  change WP G mX10_keep _ _ _ _ h8 N 15 [some (.ref (cB G))] []
  refine wp_aload_n dX10_keep_15 rfl ?_
  refine wp_get fkX10_28 dX10_keep_16 hs8 rfl ?_
  refine wp_get fkX10_209 dX10_keep_19 V8.1 rfl ?_
  refine wp_iret dX10_keep_22 rfl ?_
  have ke : KEPT S K (K.1, b', e', i', w', kw', kf', kr') (lvAll S lb rm (S 15 0 0) od) := ⟨p1, p2, p3⟩
  exact ⟨rfl, (K.1, b', e', i', w', kw', kf', kr'), rfl, ⟨hs8, H8, w9, tp9, nt9.frame (fun q h1 h2 => f8 q (by omega)), lt9.frame (fun q h1 h2 => f8 q (by omega)), ⟨K8, KR.keep w9 kp9.2 li9 (LO_all w9) ke⟩, Or.inr ⟨rfl, sp8.fresh.frame (fun q h1 h2 => f8 q (by omega))⟩, fun q hq => (f8 q (by omega)).trans (sp8.2.2.2.2.2.2.2.2 q hq)⟩, _, rfl, eb, ee, lb, le, rm, ld, od, fv, rfl, ke⟩

def paceF (p e : Int) : UInt64 := if p = 0 then 0 else FP.ddiv (FP.i2d (Int32.ofInt e)) (FP.i2d (Int32.ofInt p))
theorem c_pace (sp : SPI G h S st K) {d : Int} (hd : 0 ≤ d ∧ d ≤ 9999) : CT G mX10_pace [.ref (cB G), JV d] h N 0 0 (PV (.double (paceF (planF S K.2.1 K.2.2.1 K.2.2.2.1 K.2.2.2.2.1 K.2.2.2.2.2.1 K.2.2.2.2.2.2.2 d (S 13 0 0).toNat 0) (earnF S K.2.2.2.1 K.2.2.2.2.1 (S 13 0 0).toNat 0))) h N) := by
  refine CT_of (by decide +kernel) rfl (by simp [Value.category]) (Nat.le_of_ble_eq_true rfl) ?_
  change WP G mX10_pace _ noX _ _ h N 0 [some (.ref (cB G)), some (JV d), none] []
  refine wp_iload_n dX10_pace_0 rfl ?_
  refine wp_s1 0 0 (c_checkAskedDay (N := N) (by omega) (by omega)) csX10_164 dX10_pace_1 ⟨Nat.le_of_ble_eq_true rfl, Nat.le_of_ble_eq_true rfl⟩ (Nat.le_of_ble_eq_true rfl) (by omega) (by omega) (fun r h9 N9 hq => ?_)
  obtain ⟨rfl, hh9, hN9⟩ := hq
  rw [hN9]
  rw [hh9]
  change WP G mX10_pace _ _ _ _ h N 4 [some (.ref (cB G)), some (JV d), none] []
  refine wp_aload_n dX10_pace_4 rfl ?_
  refine wp_get fkX10_48 dX10_pace_5 sp.1 rfl ?_
  refine wp_iload_n dX10_pace_8 rfl ?_
  refine wp_v1p (c_plannedUpTo (N := N) (d := d) sp.2.2.2.2.2.2.1.1 sp.2.1 sp.2.2.1 sp.2.2.2.2.2.2.1.2 (by omega)) cvX10_244 dX10_pace_9 ⟨Nat.le_of_ble_eq_true rfl, Nat.le_of_ble_eq_true rfl⟩ (Nat.le_of_ble_eq_true rfl) sp.2.2.2.2.2.2.1.1.1 rfl rfl ?_
  have pr := planF_r (S := S) (kw := K.2.2.2.2.2.1) (kr := K.2.2.2.2.2.2.2) sp.2.2.2.2.2.2.1.2 d (S 13 0 0).toNat 0 (by have := sp.2.2.1.nT; omega)
  have wT := sp.2.2.1.nT
  refine wp_istore_n dX10_pace_12 (Nat.le_of_ble_eq_true rfl) rfl ?_
  change WP G mX10_pace _ _ _ _ h N 13 [some (.ref (cB G)), some (JV d), some (JV (planF S K.2.1 K.2.2.1 K.2.2.2.1 K.2.2.2.2.1 K.2.2.2.2.2.1 K.2.2.2.2.2.2.2 d (S 13 0 0).toNat 0))] []
  refine wp_iload_n dX10_pace_13 rfl ?_
  refine wp_if_ne 21 dX10_pace_14 (by decide) ⟨by omega, by omega⟩ (fun c_14 => ?_) (fun c_14 => ?_)
  · refine wp_aload_n dX10_pace_21 rfl ?_
    refine wp_get fkX10_48 dX10_pace_22 sp.1 rfl ?_
    refine wp_v0p (c_earnedNow (N := N) sp.2.2.2.2.2.2.1.1 sp.2.1 sp.2.2.1 sp.2.2.2.2.2.2.1.2) cvX10_247 dX10_pace_25 ⟨Nat.le_of_ble_eq_true rfl, Nat.le_of_ble_eq_true rfl⟩ (Nat.le_of_ble_eq_true rfl) sp.2.2.2.2.2.2.1.1.1 rfl rfl ?_
    refine wp_i2d dX10_pace_28 ?_
    refine wp_iload_n dX10_pace_29 rfl ?_
    refine wp_i2d dX10_pace_30 ?_
    refine wp_ddiv dX10_pace_31 (n64_div (fun z => c_14 ((J_eq ⟨by omega, by omega⟩ ⟨by omega, by omega⟩).mp z))) ?_
    refine wp_dret dX10_pace_32 rfl ?_
    refine ⟨?_, rfl, rfl⟩
    unfold paceF
    rw [if_neg c_14]
  · refine wp_dconst0 dX10_pace_17 ?_
    refine wp_goto 32 dX10_pace_18 (by decide) ?_
    refine wp_dret dX10_pace_32 rfl ?_
    refine ⟨?_, rfl, rfl⟩
    unfold paceF
    rw [if_pos c_14]

/-- last() with another length -/
def LASTW (S : ST) (t : Nat) (x v : Int) : Prop := ∃ eb ee, EP (su S 5 t 0 x) eb ee ∧ RG (su S 5 t 0 x) eb ee ∧ LDY (su S 5 t 0 x) ee v
theorem WF.len {t : Nat} {x : Int} (w : WF S) (hx : 0 ≤ x ∧ x ≤ 20) : WF (su S 5 t 0 x) := by
  obtain ⟨w1, w2, w3, w4, w5, w6, w7, w8, w9, w10, w11, w12, w13⟩ := w
  refine ⟨w1, w2, w3, w4, fun c hc => ?_, w6, w7, w8, w9, w10, w11, w12, w13⟩
  have q := w5 c hc
  simp only [su]
  by_cases hct : c = t <;> simp [hct] <;> (try subst hct) <;> omega
theorem WF.siz {t : Nat} {x : Int} (w : WF S) (hx : 0 ≤ x ∧ x ≤ 9) : WF (su S 3 t 0 x) := by
  obtain ⟨w1, w2, w3, w4, w5, w6, w7, w8, w9, w10, w11, w12, w13⟩ := w
  refine ⟨w1, w2, w3, fun c hc => ?_, w5, w6, w7, w8, w9, w10, w11, w12, w13⟩
  have q := w4 c hc
  simp only [su]
  by_cases hct : c = t <;> simp [hct] <;> (try subst hct) <;> omega
theorem su_back {f i j : Nat} {v : Int} : su (su S f i j v) f i j (S f i j) = S := by
  funext a b c
  unfold su
  by_cases hh : a = f ∧ b = i ∧ c = j
  · rw [if_pos hh, hh.1, hh.2.1, hh.2.2]
  · rw [if_neg hh, if_neg hh]
theorem WF.drop {S1 : ST} {l n : Nat} (w : WF S) (hl : l < n) (hn : S 14 0 0 = (n : Int)) (e0 : ∀ f, f ≠ 14 → f ≠ 18 → S1 f = S f) (e14 : S1 14 0 0 = (n : Int) - 1) (e18 : ∀ i, S1 18 i 0 = tkO (fun i => S 18 i 0) l n i) : WF S1 := by
  have hL := w.nL
  obtain ⟨w1, w2, w3, w4, w5, w6, w7, w8, w9, w10, w11, w12, w13⟩ := w
  unfold WF
  rw [e14]
  simp only [e0 0 (by decide) (by decide), e0 1 (by decide) (by decide), e0 2 (by decide) (by decide), e0 3 (by decide) (by decide), e0 4 (by decide) (by decide), e0 5 (by decide) (by decide), e0 6 (by decide) (by decide), e0 7 (by decide) (by decide), e0 8 (by decide) (by decide), e0 9 (by decide) (by decide), e0 10 (by decide) (by decide), e0 11 (by decide) (by decide), e0 12 (by decide) (by decide), e0 13 (by decide) (by decide), e0 15 (by decide) (by decide), e0 16 (by decide) (by decide), e0 17 (by decide) (by decide), e0 19 (by decide) (by decide), e0 20 (by decide) (by decide), e0 21 (by decide) (by decide), e0 22 (by decide) (by decide)]
  refine ⟨w1, w2, w3, w4, w5, w6, w7, by omega, w9, w10, w11, fun i hi => ?_, w13⟩
  rw [e18]
  unfold tkO
  split
  · exact w12 (i + 1) (by omega)
  · split
    · exact w12 l (by omega)
    · exact w12 i hi
theorem c_lastIf {t : Nat} {x : Int} (sp : SPI G h S st K) (ht : (t : Int) < S 13 0 0) (hx : 0 ≤ x ∧ x ≤ 20) : CT G mX10_lastIfLengthWere [.ref (cB G), JV (t : Int), JV x] h N 0 0 (fun r h' N' => N' = N ∧ SPI G h' S st K ∧ (∀ q, cB G + 108 ≤ q → q < cB G + 134 → h' q = h q) ∧ ∃ v : Int, r = some (JV v) ∧ LASTW S t x v) := by
  have hT := sp.2.2.1.nT
  have ht24 : t < 24 := by omega
  refine CT_of (by decide +kernel) rfl (by simp [Value.category]) (Nat.le_of_ble_eq_true rfl) ?_
  change WP G mX10_lastIfLengthWere _ noX _ _ h N 0 [some (.ref (cB G)), some (JV (t : Int)), some (JV x), none, none] []
  obtain ⟨eb, ee, lb, le, rm, ld, W0, pe, pl, rb⟩ := sp.2.2.2.2.1
  refine wp_aload_n dX10_lastIfLengthWere_0 rfl ?_
  refine wp_get fkX10_10 dX10_lastIfLengthWere_1 sp.1 rfl ?_
  refine wp_get fkX10_117 dX10_lastIfLengthWere_4 sp.2.1.1 rfl ?_
  refine wp_iload_n dX10_lastIfLengthWere_7 rfl ?_
  refine wp_aaload dX10_lastIfLengthWere_8 sp.2.1.2.2.2.1 rfl rfl (by omega) (by omega) (by omega) (if_pos (by omega)) ?_
  change WP G mX10_lastIfLengthWere _ _ _ _ h N 9 [some (.ref (cB G)), some (JV (t : Int)), some (JV x), none, none] [.ref (cB G + 20 + 2 * t)]
  refine wp_astore_n dX10_lastIfLengthWere_9 (Nat.le_of_ble_eq_true rfl) rfl ?_
  change WP G mX10_lastIfLengthWere _ _ _ _ h N 10 [some (.ref (cB G)), some (JV (t : Int)), some (JV x), some (.ref (cB G + 20 + 2 * t)), none] []
  refine wp_aload_n dX10_lastIfLengthWere_10 rfl ?_
  refine wp_get fkX10_121 dX10_lastIfLengthWere_11 (sp.2.1.2.2.2.2.2.2.2.2.2.2.1 t (by omega)) rfl ?_
  refine wp_istore dX10_lastIfLengthWere_14 (Nat.le_of_ble_eq_true rfl) rfl ?_
  change WP G mX10_lastIfLengthWere _ _ _ _ h N 16 [some (.ref (cB G)), some (JV (t : Int)), some (JV x), some (.ref (cB G + 20 + 2 * t)), some (JV (S 5 t 0))] []
  refine wp_aload_n dX10_lastIfLengthWere_16 rfl ?_
  refine wp_iload_n dX10_lastIfLengthWere_17 rfl ?_
  refine wp_put fkX10_121 dX10_lastIfLengthWere_18 (sp.2.1.2.2.2.2.2.2.2.2.2.2.1 t (by omega)) rfl rfl (Nat.le_of_ble_eq_true rfl) ?_
  obtain ⟨h_1, eh_1⟩ : ∃ hh9 : AH, hh9 = hup h (cB G + 20 + 2 * t) (eO 9 [JV x, JV (S 6 t 0), JV (S 7 t 0), JV (S 8 t 0), JV (S 9 t 0), JV (S 10 t 0), JV (S 11 t 0), .ref (cB G + 20 + 2 * t + 1)]) := ⟨_, rfl⟩
  refine WP.heq eh_1 ?_
  obtain ⟨S_1, eS_1⟩ : ∃ ss9 : ST, ss9 = su S 5 t 0 x := ⟨_, rfl⟩
  have H_1 : HP G S_1 h_1 := by rw [eS_1]; exact HP_5 (i := t) (v := x) (by omega) sp.2.1 (eh_1.trans (by simp [cCal, cCrew, cTask, cLink, su]))
  have c1_0 := (hup_at eh_1 (by omega)).trans sp.1
  have WX_1_______134 : NW G h_1 (cB G + 134) eb ee lb le rm ld := W0.frame (fun q9 hq9 hq8 => hup_at eh_1 (by omega))
  refine wp_aload_n dX10_lastIfLengthWere_21 rfl ?_
  refine wp_get fkX10_39 dX10_lastIfLengthWere_22 c1_0 rfl ?_
  refine wp_v0 0 0 (c_reckonEarly (N := N) (a := cB G + 134) WX_1_______134 H_1 (by omega) (by rw [eS_1]; exact sp.2.2.1.len hx) (by rw [eS_1]; exact sp.2.2.2.1.same rfl rfl rfl rfl rfl rfl) pe) cvX10_260 dX10_lastIfLengthWere_25 ⟨Nat.le_of_ble_eq_true rfl, Nat.le_of_ble_eq_true rfl⟩ (Nat.le_of_ble_eq_true rfl) WX_1_______134.1 rfl rfl (by omega) (by omega) (fun r h8 N9 hq => ?_)
  obtain ⟨rfl, hN9, eb', ee', ld', W8, H8, pb8, rg8, ep8, ldy8, f8⟩ := hq
  rw [hN9]
  have hs8 := (f8 (cB G) (by omega)).trans c1_0
  change WP G mX10_lastIfLengthWere _ _ _ _ h8 N 28 [some (.ref (cB G)), some (JV (t : Int)), some (JV x), some (.ref (cB G + 20 + 2 * t)), some (JV (S 5 t 0))] []
  refine wp_aload_n dX10_lastIfLengthWere_28 rfl ?_
  refine wp_iload dX10_lastIfLengthWere_29 rfl ?_
  refine wp_put fkX10_121 dX10_lastIfLengthWere_31 (H8.2.2.2.2.2.2.2.2.2.2.1 t (by omega)) rfl rfl (Nat.le_of_ble_eq_true rfl) ?_
  obtain ⟨h_2, eh_2⟩ : ∃ hh9 : AH, hh9 = hup h8 (cB G + 20 + 2 * t) (eO 9 [JV (S 5 t 0), JV (S_1 6 t 0), JV (S_1 7 t 0), JV (S_1 8 t 0), JV (S_1 9 t 0), JV (S_1 10 t 0), JV (S_1 11 t 0), .ref (cB G + 20 + 2 * t + 1)]) := ⟨_, rfl⟩
  refine WP.heq eh_2 ?_
  obtain ⟨S_2, eS_2⟩ : ∃ ss9 : ST, ss9 = su S_1 5 t 0 (S 5 t 0) := ⟨_, rfl⟩
  have H_2 : HP G S_2 h_2 := by rw [eS_2]; exact HP_5 (i := t) (v := S 5 t 0) (by omega) H8 (eh_2.trans (by simp [cCal, cCrew, cTask, cLink, su]))
  have c2_0 := (hup_at eh_2 (by omega)).trans hs8
  have WX_2_______134 : NW G h_2 (cB G + 134) eb' ee' lb le rm ld' := W8.frame (fun q9 hq9 hq8 => hup_at eh_2 (by omega))
  refine wp_aload_n dX10_lastIfLengthWere_34 rfl ?_
  refine wp_get fkX10_39 dX10_lastIfLengthWere_35 c2_0 rfl ?_
  refine wp_get fkX10_192 dX10_lastIfLengthWere_38 WX_2_______134.1 rfl ?_
  refine wp_iret dX10_lastIfLengthWere_41 rfl ?_
  have eS : S_2 = S := by rw [eS_2, eS_1]; exact su_back
  have H7 : HP G S h_2 := eS ▸ H_2
  have fr : ∀ q, q ≠ cB G + 20 + 2 * t → (q < cB G + 134 ∨ cB G + 138 ≤ q) → h_2 q = h q := fun q h1 h2 => by rw [hup_at eh_2 (by omega), f8 q (by omega), hup_at eh_1 (by omega)]
  refine ⟨rfl, sp.move ((fr _ (by omega) (by omega)).trans sp.1) H7 ⟨_, _, _, _, _, _, WX_2_______134, pb8, pl, rb⟩ (sp.2.2.2.2.2.1.frame (fun q h1 h2 => fr q (by omega) (by omega))) (fun q h1 h2 => fr q (by omega) (by omega)) (fun q h1 => fr q (by omega) (by omega)), fun q h1 h2 => fr q (by omega) (by omega), _, rfl, eb', ee', ?_⟩
  rw [← eS_1]
  exact ⟨ep8, rg8, ldy8⟩

theorem c_lastWith {t : Nat} {x : Int} (sp : SPI G h S st K) (ht : (t : Int) < S 13 0 0) (hx : 0 ≤ x ∧ x ≤ 20) : CT G mX10_lastWith [.ref (cB G), JV (t : Int), JV x] h N 0 0 (fun r h' N' => N' = N ∧ SPI G h' S st K ∧ ∃ v : Int, r = some (JV v) ∧ LASTW S t x v) := by
  have hT := sp.2.2.1.nT
  refine CT_of (by decide +kernel) rfl (by simp [Value.category]) (Nat.le_of_ble_eq_true rfl) ?_
  change WP G mX10_lastWith _ noX _ _ h N 0 [some (.ref (cB G)), some (JV (t : Int)), some (JV x)] []
  refine wp_aload_n dX10_lastWith_0 rfl ?_
  refine wp_iload_n dX10_lastWith_1 rfl ?_
  refine wp_v1 0 0 (c_checkTask (N := N) sp.1 sp.2.1 (by have := sp.2.2.1.nT; omega) (by omega) ht) cvX10_114 dX10_lastWith_2 ⟨Nat.le_of_ble_eq_true rfl, Nat.le_of_ble_eq_true rfl⟩ (Nat.le_of_ble_eq_true rfl) sp.1 rfl rfl (by omega) (by omega) (fun r h9 N9 hq => ?_)
  obtain ⟨rfl, hh9, hN9⟩ := hq
  rw [hN9]
  rw [hh9]
  change WP G mX10_lastWith _ _ _ _ h N 5 [some (.ref (cB G)), some (JV (t : Int)), some (JV x)] []
  refine wp_iload_n dX10_lastWith_5 rfl ?_
  refine wp_bipush dX10_lastWith_6 rfl ?_
  refine wp_s2p (c_isWithin (N := N) (by omega) (by omega)) csX10_74 dX10_lastWith_8 ⟨Nat.le_of_ble_eq_true rfl, Nat.le_of_ble_eq_true rfl⟩ (Nat.le_of_ble_eq_true rfl) ?_
  rw [show bI (decide (0 ≤ x ∧ x ≤ 20)) = 1 from bI_t (decide_eq_true (by omega))]
  refine wp_s1 0 0 (c_checkArgument (N := N)) csX10_60 dX10_lastWith_11 ⟨Nat.le_of_ble_eq_true rfl, Nat.le_of_ble_eq_true rfl⟩ (Nat.le_of_ble_eq_true rfl) (by omega) (by omega) (fun r h9 N9 hq => ?_)
  obtain ⟨rfl, hh9, hN9⟩ := hq
  rw [hN9]
  rw [hh9]
  change WP G mX10_lastWith _ _ _ _ h N 14 [some (.ref (cB G)), some (JV (t : Int)), some (JV x)] []
  refine wp_aload_n dX10_lastWith_14 rfl ?_
  refine wp_iload_n dX10_lastWith_15 rfl ?_
  refine wp_iload_n dX10_lastWith_16 rfl ?_
  refine wp_v2 0 0 (c_lastIf (N := N) (t := t) (x := x) sp ht hx) cvX10_253 dX10_lastWith_17 ⟨Nat.le_of_ble_eq_true rfl, Nat.le_of_ble_eq_true rfl⟩ (Nat.le_of_ble_eq_true rfl) sp.1 rfl rfl (by omega) (by omega) (fun r h9 N9 hq => ?_)
  obtain ⟨hN9, sp9, fr9, v, rfl, lw⟩ := hq
  rw [hN9]
  refine wp_iret dX10_lastWith_20 rfl ?_
  exact ⟨rfl, sp9, v, rfl, lw⟩

theorem c_levelledWith {t : Nat} {x : Int} (sp : SPI G h S st K) (ht : t < 4) (hx : 0 ≤ x ∧ x ≤ 9) : CT G mX10_levelledWith [.ref (cB G), JV (t : Int), JV x] h N 0 0 (fun r h' N' => N' = N ∧ SPI G h' S 0 K ∧ ∃ v : Int, r = some (JV v) ∧ ∃ eb ee lb le rm ld od, FV S eb ee lb le rm ld od ∧ v = LL (su S 3 t 0 x) lb rm (S 15 0 0)) := by
  refine CT_of (by decide +kernel) rfl (by simp [Value.category]) (Nat.le_of_ble_eq_true rfl) ?_
  change WP G mX10_levelledWith _ noX _ _ h N 0 [some (.ref (cB G)), some (JV (t : Int)), some (JV x), none, none] []
  refine wp_iload_n dX10_levelledWith_0 rfl ?_
  refine wp_s1 0 0 (c_checkCrew (N := N) (by omega) (by omega)) csX10_92 dX10_levelledWith_1 ⟨Nat.le_of_ble_eq_true rfl, Nat.le_of_ble_eq_true rfl⟩ (Nat.le_of_ble_eq_true rfl) (by omega) (by omega) (fun r h9 N9 hq => ?_)
  obtain ⟨rfl, hh9, hN9⟩ := hq
  rw [hN9]
  rw [hh9]
  change WP G mX10_levelledWith _ _ _ _ h N 4 [some (.ref (cB G)), some (JV (t : Int)), some (JV x), none, none] []
  refine wp_iload_n dX10_levelledWith_4 rfl ?_
  refine wp_bipush dX10_levelledWith_5 rfl ?_
  refine wp_s2p (c_isWithin (N := N) (by omega) (by omega)) csX10_74 dX10_levelledWith_7 ⟨Nat.le_of_ble_eq_true rfl, Nat.le_of_ble_eq_true rfl⟩ (Nat.le_of_ble_eq_true rfl) ?_
  rw [show bI (decide (0 ≤ x ∧ x ≤ 9)) = 1 from bI_t (decide_eq_true (by omega))]
  refine wp_s1 0 0 (c_checkArgument (N := N)) csX10_60 dX10_levelledWith_10 ⟨Nat.le_of_ble_eq_true rfl, Nat.le_of_ble_eq_true rfl⟩ (Nat.le_of_ble_eq_true rfl) (by omega) (by omega) (fun r h9 N9 hq => ?_)
  obtain ⟨rfl, hh9, hN9⟩ := hq
  rw [hN9]
  rw [hh9]
  change WP G mX10_levelledWith _ _ _ _ h N 13 [some (.ref (cB G)), some (JV (t : Int)), some (JV x), none, none] []
  refine wp_aload_n dX10_levelledWith_13 rfl ?_
  refine wp_v0 0 0 (c_refresh (N := N) sp) cvX10_171 dX10_levelledWith_14 ⟨Nat.le_of_ble_eq_true rfl, Nat.le_of_ble_eq_true rfl⟩ (Nat.le_of_ble_eq_true rfl) sp.1 rfl rfl (by omega) (by omega) (fun r h9 N9 hq => ?_)
  obtain ⟨rfl, hN9, sp9⟩ := hq
  rw [hN9]
  have sp8 := sp9
  obtain ⟨eb, ee, lb, le, rm, ld, wu, od, u9, W9, fa, fb, fc, fd, V9, li9⟩ := sp9.fresh
  obtain ⟨hs9, H9, w9, tp9, nt9, lt9, kp9, cc9⟩ := sp9
  have fv : FV S eb ee lb le rm ld od := ⟨fa, fb, fc, u9, li9⟩
  clear cc9
  obtain ⟨b7, e7, g7, u7, inn7, od7, ct7, ld7, V7, hu7, hz7⟩ := lt9
  change WP G mX10_levelledWith _ _ _ _ h9 N 17 [some (.ref (cB G)), some (JV (t : Int)), some (JV x), none, none] []
  have wc := w9.crew ht
  refine wp_aload_n dX10_levelledWith_17 rfl ?_
  refine wp_get fkX10_10 dX10_levelledWith_18 hs9 rfl ?_
  refine wp_get fkX10_95 dX10_levelledWith_21 H9.1 rfl ?_
  refine wp_iload_n dX10_levelledWith_24 rfl ?_
  refine wp_aaload dX10_levelledWith_25 H9.2.2.1 rfl rfl (by omega) (by omega) (by omega) (if_pos (by omega)) ?_
  change WP G mX10_levelledWith _ _ _ _ h9 N 26 [some (.ref (cB G)), some (JV (t : Int)), some (JV x), none, none] [.ref (cB G + 16 + t)]
  refine wp_astore_n dX10_levelledWith_26 (Nat.le_of_ble_eq_true rfl) rfl ?_
  change WP G mX10_levelledWith _ _ _ _ h9 N 27 [some (.ref (cB G)), some (JV (t : Int)), some (JV x), some (.ref (cB G + 16 + t)), none] []
  refine wp_aload_n dX10_levelledWith_27 rfl ?_
  refine wp_get fkX10_99 dX10_levelledWith_28 (H9.2.2.2.2.2.2.2.2.2.1 t (by omega)) rfl ?_
  refine wp_istore dX10_levelledWith_31 (Nat.le_of_ble_eq_true rfl) rfl ?_
  change WP G mX10_levelledWith _ _ _ _ h9 N 33 [some (.ref (cB G)), some (JV (t : Int)), some (JV x), some (.ref (cB G + 16 + t)), some (JV (S 3 t 0))] []
  refine wp_aload_n dX10_levelledWith_33 rfl ?_
  refine wp_iload_n dX10_levelledWith_34 rfl ?_
  refine wp_put fkX10_99 dX10_levelledWith_35 (H9.2.2.2.2.2.2.2.2.2.1 t (by omega)) rfl rfl (Nat.le_of_ble_eq_true rfl) ?_
  obtain ⟨h_1, eh_1⟩ : ∃ hh9 : AH, hh9 = hup h9 (cB G + 16 + t) (eO 1 [JV x, JV (S 4 t 0)]) := ⟨_, rfl⟩
  refine WP.heq eh_1 ?_
  obtain ⟨S_1, eS_1⟩ : ∃ ss9 : ST, ss9 = su S 3 t 0 x := ⟨_, rfl⟩
  have H_1 : HP G S_1 h_1 := by rw [eS_1]; exact HP_3 (i := t) (v := x) (by omega) H9 (eh_1.trans (by simp [cCal, cCrew, cTask, cLink, su]))
  have c1_0 := (hup_at eh_1 (by omega)).trans hs9
  have WX_1_______108 : NW G h_1 (cB G + 108) eb ee lb le rm ld := W9.frame (fun q9 hq9 hq8 => hup_at eh_1 (by omega))
  have VX_1_______142 : LV G h_1 (cB G + 142) b7 e7 g7 u7 inn7 od7 ct7 ld7 := V7.frame (fun q9 hq9 hq8 => hup_at eh_1 (by omega))
  refine wp_aload_n dX10_levelledWith_38 rfl ?_
  refine wp_get fkX10_42 dX10_levelledWith_39 c1_0 rfl ?_
  refine wp_aload_n dX10_levelledWith_42 rfl ?_
  refine wp_get fkX10_21 dX10_levelledWith_43 c1_0 rfl ?_
  refine wp_aload_n dX10_levelledWith_46 rfl ?_
  refine wp_get fkX10_10 dX10_levelledWith_47 c1_0 rfl ?_
  refine wp_get fkX10_161 dX10_levelledWith_50 H_1.1 rfl ?_
  have wS : WF S_1 := by rw [eS_1]; exact w9.siz hx
  rw [show S_1 15 0 0 = S 15 0 0 by rw [eS_1, su_f (by decide)]]
  refine wp_v2 0 0 (c_reckon (N := N) (a := cB G + 142) (q := cB G + 108) (rl := S 15 0 0) (by omega) (by omega) wS fa.2.1 fa.2.2 w9.rule VX_1_______142 hu7 hz7 H_1 WX_1_______108) cvX10_256 dX10_levelledWith_53 ⟨Nat.le_of_ble_eq_true rfl, Nat.le_of_ble_eq_true rfl⟩ (Nat.le_of_ble_eq_true rfl) VX_1_______142.1 rfl rfl (by omega) (by omega) (fun r h8 N9 hq => ?_)
  obtain ⟨rfl, hN9, u8, V8, H8, li8, f8⟩ := hq
  rw [hN9]
  have hs8 := (f8 (cB G) (by omega)).trans c1_0
  change WP G mX10_levelledWith _ _ _ _ h8 N 56 [some (.ref (cB G)), some (JV (t : Int)), some (JV x), some (.ref (cB G + 16 + t)), some (JV (S 3 t 0))] []
  obtain ⟨s8, es8⟩ : ∃ s8 : LState, s8 = lvAll S_1 lb rm (S 15 0 0) od7 := ⟨_, rfl⟩
  rw [← es8] at V8 li8
  refine wp_aload_n dX10_levelledWith_56 rfl ?_
  refine wp_iload dX10_levelledWith_57 rfl ?_
  refine wp_put fkX10_99 dX10_levelledWith_59 (H8.2.2.2.2.2.2.2.2.2.1 t (by omega)) rfl rfl (Nat.le_of_ble_eq_true rfl) ?_
  obtain ⟨h_2, eh_2⟩ : ∃ hh9 : AH, hh9 = hup h8 (cB G + 16 + t) (eO 1 [JV (S 3 t 0), JV (S_1 4 t 0)]) := ⟨_, rfl⟩
  refine WP.heq eh_2 ?_
  obtain ⟨S_2, eS_2⟩ : ∃ ss9 : ST, ss9 = su S_1 3 t 0 (S 3 t 0) := ⟨_, rfl⟩
  have H_2 : HP G S_2 h_2 := by rw [eS_2]; exact HP_3 (i := t) (v := S 3 t 0) (by omega) H8 (eh_2.trans (by simp [cCal, cCrew, cTask, cLink, su]))
  have c2_0 := (hup_at eh_2 (by omega)).trans hs8
  have VX_2_______142 : LV G h_2 (cB G + 142) s8.1 s8.2.1 (ldg S_1 s8.1 s8.2.1 s8.2.2.1) u8 s8.2.2.1 s8.2.2.2.1 s8.2.2.2.2.1 s8.2.2.2.2.2 := V8.frame (fun q9 hq9 hq8 => hup_at eh_2 (by omega))
  refine wp_aload_n dX10_levelledWith_62 rfl ?_
  refine wp_get fkX10_42 dX10_levelledWith_63 c2_0 rfl ?_
  refine wp_get fkX10_208 dX10_levelledWith_66 VX_2_______142.1 rfl ?_
  refine wp_iret dX10_levelledWith_69 rfl ?_
  have eS : S_2 = S := by rw [eS_2, eS_1]; exact su_back
  have H7 : HP G S h_2 := eS ▸ H_2
  have fr : ∀ q, q ≠ cB G + 16 + t → (q < cB G + 142 ∨ cB G + 154 ≤ q) → h_2 q = h9 q := fun q h1 h2 => by rw [hup_at eh_2 (by omega), f8 q (by omega), hup_at eh_1 (by omega)]
  have V6 : LVS G h_2 (cB G + 142) S_1 s8 u8 := VX_2_______142
  refine ⟨rfl, sp8.move ((fr _ (by omega) (by omega)).trans hs9) H7 (nt9.frame (fun q h1 h2 => fr q (by omega) (by omega))) (V6.z li8) (fun q h1 h2 => fr q (by omega) (by omega)) (fun q h1 => fr q (by omega) (by omega)), _, rfl, eb, ee, lb, le, rm, ld, od, fv, ?_⟩
  rw [es8, eS_1]
  exact LL_od _

/-- levelledLast() with a table -/
def LEVW (S1 : ST) (rl v : Int) : Prop := ∃ eb ee lb le rm ld, (EP S1 eb ee ∧ RG S1 eb ee ∧ LDY S1 ee ld) ∧ (LATE S1 eb lb le rm ld ∧ RG S1 lb le) ∧ v = LL S1 lb rm rl
theorem c_levelledWithout {l n : Nat} (sp : SPI G h S st K) (hl : l < n) (hn : S 14 0 0 = (n : Int)) : CT G mX10_levelledWithout [.ref (cB G), JV (l : Int)] h N 0 0 (fun r h' N' => N' = N ∧ SPI G h' S st K ∧ ∃ v : Int, r = some (JV v) ∧ ∃ S1 : ST, (∀ f, f ≠ 14 → f ≠ 18 → S1 f = S f) ∧ S1 14 0 0 = (n : Int) - 1 ∧ (∀ i, S1 18 i 0 = tkO (fun i => S 18 i 0) l n i) ∧ LEVW S1 (S 15 0 0) v) := by
  have hL := sp.2.2.1.nL
  refine CT_of (by decide +kernel) rfl (by simp [Value.category]) (Nat.le_of_ble_eq_true rfl) ?_
  change WP G mX10_levelledWithout _ noX _ _ h N 0 [some (.ref (cB G)), some (JV (l : Int))] []
  refine wp_aload_n dX10_levelledWithout_0 rfl ?_
  refine wp_iload_n dX10_levelledWithout_1 rfl ?_
  refine wp_v1 0 0 (c_checkLink (N := N) sp.1 sp.2.1 (by have := sp.2.2.1.nL; omega) (by omega) (by omega)) cvX10_146 dX10_levelledWithout_2 ⟨Nat.le_of_ble_eq_true rfl, Nat.le_of_ble_eq_true rfl⟩ (Nat.le_of_ble_eq_true rfl) sp.1 rfl rfl (by omega) (by omega) (fun r h9 N9 hq => ?_)
  obtain ⟨rfl, hh9, hN9⟩ := hq
  rw [hN9]
  rw [hh9]
  change WP G mX10_levelledWithout _ _ _ _ h N 5 [some (.ref (cB G)), some (JV (l : Int))] []
  refine wp_aload_n dX10_levelledWithout_5 rfl ?_
  refine wp_get fkX10_10 dX10_levelledWithout_6 sp.1 rfl ?_
  refine wp_iload_n dX10_levelledWithout_9 rfl ?_
  refine wp_v1 0 0 (c_takeOut (N := N) sp.2.1 (fun i hi => sp.2.2.1.perm hi) hl (by omega) hn) cvX10_149 dX10_levelledWithout_10 ⟨Nat.le_of_ble_eq_true rfl, Nat.le_of_ble_eq_true rfl⟩ (Nat.le_of_ble_eq_true rfl) sp.2.1.1 rfl rfl (by omega) (by omega) (fun r h8 N9 hq => ?_)
  obtain ⟨hN9, rfl, S1, H8, e0, e14, e18, f8⟩ := hq
  rw [hN9]
  have hs8 := (f8 (cB G) (by omega)).trans sp.1
  have wS := sp.2.2.1.drop hl hn e0 e14 e18
  have tS := sp.2.2.2.1.drop hl hn (e0 13 (by decide) (by decide)) (e0 16 (by decide) (by decide)) (e0 19 (by decide) (by decide)) (e0 20 (by decide) (by decide)) e14 e18
  obtain ⟨eb, ee, lb, le, rm, ld, W0, pe, pl, rb⟩ := sp.2.2.2.2.1
  obtain ⟨b7, e7, g7, u7, inn7, od7, ct7, ld7, V0, hu7, hz7⟩ := sp.2.2.2.2.2.1
  have W8 := W0.frame (fun q h1 h2 => f8 q (by omega))
  have V8 := V0.frame (fun q h1 h2 => f8 q (by omega))
  change WP G mX10_levelledWithout _ _ _ _ h8 N 13 [some (.ref (cB G)), some (JV (l : Int))] []
  refine wp_aload_n dX10_levelledWithout_13 rfl ?_
  refine wp_get fkX10_39 dX10_levelledWithout_14 hs8 rfl ?_
  refine wp_v0 0 0 (c_reckonEarly (N := N) (a := cB G + 134) W8 H8 (by omega) wS tS pe) cvX10_260 dX10_levelledWithout_17 ⟨Nat.le_of_ble_eq_true rfl, Nat.le_of_ble_eq_true rfl⟩ (Nat.le_of_ble_eq_true rfl) W8.1 rfl rfl (by omega) (by omega) (fun r h7 N9 hq => ?_)
  obtain ⟨rfl, hN9, eb', ee', ld', W7, H7, pb7, rg7, ep7, ldy7, f7⟩ := hq
  rw [hN9]
  have hs7 := (f7 (cB G) (by omega)).trans hs8
  have V7 := V8.frame (fun q h1 h2 => f7 q (by omega))
  change WP G mX10_levelledWithout _ _ _ _ h7 N 20 [some (.ref (cB G)), some (JV (l : Int))] []
  refine wp_aload_n dX10_levelledWithout_20 rfl ?_
  refine wp_get fkX10_39 dX10_levelledWithout_21 hs7 rfl ?_
  refine wp_v0 0 0 (c_reckonLate (N := N) (a := cB G + 134) W7 H7 (by omega) wS tS pb7 rg7 ldy7.2.2 pl rb) cvX10_263 dX10_levelledWithout_24 ⟨Nat.le_of_ble_eq_true rfl, Nat.le_of_ble_eq_true rfl⟩ (Nat.le_of_ble_eq_true rfl) W7.1 rfl rfl (by omega) (by omega) (fun r h6 N9 hq => ?_)
  obtain ⟨rfl, hN9, lb', le', rm', W6, H6, pb6, rb6, rg6, lt6, f6⟩ := hq
  rw [hN9]
  have hs6 := (f6 (cB G) (by omega)).trans hs7
  have V6 := V7.frame (fun q h1 h2 => f6 q (by omega))
  change WP G mX10_levelledWithout _ _ _ _ h6 N 27 [some (.ref (cB G)), some (JV (l : Int))] []
  refine wp_aload_n dX10_levelledWithout_27 rfl ?_
  refine wp_get fkX10_42 dX10_levelledWithout_28 hs6 rfl ?_
  refine wp_aload_n dX10_levelledWithout_31 rfl ?_
  refine wp_get fkX10_39 dX10_levelledWithout_32 hs6 rfl ?_
  refine wp_aload_n dX10_levelledWithout_35 rfl ?_
  refine wp_get fkX10_10 dX10_levelledWithout_36 hs6 rfl ?_
  refine wp_get fkX10_161 dX10_levelledWithout_39 H6.1 rfl ?_
  rw [e0 15 (by decide) (by decide)]
  refine wp_v2 0 0 (c_reckon (N := N) (a := cB G + 142) (q := cB G + 134) (rl := S 15 0 0) (by omega) (by omega) wS pb6 rb6 sp.2.2.1.rule V6 hu7 hz7 H6 W6) cvX10_256 dX10_levelledWithout_42 ⟨Nat.le_of_ble_eq_true rfl, Nat.le_of_ble_eq_true rfl⟩ (Nat.le_of_ble_eq_true rfl) V6.1 rfl rfl (by omega) (by omega) (fun r h5 N9 hq => ?_)
  obtain ⟨rfl, hN9, u8, V5, H5, li5, f5⟩ := hq
  rw [hN9]
  have hs5 := (f5 (cB G) (by omega)).trans hs6
  have W5 := W6.frame (fun q h1 h2 => f5 q (by omega))
  obtain ⟨s8, es8⟩ : ∃ s8 : LState, s8 = lvAll S1 lb' rm' (S 15 0 0) od7 := ⟨_, rfl⟩
  rw [← es8] at V5 li5
  change WP G mX10_levelledWithout _ _ _ _ h5 N 45 [some (.ref (cB G)), some (JV (l : Int))] []
  refine wp_aload_n dX10_levelledWithout_45 rfl ?_
  refine wp_get fkX10_10 dX10_levelledWithout_46 hs5 rfl ?_
  refine wp_iload_n dX10_levelledWithout_49 rfl ?_
  refine wp_v1 0 0 (c_putBack (N := N) (l := l) (n := n - 1) H5 (fun i hi => wS.perm hi) (by omega) (by omega) (by omega)) cvX10_266 dX10_levelledWithout_50 ⟨Nat.le_of_ble_eq_true rfl, Nat.le_of_ble_eq_true rfl⟩ (Nat.le_of_ble_eq_true rfl) H5.1 rfl rfl (by omega) (by omega) (fun r h4 N9 hq => ?_)
  obtain ⟨hN9, rfl, S2, H4, e0b, e14b, e18b, f4⟩ := hq
  rw [hN9]
  have hs4 := (f4 (cB G) (by omega)).trans hs5
  have V4 := LV.frame V5 (fun q h1 h2 => f4 q (by omega))
  change WP G mX10_levelledWithout _ _ _ _ h4 N 53 [some (.ref (cB G)), some (JV (l : Int))] []
  refine wp_aload_n dX10_levelledWithout_53 rfl ?_
  refine wp_get fkX10_42 dX10_levelledWithout_54 hs4 rfl ?_
  refine wp_get fkX10_208 dX10_levelledWithout_57 V4.1 rfl ?_
  refine wp_iret dX10_levelledWithout_60 rfl ?_
  have H3 : HP G S h4 := H4.ext (fun f h1 h2 => (e0b f h1 h2).trans (e0 f h1 h2)) (by rw [e14b, hn]; omega) (fun i => by rw [e18b, show (fun i => S1 18 i 0) = tkO (fun i => S 18 i 0) l n from funext e18]; exact ptB_tkO hl i)
  have fr : ∀ q, (q < cB G + 1 ∨ cB G + 6 ≤ q) → (q < cB G + 134 ∨ cB G + 154 ≤ q) → h4 q = h q := fun q h1 h2 => by rw [f4 q (by omega), f5 q (by omega), f6 q (by omega), f7 q (by omega), f8 q (by omega)]
  have V3 : LVS G h4 (cB G + 142) S1 s8 u8 := V4
  have W4 : NW G h4 (cB G + 134) eb' ee' lb' le' rm' ld' := W5.frame (fun q h1 h2 => f4 q (by omega))
  refine ⟨rfl, sp.move ((fr _ (by omega) (by omega)).trans sp.1) H3 ⟨_, _, _, _, _, _, W4, pb7, pb6, rb6⟩ (V3.z li5) (fun q h1 h2 => fr q (by omega) (by omega)) (fun q h1 => fr q (by omega) (by omega)), _, rfl, S1, e0, e14, e18, eb', ee', lb', le', rm', ld', ⟨ep7, rg7, ldy7⟩, ⟨lt6, rg6⟩, ?_⟩
  rw [es8]
  exact LL_od _

end Ask3

/-! ===== the rest of what is asked ===== -/
section Ask3
variable {G : Ctx} {h : AH} {N : Nat} {S : ST} {st : Int} {K : KTup}
theorem SPI.move {h' : AH} (sp : SPI G h S st K) (hs : h' (cB G) = some (cSP G st)) (H : HP G S h') (nt : NWz G h' (cB G + 134)) (lt : LVz G h' (cB G + 142)) (f1 : ∀ q, cB G + 108 ≤ q → q < cB G + 134 → h' q = h q) (f2 : ∀ q, cB G + 154 ≤ q → h' q = h q) : SPI G h' S st K := by
  obtain ⟨_, _, w, tp, _, _, kp, c⟩ := sp
  refine ⟨hs, H, w, tp, nt, lt, ⟨kp.1.frame (fun q h1 h2 => f2 q (by omega)), kp.2⟩, ?_, fun q hq => (f2 q (by omega)).trans (c.2 q hq)⟩
  rcases c with ⟨⟨c0, n, l, d⟩ | ⟨c0, f⟩, _⟩
  · exact Or.inl ⟨c0, n.frame (fun q h1 h2 => f1 q (by omega) (by omega)), l.frame (fun q h1 h2 => f1 q (by omega) (by omega)), d.frame (fun q h1 h2 => f1 q (by omega) (by omega))⟩
  · exact Or.inr ⟨c0, f.frame f1⟩
theorem LVS.z {a : Nat} {s : LState} {u : Int} (V : LVS G h a S s u) (li : LI s u) : LVz G h a := ⟨_, _, _, u, _, _, _, _, V, li.2.2.2.2.1, li.z⟩
theorem cnt_mono (wk : Nat → Bool) : ∀ (n m d : Nat), n ≤ m → cnt wk n d ≤ cnt wk m d
  | 0, m, d, _ => (cnt_r wk m d).1
  | n + 1, 0, d, h => absurd h (by omega)
  | n + 1, m + 1, d, h => by
    rw [cnt, cnt]
    have := cnt_mono wk n m (d + 1) (by omega)
    omega
theorem partF_r {b e inn ws kw : Nat → Int} {kr : Nat → Nat → Int} (kq : KR b e inn ws) {t : Nat} (ht : t < 24) (d : Int) : 0 ≤ partF S b e ws kw kr t d ∧ partF S b e ws kw kr t d ≤ 71280 := by
  unfold partF
  have q := (kq.2 t ht).2.2.1
  split
  · omega
  · rename_i hz
    have a := cnt_r (wkd (kw (S 6 t 0).toNat) (kr (S 6 t 0).toNat)) (e t - b t).toNat (b t).toNat
    have c := cnt_r (wkd (kw (S 6 t 0).toNat) (kr (S 6 t 0).toNat)) (min (e t) d - b t).toNat (b t).toNat
    have m := cnt_mono (wkd (kw (S 6 t 0).toNat) (kr (S 6 t 0).toNat)) (min (e t) d - b t).toNat (e t - b t).toNat (b t).toNat (by omega)
    refine ⟨Int.ediv_nonneg (Int.mul_nonneg q.1 c.1) a.1, ?_⟩
    refine Int.le_trans (Int.ediv_le_of_le_mul (by omega) (Int.mul_le_mul_of_nonneg_left m q.1)) q.2
theorem planF_r {b e inn ws kw : Nat → Int} {kr : Nat → Nat → Int} (kq : KR b e inn ws) (d : Int) : ∀ (m i : Nat), i + m ≤ 24 → 0 ≤ planF S b e inn ws kw kr d m i ∧ planF S b e inn ws kw kr d m i ≤ 71280 * (m : Int)
  | 0, _, _ => ⟨Int.le_refl _, by show (0 : Int) ≤ 71280 * 0; omega⟩
  | m + 1, i, hi => by
    have a := planF_r (kw := kw) (kr := kr) kq d m (i + 1) (by omega)
    have p := partF_r (S := S) (kw := kw) (kr := kr) kq (t := i) (by omega) d
    rw [planF]
    split <;> omega
def KEPT (S : ST) (K K' : KTup) (s : LState) : Prop := (∀ x : Nat, (x : Int) < S 13 0 0 → K'.2.1 x = s.1 x ∧ K'.2.2.1 x = s.2.1 x ∧ K'.2.2.2.1 x = s.2.2.1 x ∧ K'.2.2.2.2.1 x = S 5 x 0 * wsum (fun c => S 12 x c * S 4 c 0) 4) ∧ (∀ x : Nat, ¬ (x : Int) < S 13 0 0 → K'.2.1 x = K.2.1 x ∧ K'.2.2.1 x = K.2.2.1 x ∧ K'.2.2.2.1 x = K.2.2.2.1 x ∧ K'.2.2.2.2.1 x = K.2.2.2.2.1 x) ∧ ∀ c, c < 4 → K'.2.2.2.2.2.1 c = S 0 c 0 ∧ K'.2.2.2.2.2.2.1 c = S 1 c 0 ∧ ∀ d, d < 1000 → K'.2.2.2.2.2.2.2 c d = S 2 c d
theorem worth_r (w : WF S) {x : Nat} (hx : x < 24) : 0 ≤ S 5 x 0 * wsum (fun c => S 12 x c * S 4 c 0) 4 ∧ S 5 x 0 * wsum (fun c => S 12 x c * S 4 c 0) 4 ≤ 71280 := by
  have wx := (w.task hx).1
  have a := wsum_r (f := fun c => S 12 x c * S 4 c 0) (M := 891) 4 (fun c hc => by
    have n := w.need x c
    have p := w.crew hc
    exact ⟨Int.mul_nonneg n.1 p.2.1, Int.le_trans (Int.mul_le_mul n.2 p.2.2 p.2.1 (by omega)) (by omega)⟩)
  exact ⟨Int.mul_nonneg wx.1 a.1, Int.le_trans (Int.mul_le_mul wx.2 a.2 a.1 (by omega)) (by omega)⟩
theorem KR.keep {K K' : KTup} {s : LState} {u : Int} (w : WF S) (kq : KR K.2.1 K.2.2.1 K.2.2.2.1 K.2.2.2.2.1) (li : LI s u) (lo : LO S s) (k : KEPT S K K' s) : KR K'.2.1 K'.2.2.1 K'.2.2.2.1 K'.2.2.2.2.1 := by
  refine ⟨fun x => ?_, fun x hx => ?_⟩
  · by_cases hn : (x : Int) < S 13 0 0
    · rw [(k.1 x hn).2.2.1]; exact li.1 x
    · rw [(k.2.1 x hn).2.2.1]; exact kq.1 x
  · by_cases hn : (x : Int) < S 13 0 0
    · obtain ⟨e1, e2, e3, e4⟩ := k.1 x hn
      rw [e1, e2, e3, e4]
      have a := li.2.1 x hx
      have b := li.2.2.2.2.2.2
      have c := worth_r w hx
      exact ⟨by omega, by omega, c, fun h => (lo.1 x hx h).1⟩
    · obtain ⟨e1, e2, e3, e4⟩ := k.2.1 x hn
      rw [e1, e2, e3, e4]
      exact kq.2 x hx
theorem c_heldBy {t : Nat} (sp : SPI G h S st K) (ht : (t : Int) < S 13 0 0) : CT G mX10_heldBy [.ref (cB G), JV (t : Int)] h N 0 0 (fun r h' N' => N' = N ∧ SPI G h' S 0 K ∧ ∃ v : Int, r = some (JV v) ∧ ∃ eb ee lb le rm ld od, FV S eb ee lb le rm ld od ∧ v = lthF S (lvAll S lb rm (S 15 0 0) od).1 (lvAll S lb rm (S 15 0 0) od).2.1 (lvAll S lb rm (S 15 0 0) od).2.2.1 t) := by
  have hT := sp.2.2.1.nT
  have ht24 : t < 24 := by omega
  refine CT_of (by decide +kernel) rfl (by simp [Value.category]) (Nat.le_of_ble_eq_true rfl) ?_
  change WP G mX10_heldBy _ noX _ _ h N 0 [some (.ref (cB G)), some (JV (t : Int))] []
  refine wp_aload_n dX10_heldBy_0 rfl ?_
  refine wp_iload_n dX10_heldBy_1 rfl ?_
  refine wp_v1 0 0 (c_checkTask (N := N) sp.1 sp.2.1 (by have := sp.2.2.1.nT; omega) (by omega) ht) cvX10_114 dX10_heldBy_2 ⟨Nat.le_of_ble_eq_true rfl, Nat.le_of_ble_eq_true rfl⟩ (Nat.le_of_ble_eq_true rfl) sp.1 rfl rfl (by omega) (by omega) (fun r h9 N9 hq => ?_)
  obtain ⟨rfl, hh9, hN9⟩ := hq
  rw [hN9]
  rw [hh9]
  change WP G mX10_heldBy _ _ _ _ h N 5 [some (.ref (cB G)), some (JV (t : Int))] []
  refine wp_aload_n dX10_heldBy_5 rfl ?_
  refine wp_v0 0 0 (c_refresh (N := N) sp) cvX10_171 dX10_heldBy_6 ⟨Nat.le_of_ble_eq_true rfl, Nat.le_of_ble_eq_true rfl⟩ (Nat.le_of_ble_eq_true rfl) sp.1 rfl rfl (by omega) (by omega) (fun r h9 N9 hq => ?_)
  obtain ⟨rfl, hN9, sp9⟩ := hq
  rw [hN9]
  have sp8 := sp9
  obtain ⟨eb, ee, lb, le, rm, ld, wu, od, u9, W9, fa, fb, fc, fd, V9, li9⟩ := sp9.fresh
  obtain ⟨hs9, H9, w9, tp9, nt9, lt9, kp9, cc9⟩ := sp9
  have fv : FV S eb ee lb le rm ld od := ⟨fa, fb, fc, u9, li9⟩
  clear cc9
  change WP G mX10_heldBy _ _ _ _ h9 N 9 [some (.ref (cB G)), some (JV (t : Int))] []
  refine wp_aload_n dX10_heldBy_9 rfl ?_
  refine wp_get fkX10_28 dX10_heldBy_10 hs9 rfl ?_
  refine wp_iload_n dX10_heldBy_13 rfl ?_
  refine wp_v1p (c_linkThatHolds (N := N) V9 H9 w9 li9.pb li9.1 ht24 (fun h1 h2 j hj hl => by have lo := LO_all (S := S) w9 (lb := lb) (rm := rm) (rl := S 15 0 0) (od := od); have wj := w9.at (i := j) (by have := w9.nL; omega); exact (lo.1 (lF S j).toNat (by show (S 19 (S 18 j 0).toNat 0).toNat < 24; omega) (lo.2 t ht24 h2 h1 j hj hl)).2)) cvX10_229 dX10_heldBy_14 ⟨Nat.le_of_ble_eq_true rfl, Nat.le_of_ble_eq_true rfl⟩ (Nat.le_of_ble_eq_true rfl) V9.1 rfl rfl ?_
  refine wp_iret dX10_heldBy_17 rfl ?_
  exact ⟨rfl, sp8, _, rfl, eb, ee, lb, le, rm, ld, od, fv, rfl⟩

theorem c_keep (sp : SPI G h S st K) : CT G mX10_keep [.ref (cB G)] h N 0 0 (fun r h' N' => N' = N ∧ ∃ K', K'.1 = K.1 ∧ SPI G h' S 0 K' ∧ ∃ v : Int, r = some (JV v) ∧ ∃ eb ee lb le rm ld od, FV S eb ee lb le rm ld od ∧ v = (lvAll S lb rm (S 15 0 0) od).2.2.2.2.1 ∧ KEPT S K K' (lvAll S lb rm (S 15 0 0) od)) := by
  refine CT_of (by decide +kernel) rfl (by simp [Value.category]) (Nat.le_of_ble_eq_true rfl) ?_
  change WP G mX10_keep _ noX _ _ h N 0 [some (.ref (cB G))] []
  refine wp_aload_n dX10_keep_0 rfl ?_
  refine wp_v0 0 0 (c_refresh (N := N) sp) cvX10_171 dX10_keep_1 ⟨Nat.le_of_ble_eq_true rfl, Nat.le_of_ble_eq_true rfl⟩ (Nat.le_of_ble_eq_true rfl) sp.1 rfl rfl (by omega) (by omega) (fun r h9 N9 hq => ?_)
  obtain ⟨rfl, hN9, sp9⟩ := hq
  rw [hN9]
  have sp8 := sp9
  obtain ⟨eb, ee, lb, le, rm, ld, wu, od, u9, W9, fa, fb, fc, fd, V9, li9⟩ := sp9.fresh
  obtain ⟨hs9, H9, w9, tp9, nt9, lt9, kp9, cc9⟩ := sp9
  have fv : FV S eb ee lb le rm ld od := ⟨fa, fb, fc, u9, li9⟩
  clear cc9
  change WP G mX10_keep _ _ _ _ h9 N 4 [some (.ref (cB G))] []
  refine wp_aload_n dX10_keep_4 rfl ?_
  refine wp_get fkX10_48 dX10_keep_5 hs9 rfl ?_
  refine wp_aload_n dX10_keep_8 rfl ?_
  refine wp_get fkX10_28 dX10_keep_9 hs9 rfl ?_
  refine wp_v1 0 0 (c_take (N := N) (a := cB G + 154) (q := cB G + 116) (by omega) (by omega) w9 li9.1 kp9.1 H9 V9) cvX10_236 dX10_keep_12 ⟨Nat.le_of_ble_eq_true rfl, Nat.le_of_ble_eq_true rfl⟩ (Nat.le_of_ble_eq_true rfl) kp9.1.1 rfl rfl (by omega) (by omega) (fun r h8 N9 hq => ?_)
  obtain ⟨rfl, hN9, b', e', i', w', kw', kf', kr', K8, H8, p1, p2, p3, f8⟩ := hq
  rw [hN9]
  have hs8 := (f8 (cB G) (by omega)).trans hs9
  have V8 := LV.frame V9 (fun q h1 h2 => f8 q (by omega))
  change WP G mX10_keep _ _ _ _ h8 N 15 [some (.ref (cB G))] []
  refine wp_aload_n dX10_keep_15 rfl ?_
  refine wp_get fkX10_28 dX10_keep_16 hs8 rfl ?_
  refine wp_get fkX10_209 dX10_keep_19 V8.1 rfl ?_
  refine wp_iret dX10_keep_22 rfl ?_
  have ke : KEPT S K (K.1, b', e', i', w', kw', kf', kr') (lvAll S lb rm (S 15 0 0) od) := ⟨p1, p2, p3⟩
  exact ⟨rfl, (K.1, b', e', i', w', kw', kf', kr'), rfl, ⟨hs8, H8, w9, tp9, nt9.frame (fun q h1 h2 => f8 q (by omega)), lt9.frame (fun q h1 h2 => f8 q (by omega)), ⟨K8, KR.keep w9 kp9.2 li9 (LO_all w9) ke⟩, Or.inr ⟨rfl, sp8.fresh.frame (fun q h1 h2 => f8 q (by omega))⟩, fun q hq => (f8 q (by omega)).trans (sp8.2.2.2.2.2.2.2.2 q hq)⟩, _, rfl, eb, ee, lb, le, rm, ld, od, fv, rfl, ke⟩

def paceF (p e : Int) : UInt64 := if p = 0 then 0 else FP.ddiv (FP.i2d (Int32.ofInt e)) (FP.i2d (Int32.ofInt p))
/-- last() with another length -/
def LASTW (S : ST) (t : Nat) (x v : Int) : Prop := ∃ eb ee, EP (su S 5 t 0 x) eb ee ∧ RG (su S 5 t 0 x) eb ee ∧ LDY (su S 5 t 0 x) ee v
theorem WF.len {t : Nat} {x : Int} (w : WF S) (hx : 0 ≤ x ∧ x ≤ 20) : WF (su S 5 t 0 x) := by
  obtain ⟨w1, w2, w3, w4, w5, w6, w7, w8, w9, w10, w11, w12, w13⟩ := w
  refine ⟨w1, w2, w3, w4, fun c hc => ?_, w6, w7, w8, w9, w10, w11, w12, w13⟩
  have q := w5 c hc
  simp only [su]
  by_cases hct : c = t <;> simp [hct] <;> (try subst hct) <;> omega
theorem WF.siz {t : Nat} {x : Int} (w : WF S) (hx : 0 ≤ x ∧ x ≤ 9) : WF (su S 3 t 0 x) := by
  obtain ⟨w1, w2, w3, w4, w5, w6, w7, w8, w9, w10, w11, w12, w13⟩ := w
  refine ⟨w1, w2, w3, fun c hc => ?_, w5, w6, w7, w8, w9, w10, w11, w12, w13⟩
  have q := w4 c hc
  simp only [su]
  by_cases hct : c = t <;> simp [hct] <;> (try subst hct) <;> omega
theorem su_back {f i j : Nat} {v : Int} : su (su S f i j v) f i j (S f i j) = S := by
  funext a b c
  unfold su
  by_cases hh : a = f ∧ b = i ∧ c = j
  · rw [if_pos hh, hh.1, hh.2.1, hh.2.2]
  · rw [if_neg hh, if_neg hh]
theorem WF.drop {S1 : ST} {l n : Nat} (w : WF S) (hl : l < n) (hn : S 14 0 0 = (n : Int)) (e0 : ∀ f, f ≠ 14 → f ≠ 18 → S1 f = S f) (e14 : S1 14 0 0 = (n : Int) - 1) (e18 : ∀ i, S1 18 i 0 = tkO (fun i => S 18 i 0) l n i) : WF S1 := by
  have hL := w.nL
  obtain ⟨w1, w2, w3, w4, w5, w6, w7, w8, w9, w10, w11, w12, w13⟩ := w
  unfold WF
  rw [e14]
  simp only [e0 0 (by decide) (by decide), e0 1 (by decide) (by decide), e0 2 (by decide) (by decide), e0 3 (by decide) (by decide), e0 4 (by decide) (by decide), e0 5 (by decide) (by decide), e0 6 (by decide) (by decide), e0 7 (by decide) (by decide), e0 8 (by decide) (by decide), e0 9 (by decide) (by decide), e0 10 (by decide) (by decide), e0 11 (by decide) (by decide), e0 12 (by decide) (by decide), e0 13 (by decide) (by decide), e0 15 (by decide) (by decide), e0 16 (by decide) (by decide), e0 17 (by decide) (by decide), e0 19 (by decide) (by decide), e0 20 (by decide) (by decide), e0 21 (by decide) (by decide), e0 22 (by decide) (by decide)]
  refine ⟨w1, w2, w3, w4, w5, w6, w7, by omega, w9, w10, w11, fun i hi => ?_, w13⟩
  rw [e18]
  unfold tkO
  split
  · exact w12 (i + 1) (by omega)
  · split
    · exact w12 l (by omega)
    · exact w12 i hi
/-- levelledLast() with a table -/
def LEVW (S1 : ST) (rl v : Int) : Prop := ∃ eb ee lb le rm ld, (EP S1 eb ee ∧ RG S1 eb ee ∧ LDY S1 ee ld) ∧ (LATE S1 eb lb le rm ld ∧ RG S1 lb le) ∧ v = LL S1 lb rm rl
end Ask3

/-! ===== what the reference tells ===== -/
section My
variable {G : Ctx} {h : AH} {N : Nat} {S M : ST} {L : Nat → Nat} {z : Int64}
/-- laid out, with the number of what was thrown -/
def MRE (G : Ctx) (S M : ST) (L : Nat → Nat) (z : Int64) (h : AH) (N : Nat) (t : Int) (M' : ST) (h' : AH) (N' : Nat) : Prop := N ≤ N' ∧ N' ≤ N + 30 ∧ MP G N' M' L z h' ∧ RS S M' ∧ M' 0 0 0 = t ∧ M' 17 0 0 = 1 ∧ LAID S M' ∧ (∀ f, (∀ g ∈ mDV, g ≠ f) → f ≠ 0 → M' f = M f) ∧ FA G N h h'
theorem wsum_ext {f : Nat → Int} {n : Nat} : ∀ k, n ≤ k → (∀ x, n ≤ x → f x = 0) → wsum f n = wsum f k
  | 0, h, _ => by rw [show n = 0 by omega]
  | k + 1, h, q => by
    by_cases hk : n = k + 1
    · rw [hk]
    · rw [wsum, ← wsum_ext k (by omega) q, q k (by omega)]
      omega
theorem m_earlyBegin (P : MP G N M L z h) (r : RS S M) (w : WF S) (tp : TOP S) (hl : M 17 0 0 = 0 ∨ (M 17 0 0 = 1 ∧ LAID S M)) {v : Int} (hv : InR v) : CT G mX11_earlyBegin [.ref (cB G + 169), JV v] h N 2 48 (fun r h' N' => ∃ M', MRE G S M L z h N (if 0 ≤ v ∧ v < S 13 0 0 then 0 else 1) M' h' N' ∧ r = some (JV (if 0 ≤ v ∧ v < S 13 0 0 then M' 19 0 v.toNat else 0))) := by
  refine CT_of (by decide +kernel) rfl (by simp [Value.category]) (Nat.le_of_ble_eq_true rfl) ?_
  change WP G mX11_earlyBegin _ noX _ _ h N 0 [some (.ref (cB G + 169)), some (JV v)] []
  refine wp_aload_n dX11_earlyBegin_0 rfl ?_
  refine wp_iload_n dX11_earlyBegin_1 rfl ?_
  refine wp_v1 0 0 (m_hasTask (N := N) P r w tp hl hv) cvX11_223 dX11_earlyBegin_2 ⟨Nat.le_of_ble_eq_true rfl, Nat.le_of_ble_eq_true rfl⟩ (Nat.le_of_ble_eq_true rfl) P.c0 rfl rfl (by omega) (by omega) (fun r9 h7 N7 hq => ?_)
  obtain ⟨hN7, hN7b, rfl, M7, P7, r7, e70, e717, la7, m7, f7⟩ := hq
  change WP G mX11_earlyBegin _ _ _ _ h7 N7 5 [some (.ref (cB G + 169)), some (JV v)] [JV (bI (decide (0 ≤ v ∧ v < S 13 0 0)))]
  refine wp_if_eq 19 dX11_earlyBegin_5 (by decide) (bI_r _) (fun c_5 => ?_) (fun c_5 => ?_)
  · refine wp_iconst dX11_earlyBegin_19 ?_
    refine wp_iret dX11_earlyBegin_20 rfl ?_
    refine ⟨M7, ⟨hN7, by omega, P7, r7, e70, e717, la7, m7, f7⟩, ?_⟩
    rw [if_neg (fun q => by rw [decide_eq_true q] at c_5; exact absurd c_5 (by decide))]
  · have hv9 := bI_p c_5
    have wT := w.nT
    refine wp_aload_n dX11_earlyBegin_8 rfl ?_
    refine wp_get fkX11_55 dX11_earlyBegin_9 (P7.s0 r7) rfl ?_
    refine wp_iconst dX11_earlyBegin_12 ?_
    refine wp_aaload dX11_earlyBegin_13 P7.q19 rfl rfl (by omega) (by omega) (by omega) (if_pos (by omega)) ?_
    change WP G mX11_earlyBegin _ _ _ _ h7 N7 14 [some (.ref (cB G + 169)), some (JV v)] [.ref (cB G + 255 + 0)]
    refine wp_iload_n dX11_earlyBegin_14 rfl ?_
    refine wp_iaload dX11_earlyBegin_15 (P7.r19 (i := 0) (by omega)) (by omega) (by omega) (by omega) ?_
    refine wp_goto 20 dX11_earlyBegin_16 (by decide) ?_
    refine wp_iret dX11_earlyBegin_20 rfl ?_
    refine ⟨M7, ⟨hN7, by omega, P7, r7, e70, e717, la7, m7, f7⟩, ?_⟩
    rw [if_pos hv9]

theorem m_earlyEnd (P : MP G N M L z h) (r : RS S M) (w : WF S) (tp : TOP S) (hl : M 17 0 0 = 0 ∨ (M 17 0 0 = 1 ∧ LAID S M)) {v : Int} (hv : InR v) : CT G mX11_earlyEnd [.ref (cB G + 169), JV v] h N 2 48 (fun r h' N' => ∃ M', MRE G S M L z h N (if 0 ≤ v ∧ v < S 13 0 0 then 0 else 1) M' h' N' ∧ r = some (JV (if 0 ≤ v ∧ v < S 13 0 0 then M' 19 1 v.toNat else 0))) := by
  refine CT_of (by decide +kernel) rfl (by simp [Value.category]) (Nat.le_of_ble_eq_true rfl) ?_
  change WP G mX11_earlyEnd _ noX _ _ h N 0 [some (.ref (cB G + 169)), some (JV v)] []
  refine wp_aload_n dX11_earlyEnd_0 rfl ?_
  refine wp_iload_n dX11_earlyEnd_1 rfl ?_
  refine wp_v1 0 0 (m_hasTask (N := N) P r w tp hl hv) cvX11_223 dX11_earlyEnd_2 ⟨Nat.le_of_ble_eq_true rfl, Nat.le_of_ble_eq_true rfl⟩ (Nat.le_of_ble_eq_true rfl) P.c0 rfl rfl (by omega) (by omega) (fun r9 h7 N7 hq => ?_)
  obtain ⟨hN7, hN7b, rfl, M7, P7, r7, e70, e717, la7, m7, f7⟩ := hq
  change WP G mX11_earlyEnd _ _ _ _ h7 N7 5 [some (.ref (cB G + 169)), some (JV v)] [JV (bI (decide (0 ≤ v ∧ v < S 13 0 0)))]
  refine wp_if_eq 19 dX11_earlyEnd_5 (by decide) (bI_r _) (fun c_5 => ?_) (fun c_5 => ?_)
  · refine wp_iconst dX11_earlyEnd_19 ?_
    refine wp_iret dX11_earlyEnd_20 rfl ?_
    refine ⟨M7, ⟨hN7, by omega, P7, r7, e70, e717, la7, m7, f7⟩, ?_⟩
    rw [if_neg (fun q => by rw [decide_eq_true q] at c_5; exact absurd c_5 (by decide))]
  · have hv9 := bI_p c_5
    have wT := w.nT
    refine wp_aload_n dX11_earlyEnd_8 rfl ?_
    refine wp_get fkX11_55 dX11_earlyEnd_9 (P7.s0 r7) rfl ?_
    refine wp_iconst dX11_earlyEnd_12 ?_
    refine wp_aaload dX11_earlyEnd_13 P7.q19 rfl rfl (by omega) (by omega) (by omega) (if_pos (by omega)) ?_
    change WP G mX11_earlyEnd _ _ _ _ h7 N7 14 [some (.ref (cB G + 169)), some (JV v)] [.ref (cB G + 255 + 1)]
    refine wp_iload_n dX11_earlyEnd_14 rfl ?_
    refine wp_iaload dX11_earlyEnd_15 (P7.r19 (i := 1) (by omega)) (by omega) (by omega) (by omega) ?_
    refine wp_goto 20 dX11_earlyEnd_16 (by decide) ?_
    refine wp_iret dX11_earlyEnd_20 rfl ?_
    refine ⟨M7, ⟨hN7, by omega, P7, r7, e70, e717, la7, m7, f7⟩, ?_⟩
    rw [if_pos hv9]

theorem m_lateBegin (P : MP G N M L z h) (r : RS S M) (w : WF S) (tp : TOP S) (hl : M 17 0 0 = 0 ∨ (M 17 0 0 = 1 ∧ LAID S M)) {v : Int} (hv : InR v) : CT G mX11_lateBegin [.ref (cB G + 169), JV v] h N 2 48 (fun r h' N' => ∃ M', MRE G S M L z h N (if 0 ≤ v ∧ v < S 13 0 0 then 0 else 1) M' h' N' ∧ r = some (JV (if 0 ≤ v ∧ v < S 13 0 0 then M' 20 0 v.toNat else 0))) := by
  refine CT_of (by decide +kernel) rfl (by simp [Value.category]) (Nat.le_of_ble_eq_true rfl) ?_
  change WP G mX11_lateBegin _ noX _ _ h N 0 [some (.ref (cB G + 169)), some (JV v)] []
  refine wp_aload_n dX11_lateBegin_0 rfl ?_
  refine wp_iload_n dX11_lateBegin_1 rfl ?_
  refine wp_v1 0 0 (m_hasTask (N := N) P r w tp hl hv) cvX11_223 dX11_lateBegin_2 ⟨Nat.le_of_ble_eq_true rfl, Nat.le_of_ble_eq_true rfl⟩ (Nat.le_of_ble_eq_true rfl) P.c0 rfl rfl (by omega) (by omega) (fun r9 h7 N7 hq => ?_)
  obtain ⟨hN7, hN7b, rfl, M7, P7, r7, e70, e717, la7, m7, f7⟩ := hq
  change WP G mX11_lateBegin _ _ _ _ h7 N7 5 [some (.ref (cB G + 169)), some (JV v)] [JV (bI (decide (0 ≤ v ∧ v < S 13 0 0)))]
  refine wp_if_eq 19 dX11_lateBegin_5 (by decide) (bI_r _) (fun c_5 => ?_) (fun c_5 => ?_)
  · refine wp_iconst dX11_lateBegin_19 ?_
    refine wp_iret dX11_lateBegin_20 rfl ?_
    refine ⟨M7, ⟨hN7, by omega, P7, r7, e70, e717, la7, m7, f7⟩, ?_⟩
    rw [if_neg (fun q => by rw [decide_eq_true q] at c_5; exact absurd c_5 (by decide))]
  · have hv9 := bI_p c_5
    have wT := w.nT
    refine wp_aload_n dX11_lateBegin_8 rfl ?_
    refine wp_get fkX11_58 dX11_lateBegin_9 (P7.s0 r7) rfl ?_
    refine wp_iconst dX11_lateBegin_12 ?_
    refine wp_aaload dX11_lateBegin_13 P7.q20 rfl rfl (by omega) (by omega) (by omega) (if_pos (by omega)) ?_
    change WP G mX11_lateBegin _ _ _ _ h7 N7 14 [some (.ref (cB G + 169)), some (JV v)] [.ref (cB G + 258 + 0)]
    refine wp_iload_n dX11_lateBegin_14 rfl ?_
    refine wp_iaload dX11_lateBegin_15 (P7.r20 (i := 0) (by omega)) (by omega) (by omega) (by omega) ?_
    refine wp_goto 20 dX11_lateBegin_16 (by decide) ?_
    refine wp_iret dX11_lateBegin_20 rfl ?_
    refine ⟨M7, ⟨hN7, by omega, P7, r7, e70, e717, la7, m7, f7⟩, ?_⟩
    rw [if_pos hv9]

theorem m_lateEnd (P : MP G N M L z h) (r : RS S M) (w : WF S) (tp : TOP S) (hl : M 17 0 0 = 0 ∨ (M 17 0 0 = 1 ∧ LAID S M)) {v : Int} (hv : InR v) : CT G mX11_lateEnd [.ref (cB G + 169), JV v] h N 2 48 (fun r h' N' => ∃ M', MRE G S M L z h N (if 0 ≤ v ∧ v < S 13 0 0 then 0 else 1) M' h' N' ∧ r = some (JV (if 0 ≤ v ∧ v < S 13 0 0 then M' 20 1 v.toNat else 0))) := by
  refine CT_of (by decide +kernel) rfl (by simp [Value.category]) (Nat.le_of_ble_eq_true rfl) ?_
  change WP G mX11_lateEnd _ noX _ _ h N 0 [some (.ref (cB G + 169)), some (JV v)] []
  refine wp_aload_n dX11_lateEnd_0 rfl ?_
  refine wp_iload_n dX11_lateEnd_1 rfl ?_
  refine wp_v1 0 0 (m_hasTask (N := N) P r w tp hl hv) cvX11_223 dX11_lateEnd_2 ⟨Nat.le_of_ble_eq_true rfl, Nat.le_of_ble_eq_true rfl⟩ (Nat.le_of_ble_eq_true rfl) P.c0 rfl rfl (by omega) (by omega) (fun r9 h7 N7 hq => ?_)
  obtain ⟨hN7, hN7b, rfl, M7, P7, r7, e70, e717, la7, m7, f7⟩ := hq
  change WP G mX11_lateEnd _ _ _ _ h7 N7 5 [some (.ref (cB G + 169)), some (JV v)] [JV (bI (decide (0 ≤ v ∧ v < S 13 0 0)))]
  refine wp_if_eq 19 dX11_lateEnd_5 (by decide) (bI_r _) (fun c_5 => ?_) (fun c_5 => ?_)
  · refine wp_iconst dX11_lateEnd_19 ?_
    refine wp_iret dX11_lateEnd_20 rfl ?_
    refine ⟨M7, ⟨hN7, by omega, P7, r7, e70, e717, la7, m7, f7⟩, ?_⟩
    rw [if_neg (fun q => by rw [decide_eq_true q] at c_5; exact absurd c_5 (by decide))]
  · have hv9 := bI_p c_5
    have wT := w.nT
    refine wp_aload_n dX11_lateEnd_8 rfl ?_
    refine wp_get fkX11_58 dX11_lateEnd_9 (P7.s0 r7) rfl ?_
    refine wp_iconst dX11_lateEnd_12 ?_
    refine wp_aaload dX11_lateEnd_13 P7.q20 rfl rfl (by omega) (by omega) (by omega) (if_pos (by omega)) ?_
    change WP G mX11_lateEnd _ _ _ _ h7 N7 14 [some (.ref (cB G + 169)), some (JV v)] [.ref (cB G + 258 + 1)]
    refine wp_iload_n dX11_lateEnd_14 rfl ?_
    refine wp_iaload dX11_lateEnd_15 (P7.r20 (i := 1) (by omega)) (by omega) (by omega) (by omega) ?_
    refine wp_goto 20 dX11_lateEnd_16 (by decide) ?_
    refine wp_iret dX11_lateEnd_20 rfl ?_
    refine ⟨M7, ⟨hN7, by omega, P7, r7, e70, e717, la7, m7, f7⟩, ?_⟩
    rw [if_pos hv9]

theorem m_room (P : MP G N M L z h) (r : RS S M) (w : WF S) (tp : TOP S) (hl : M 17 0 0 = 0 ∨ (M 17 0 0 = 1 ∧ LAID S M)) {v : Int} (hv : InR v) : CT G mX11_room [.ref (cB G + 169), JV v] h N 2 48 (fun r h' N' => ∃ M', MRE G S M L z h N (if 0 ≤ v ∧ v < S 13 0 0 then 0 else 1) M' h' N' ∧ r = some (JV (if 0 ≤ v ∧ v < S 13 0 0 then M' 21 v.toNat 0 else 0))) := by
  refine CT_of (by decide +kernel) rfl (by simp [Value.category]) (Nat.le_of_ble_eq_true rfl) ?_
  change WP G mX11_room _ noX _ _ h N 0 [some (.ref (cB G + 169)), some (JV v)] []
  refine wp_aload_n dX11_room_0 rfl ?_
  refine wp_iload_n dX11_room_1 rfl ?_
  refine wp_v1 0 0 (m_hasTask (N := N) P r w tp hl hv) cvX11_223 dX11_room_2 ⟨Nat.le_of_ble_eq_true rfl, Nat.le_of_ble_eq_true rfl⟩ (Nat.le_of_ble_eq_true rfl) P.c0 rfl rfl (by omega) (by omega) (fun r9 h7 N7 hq => ?_)
  obtain ⟨hN7, hN7b, rfl, M7, P7, r7, e70, e717, la7, m7, f7⟩ := hq
  change WP G mX11_room _ _ _ _ h7 N7 5 [some (.ref (cB G + 169)), some (JV v)] [JV (bI (decide (0 ≤ v ∧ v < S 13 0 0)))]
  refine wp_if_eq 17 dX11_room_5 (by decide) (bI_r _) (fun c_5 => ?_) (fun c_5 => ?_)
  · refine wp_iconst dX11_room_17 ?_
    refine wp_iret dX11_room_18 rfl ?_
    refine ⟨M7, ⟨hN7, by omega, P7, r7, e70, e717, la7, m7, f7⟩, ?_⟩
    rw [if_neg (fun q => by rw [decide_eq_true q] at c_5; exact absurd c_5 (by decide))]
  · have hv9 := bI_p c_5
    have wT := w.nT
    refine wp_aload_n dX11_room_8 rfl ?_
    refine wp_get fkX11_61 dX11_room_9 (P7.s0 r7) rfl ?_
    refine wp_iload_n dX11_room_12 rfl ?_
    refine wp_iaload dX11_room_13 P7.c21 (by omega) (by omega) (by omega) ?_
    refine wp_goto 18 dX11_room_14 (by decide) ?_
    refine wp_iret dX11_room_18 rfl ?_
    refine ⟨M7, ⟨hN7, by omega, P7, r7, e70, e717, la7, m7, f7⟩, ?_⟩
    rw [if_pos hv9]

theorem m_begin (P : MP G N M L z h) (r : RS S M) (w : WF S) (tp : TOP S) (hl : M 17 0 0 = 0 ∨ (M 17 0 0 = 1 ∧ LAID S M)) {v : Int} (hv : InR v) : CT G mX11_begin [.ref (cB G + 169), JV v] h N 2 48 (fun r h' N' => ∃ M', MRE G S M L z h N (if 0 ≤ v ∧ v < S 13 0 0 then 0 else 1) M' h' N' ∧ r = some (JV (if 0 ≤ v ∧ v < S 13 0 0 then M' 22 0 v.toNat else 0))) := by
  refine CT_of (by decide +kernel) rfl (by simp [Value.category]) (Nat.le_of_ble_eq_true rfl) ?_
  change WP G mX11_begin _ noX _ _ h N 0 [some (.ref (cB G + 169)), some (JV v)] []
  refine wp_aload_n dX11_begin_0 rfl ?_
  refine wp_iload_n dX11_begin_1 rfl ?_
  refine wp_v1 0 0 (m_hasTask (N := N) P r w tp hl hv) cvX11_223 dX11_begin_2 ⟨Nat.le_of_ble_eq_true rfl, Nat.le_of_ble_eq_true rfl⟩ (Nat.le_of_ble_eq_true rfl) P.c0 rfl rfl (by omega) (by omega) (fun r9 h7 N7 hq => ?_)
  obtain ⟨hN7, hN7b, rfl, M7, P7, r7, e70, e717, la7, m7, f7⟩ := hq
  change WP G mX11_begin _ _ _ _ h7 N7 5 [some (.ref (cB G + 169)), some (JV v)] [JV (bI (decide (0 ≤ v ∧ v < S 13 0 0)))]
  refine wp_if_eq 19 dX11_begin_5 (by decide) (bI_r _) (fun c_5 => ?_) (fun c_5 => ?_)
  · refine wp_iconst dX11_begin_19 ?_
    refine wp_iret dX11_begin_20 rfl ?_
    refine ⟨M7, ⟨hN7, by omega, P7, r7, e70, e717, la7, m7, f7⟩, ?_⟩
    rw [if_neg (fun q => by rw [decide_eq_true q] at c_5; exact absurd c_5 (by decide))]
  · have hv9 := bI_p c_5
    have wT := w.nT
    refine wp_aload_n dX11_begin_8 rfl ?_
    refine wp_get fkX11_64 dX11_begin_9 (P7.s0 r7) rfl ?_
    refine wp_iconst dX11_begin_12 ?_
    refine wp_aaload dX11_begin_13 P7.q22 rfl rfl (by omega) (by omega) (by omega) (if_pos (by omega)) ?_
    change WP G mX11_begin _ _ _ _ h7 N7 14 [some (.ref (cB G + 169)), some (JV v)] [.ref (cB G + 262 + 0)]
    refine wp_iload_n dX11_begin_14 rfl ?_
    refine wp_iaload dX11_begin_15 (P7.r22 (i := 0) (by omega)) (by omega) (by omega) (by omega) ?_
    refine wp_goto 20 dX11_begin_16 (by decide) ?_
    refine wp_iret dX11_begin_20 rfl ?_
    refine ⟨M7, ⟨hN7, by omega, P7, r7, e70, e717, la7, m7, f7⟩, ?_⟩
    rw [if_pos hv9]

theorem m_end (P : MP G N M L z h) (r : RS S M) (w : WF S) (tp : TOP S) (hl : M 17 0 0 = 0 ∨ (M 17 0 0 = 1 ∧ LAID S M)) {v : Int} (hv : InR v) : CT G mX11_end [.ref (cB G + 169), JV v] h N 2 48 (fun r h' N' => ∃ M', MRE G S M L z h N (if 0 ≤ v ∧ v < S 13 0 0 then 0 else 1) M' h' N' ∧ r = some (JV (if 0 ≤ v ∧ v < S 13 0 0 then M' 22 1 v.toNat else 0))) := by
  refine CT_of (by decide +kernel) rfl (by simp [Value.category]) (Nat.le_of_ble_eq_true rfl) ?_
  change WP G mX11_end _ noX _ _ h N 0 [some (.ref (cB G + 169)), some (JV v)] []
  refine wp_aload_n dX11_end_0 rfl ?_
  refine wp_iload_n dX11_end_1 rfl ?_
  refine wp_v1 0 0 (m_hasTask (N := N) P r w tp hl hv) cvX11_223 dX11_end_2 ⟨Nat.le_of_ble_eq_true rfl, Nat.le_of_ble_eq_true rfl⟩ (Nat.le_of_ble_eq_true rfl) P.c0 rfl rfl (by omega) (by omega) (fun r9 h7 N7 hq => ?_)
  obtain ⟨hN7, hN7b, rfl, M7, P7, r7, e70, e717, la7, m7, f7⟩ := hq
  change WP G mX11_end _ _ _ _ h7 N7 5 [some (.ref (cB G + 169)), some (JV v)] [JV (bI (decide (0 ≤ v ∧ v < S 13 0 0)))]
  refine wp_if_eq 19 dX11_end_5 (by decide) (bI_r _) (fun c_5 => ?_) (fun c_5 => ?_)
  · refine wp_iconst dX11_end_19 ?_
    refine wp_iret dX11_end_20 rfl ?_
    refine ⟨M7, ⟨hN7, by omega, P7, r7, e70, e717, la7, m7, f7⟩, ?_⟩
    rw [if_neg (fun q => by rw [decide_eq_true q] at c_5; exact absurd c_5 (by decide))]
  · have hv9 := bI_p c_5
    have wT := w.nT
    refine wp_aload_n dX11_end_8 rfl ?_
    refine wp_get fkX11_64 dX11_end_9 (P7.s0 r7) rfl ?_
    refine wp_iconst dX11_end_12 ?_
    refine wp_aaload dX11_end_13 P7.q22 rfl rfl (by omega) (by omega) (by omega) (if_pos (by omega)) ?_
    change WP G mX11_end _ _ _ _ h7 N7 14 [some (.ref (cB G + 169)), some (JV v)] [.ref (cB G + 262 + 1)]
    refine wp_iload_n dX11_end_14 rfl ?_
    refine wp_iaload dX11_end_15 (P7.r22 (i := 1) (by omega)) (by omega) (by omega) (by omega) ?_
    refine wp_goto 20 dX11_end_16 (by decide) ?_
    refine wp_iret dX11_end_20 rfl ?_
    refine ⟨M7, ⟨hN7, by omega, P7, r7, e70, e717, la7, m7, f7⟩, ?_⟩
    rw [if_pos hv9]

theorem l_tightNow {Q : PQ} {X : PX} {k9 n9 : Nat} (P : MP G N M L z h) (r : RS S M) (w : WF S) (tp : TOP S) (la : LAID S M) : ∀ (m : Nat) (i : Nat) (y : Int), ((S 13 0 0).toNat - i = m) → (i ≤ 24) → (Q (some (JV (y + tgt S (fun t => M 21 t 0) m i))) h N) → WP G mX11_tightNow Q X k9 n9 h N 4 [some (.ref (cB G + 169)), some (JV y), some (JV (i : Int))] [] := by
  intro m
  induction m with
  | zero =>
    intro i y hm hi kk
    have wT := w.nT
    refine wp_iload_n dX11_tightNow_4 rfl ?_
    refine wp_aload_n dX11_tightNow_5 rfl ?_
    refine wp_get fkX11_96 dX11_tightNow_6 (P.s0 r) rfl ?_
    refine wp_icmp_ge 44 dX11_tightNow_9 (by decide) ⟨by omega, by omega⟩ ⟨by omega, by omega⟩ (fun c_9 => ?_) (fun c_9 => ?_)
    · refine wp_iload_n dX11_tightNow_44 rfl ?_
      refine wp_iret dX11_tightNow_45 rfl ?_
      simp only [tgt, Int.add_zero] at kk
      exact kk
    · exact absurd c_9 (by omega)
  | succ m ih =>
    intro i y hm hi kk
    have wT := w.nT
    refine wp_iload_n dX11_tightNow_4 rfl ?_
    refine wp_aload_n dX11_tightNow_5 rfl ?_
    refine wp_get fkX11_96 dX11_tightNow_6 (P.s0 r) rfl ?_
    refine wp_icmp_ge 44 dX11_tightNow_9 (by decide) ⟨by omega, by omega⟩ ⟨by omega, by omega⟩ (fun c_9 => ?_) (fun c_9 => ?_)
    · exact absurd c_9 (by omega)
    · have wi := w.task (t := i) (by omega)
      have hb := LATE_b w tp la.1 la.2.1 la.2.2.1 i (by omega)
      refine wp_iload_n dX11_tightNow_12 rfl ?_
      refine wp_aload_n dX11_tightNow_13 rfl ?_
      refine wp_get fkX11_42 dX11_tightNow_14 (P.s0 r) rfl ?_
      refine wp_iload_n dX11_tightNow_17 rfl ?_
      refine wp_zaload dX11_tightNow_18 (P.s12 r) (by omega) (by omega) (by omega) ?_
      change WP G mX11_tightNow _ _ _ _ h N 19 [some (.ref (cB G + 169)), some (JV y), some (JV (i : Int))] [JV (S 9 i 0), JV y]
      refine wp_if_ne 35 dX11_tightNow_19 (by decide) ⟨by omega, by omega⟩ (fun c_19 => ?_) (fun c_19 => ?_)
      · refine wp_iconst dX11_tightNow_35 ?_
        refine wp_iadd dX11_tightNow_36 ?_
        refine wp_istore_n dX11_tightNow_37 (Nat.le_of_ble_eq_true rfl) rfl ?_
        change WP G mX11_tightNow _ _ _ _ h N 38 [some (.ref (cB G + 169)), some (JV (y + 0)), some (JV (i : Int))] []
        refine wp_iinc dX11_tightNow_38 rfl (Nat.le_of_ble_eq_true rfl) rfl ?_
        change WP G mX11_tightNow _ _ _ _ h N 41 [some (.ref (cB G + 169)), some (JV (y + 0)), some (JV ((i : Int) + 1))] []
        refine wp_goto 4 dX11_tightNow_41 (by decide) ?_
        rw [tgt, if_neg (fun q => c_19 q.2), ← Int.add_assoc] at kk
        exact ih (i + 1) (y + 0) (by omega) (by omega) kk
      · refine wp_aload_n dX11_tightNow_22 rfl ?_
        refine wp_get fkX11_61 dX11_tightNow_23 (P.s0 r) rfl ?_
        refine wp_iload_n dX11_tightNow_26 rfl ?_
        refine wp_iaload dX11_tightNow_27 P.c21 (by omega) (by omega) (by omega) ?_
        change WP G mX11_tightNow _ _ _ _ h N 28 [some (.ref (cB G + 169)), some (JV y), some (JV (i : Int))] [JV (M 21 i 0), JV y]
        refine wp_if_ne 35 dX11_tightNow_28 (by decide) ⟨by omega, by omega⟩ (fun c_28 => ?_) (fun c_28 => ?_)
        · refine wp_iconst dX11_tightNow_35 ?_
          refine wp_iadd dX11_tightNow_36 ?_
          refine wp_istore_n dX11_tightNow_37 (Nat.le_of_ble_eq_true rfl) rfl ?_
          change WP G mX11_tightNow _ _ _ _ h N 38 [some (.ref (cB G + 169)), some (JV (y + 0)), some (JV (i : Int))] []
          refine wp_iinc dX11_tightNow_38 rfl (Nat.le_of_ble_eq_true rfl) rfl ?_
          change WP G mX11_tightNow _ _ _ _ h N 41 [some (.ref (cB G + 169)), some (JV (y + 0)), some (JV ((i : Int) + 1))] []
          refine wp_goto 4 dX11_tightNow_41 (by decide) ?_
          rw [tgt, if_neg (fun q => c_28 q.1), ← Int.add_assoc] at kk
          exact ih (i + 1) (y + 0) (by omega) (by omega) kk
        · refine wp_iconst dX11_tightNow_31 ?_
          refine wp_goto 36 dX11_tightNow_32 (by decide) ?_
          refine wp_iadd dX11_tightNow_36 ?_
          refine wp_istore_n dX11_tightNow_37 (Nat.le_of_ble_eq_true rfl) rfl ?_
          change WP G mX11_tightNow _ _ _ _ h N 38 [some (.ref (cB G + 169)), some (JV (y + 1)), some (JV (i : Int))] []
          refine wp_iinc dX11_tightNow_38 rfl (Nat.le_of_ble_eq_true rfl) rfl ?_
          change WP G mX11_tightNow _ _ _ _ h N 41 [some (.ref (cB G + 169)), some (JV (y + 1)), some (JV ((i : Int) + 1))] []
          refine wp_goto 4 dX11_tightNow_41 (by decide) ?_
          rw [tgt, if_pos ⟨c_28, c_19⟩, ← Int.add_assoc] at kk
          exact ih (i + 1) (y + 1) (by omega) (by omega) kk

theorem m_tightNow (P : MP G N M L z h) (r : RS S M) (w : WF S) (tp : TOP S) (la : LAID S M) : CT G mX11_tightNow [.ref (cB G + 169)] h N 0 0 (PV (JV (tgt S (fun t => M 21 t 0) (S 13 0 0).toNat 0)) h N) := by
  refine CT_of (by decide +kernel) rfl (by simp [Value.category]) (Nat.le_of_ble_eq_true rfl) ?_
  change WP G mX11_tightNow _ noX _ _ h N 0 [some (.ref (cB G + 169)), none, none] []
  refine wp_iconst dX11_tightNow_0 ?_
  refine wp_istore_n dX11_tightNow_1 (Nat.le_of_ble_eq_true rfl) rfl ?_
  change WP G mX11_tightNow _ _ _ _ h N 2 [some (.ref (cB G + 169)), some (JV 0), none] []
  refine wp_iconst dX11_tightNow_2 ?_
  refine wp_istore_n dX11_tightNow_3 (Nat.le_of_ble_eq_true rfl) rfl ?_
  change WP G mX11_tightNow _ _ _ _ h N 4 [some (.ref (cB G + 169)), some (JV 0), some (JV 0)] []
  have wT := w.nT
  refine l_tightNow P r w tp la _ 0 0 rfl (by omega) ?_
  rw [Int.zero_add]
  exact ⟨rfl, rfl, rfl⟩

theorem l_wantedOn {Q : PQ} {X : PX} {k9 n9 : Nat} (P : MP G N M L z h) (r : RS S M) (w : WF S) (tp : TOP S) (la : LAID S M) {c d : Nat} (hc : c < 4) (hd : d ≤ 9999) : ∀ (m : Nat) (t : Nat) (y : Int), ((S 13 0 0).toNat - t = m) → (t ≤ (S 13 0 0).toNat) → (y = wsum (fun t => if inT S t = 1 ∧ M 19 0 t ≤ (d : Int) ∧ (d : Int) < min (M 19 1 t) 5000 ∧ wkS S (S 6 t 0).toNat d = true then S 12 t c else 0) t) → (Q (some (JV (wsum (fun t => if inT S t = 1 ∧ M 19 0 t ≤ (d : Int) ∧ (d : Int) < min (M 19 1 t) 5000 ∧ wkS S (S 6 t 0).toNat d = true then S 12 t c else 0) (S 13 0 0).toNat))) h N) → WP G mX11_wantedOn Q X k9 n9 h N 5 [some (.ref (cB G + 169)), some (JV (c : Int)), some (JV (d : Int)), some (JV y), some (JV (t : Int))] [] := by
  intro m
  induction m with
  | zero =>
    intro t y hm hi ey kk
    have wT := w.nT
    refine wp_iload dX11_wantedOn_5 rfl ?_
    refine wp_aload_n dX11_wantedOn_7 rfl ?_
    refine wp_get fkX11_96 dX11_wantedOn_8 (P.s0 r) rfl ?_
    refine wp_icmp_ge 89 dX11_wantedOn_11 (by decide) ⟨by omega, by omega⟩ ⟨by omega, by omega⟩ (fun c_11 => ?_) (fun c_11 => ?_)
    · refine wp_iload_n dX11_wantedOn_89 rfl ?_
      refine wp_iret dX11_wantedOn_90 rfl ?_
      rw [ey]
      have et : t = (S 13 0 0).toNat := by omega
      rw [et]
      exact kk
    · exact absurd c_11 (by omega)
  | succ m ih =>
    intro t y hm hi ey kk
    have wT := w.nT
    refine wp_iload dX11_wantedOn_5 rfl ?_
    refine wp_aload_n dX11_wantedOn_7 rfl ?_
    refine wp_get fkX11_96 dX11_wantedOn_8 (P.s0 r) rfl ?_
    refine wp_icmp_ge 89 dX11_wantedOn_11 (by decide) ⟨by omega, by omega⟩ ⟨by omega, by omega⟩ (fun c_11 => ?_) (fun c_11 => ?_)
    · exact absurd c_11 (by omega)
    · have wt := w.task (t := t) (by omega)
      have wn := w.need t c
      have ok := (EP_all w tp la.1 (t := t) (by omega)).1
      have hin : inT S t = 1 := if_pos (by omega)
      refine wp_iload_n dX11_wantedOn_14 rfl ?_
      refine wp_iload_n dX11_wantedOn_15 rfl ?_
      refine wp_aload_n dX11_wantedOn_16 rfl ?_
      refine wp_get fkX11_55 dX11_wantedOn_17 (P.s0 r) rfl ?_
      refine wp_iconst dX11_wantedOn_20 ?_
      refine wp_aaload dX11_wantedOn_21 P.q19 rfl rfl (by omega) (by omega) (by omega) (if_pos (by omega)) ?_
      change WP G mX11_wantedOn _ _ _ _ h N 22 [some (.ref (cB G + 169)), some (JV (c : Int)), some (JV (d : Int)), some (JV y), some (JV (t : Int))] [.ref (cB G + 255 + 0), JV (d : Int), JV y]
      refine wp_iload dX11_wantedOn_22 rfl ?_
      refine wp_iaload dX11_wantedOn_24 (P.r19 (i := 0) (by omega)) (by omega) (by omega) (by omega) ?_
      change WP G mX11_wantedOn _ _ _ _ h N 25 [some (.ref (cB G + 169)), some (JV (c : Int)), some (JV (d : Int)), some (JV y), some (JV (t : Int))] [JV (M 19 0 t), JV (d : Int), JV y]
      refine wp_icmp_lt 80 dX11_wantedOn_25 (by decide) ⟨by omega, by omega⟩ ⟨by omega, by omega⟩ (fun c_25 => ?_) (fun c_25 => ?_)
      · refine wp_iconst dX11_wantedOn_80 ?_
        refine wp_iadd dX11_wantedOn_81 ?_
        refine wp_istore_n dX11_wantedOn_82 (Nat.le_of_ble_eq_true rfl) rfl ?_
        change WP G mX11_wantedOn _ _ _ _ h N 83 [some (.ref (cB G + 169)), some (JV (c : Int)), some (JV (d : Int)), some (JV (y + 0)), some (JV (t : Int))] []
        refine wp_iinc dX11_wantedOn_83 rfl (Nat.le_of_ble_eq_true rfl) rfl ?_
        change WP G mX11_wantedOn _ _ _ _ h N 86 [some (.ref (cB G + 169)), some (JV (c : Int)), some (JV (d : Int)), some (JV (y + 0)), some (JV ((t : Int) + 1))] []
        refine wp_goto 5 dX11_wantedOn_86 (by decide) ?_
        refine ih (t + 1) (y + 0) (by omega) (by omega) ?_ kk
        rw [wsum, ey]
        congr 1
        exact (if_neg (fun q => by omega)).symm
      · refine wp_iload_n dX11_wantedOn_28 rfl ?_
        refine wp_aload_n dX11_wantedOn_29 rfl ?_
        refine wp_get fkX11_55 dX11_wantedOn_30 (P.s0 r) rfl ?_
        refine wp_iconst dX11_wantedOn_33 ?_
        refine wp_aaload dX11_wantedOn_34 P.q19 rfl rfl (by omega) (by omega) (by omega) (if_pos (by omega)) ?_
        change WP G mX11_wantedOn _ _ _ _ h N 35 [some (.ref (cB G + 169)), some (JV (c : Int)), some (JV (d : Int)), some (JV y), some (JV (t : Int))] [.ref (cB G + 255 + 1), JV (d : Int), JV y]
        refine wp_iload dX11_wantedOn_35 rfl ?_
        refine wp_iaload dX11_wantedOn_37 (P.r19 (i := 1) (by omega)) (by omega) (by omega) (by omega) ?_
        change WP G mX11_wantedOn _ _ _ _ h N 38 [some (.ref (cB G + 169)), some (JV (c : Int)), some (JV (d : Int)), some (JV y), some (JV (t : Int))] [JV (M 19 1 t), JV (d : Int), JV y]
        refine wp_icmp_ge 80 dX11_wantedOn_38 (by decide) ⟨by omega, by omega⟩ ⟨by omega, by omega⟩ (fun c_38 => ?_) (fun c_38 => ?_)
        · refine wp_iconst dX11_wantedOn_80 ?_
          refine wp_iadd dX11_wantedOn_81 ?_
          refine wp_istore_n dX11_wantedOn_82 (Nat.le_of_ble_eq_true rfl) rfl ?_
          change WP G mX11_wantedOn _ _ _ _ h N 83 [some (.ref (cB G + 169)), some (JV (c : Int)), some (JV (d : Int)), some (JV (y + 0)), some (JV (t : Int))] []
          refine wp_iinc dX11_wantedOn_83 rfl (Nat.le_of_ble_eq_true rfl) rfl ?_
          change WP G mX11_wantedOn _ _ _ _ h N 86 [some (.ref (cB G + 169)), some (JV (c : Int)), some (JV (d : Int)), some (JV (y + 0)), some (JV ((t : Int) + 1))] []
          refine wp_goto 5 dX11_wantedOn_86 (by decide) ?_
          refine ih (t + 1) (y + 0) (by omega) (by omega) ?_ kk
          rw [wsum, ey]
          congr 1
          exact (if_neg (fun q => by omega)).symm
        · refine wp_aload_n dX11_wantedOn_41 rfl ?_
          refine wp_get fkX11_39 dX11_wantedOn_42 (P.s0 r) rfl ?_
          refine wp_iload dX11_wantedOn_45 rfl ?_
          refine wp_aaload dX11_wantedOn_47 P.q11 rfl rfl (by omega) (by omega) (by omega) (if_pos (by omega)) ?_
          change WP G mX11_wantedOn _ _ _ _ h N 48 [some (.ref (cB G + 169)), some (JV (c : Int)), some (JV (d : Int)), some (JV y), some (JV (t : Int))] [.ref (cB G + 184 + t), JV y]
          refine wp_iload_n dX11_wantedOn_48 rfl ?_
          refine wp_iaload dX11_wantedOn_49 (P.s11 r (i := t) (by omega)) (by omega) (by omega) (by omega) ?_
          change WP G mX11_wantedOn _ _ _ _ h N 50 [some (.ref (cB G + 169)), some (JV (c : Int)), some (JV (d : Int)), some (JV y), some (JV (t : Int))] [JV (S 12 t c), JV y]
          refine wp_if_le 80 dX11_wantedOn_50 (by decide) ⟨by omega, by omega⟩ (fun c_50 => ?_) (fun c_50 => ?_)
          · refine wp_iconst dX11_wantedOn_80 ?_
            refine wp_iadd dX11_wantedOn_81 ?_
            refine wp_istore_n dX11_wantedOn_82 (Nat.le_of_ble_eq_true rfl) rfl ?_
            change WP G mX11_wantedOn _ _ _ _ h N 83 [some (.ref (cB G + 169)), some (JV (c : Int)), some (JV (d : Int)), some (JV (y + 0)), some (JV (t : Int))] []
            refine wp_iinc dX11_wantedOn_83 rfl (Nat.le_of_ble_eq_true rfl) rfl ?_
            change WP G mX11_wantedOn _ _ _ _ h N 86 [some (.ref (cB G + 169)), some (JV (c : Int)), some (JV (d : Int)), some (JV (y + 0)), some (JV ((t : Int) + 1))] []
            refine wp_goto 5 dX11_wantedOn_86 (by decide) ?_
            refine ih (t + 1) (y + 0) (by omega) (by omega) ?_ kk
            rw [wsum, ey]
            congr 1
            have z9 : S 12 t c = 0 := by omega
            rw [z9]
            split <;> rfl
          · refine wp_aload_n dX11_wantedOn_53 rfl ?_
            refine wp_aload_n dX11_wantedOn_54 rfl ?_
            refine wp_get fkX11_30 dX11_wantedOn_55 (P.s0 r) rfl ?_
            refine wp_iload dX11_wantedOn_58 rfl ?_
            refine wp_iaload dX11_wantedOn_60 (P.s8 r) (by omega) (by omega) (by omega) ?_
            change WP G mX11_wantedOn _ _ _ _ h N 61 [some (.ref (cB G + 169)), some (JV (c : Int)), some (JV (d : Int)), some (JV y), some (JV (t : Int))] [JV (S 6 t 0), .ref (cB G + 169), JV y]
            refine wp_iload_n dX11_wantedOn_61 rfl ?_
            have won_62 := m_worksOn (N := N) (G := G) P r w (c := (S 6 t 0).toNat) (d := d) (by omega) (by omega)
            rw [show (((S 6 t 0).toNat : Nat) : Int) = S 6 t 0 by omega] at won_62
            refine wp_v2p won_62 cvX11_106 dX11_wantedOn_62 ⟨Nat.le_of_ble_eq_true rfl, Nat.le_of_ble_eq_true rfl⟩ (Nat.le_of_ble_eq_true rfl) (P.s0 r) rfl rfl ?_
            refine wp_if_eq 80 dX11_wantedOn_65 (by decide) (bI_r _) (fun c_65 => ?_) (fun c_65 => ?_)
            · refine wp_iconst dX11_wantedOn_80 ?_
              refine wp_iadd dX11_wantedOn_81 ?_
              refine wp_istore_n dX11_wantedOn_82 (Nat.le_of_ble_eq_true rfl) rfl ?_
              change WP G mX11_wantedOn _ _ _ _ h N 83 [some (.ref (cB G + 169)), some (JV (c : Int)), some (JV (d : Int)), some (JV (y + 0)), some (JV (t : Int))] []
              refine wp_iinc dX11_wantedOn_83 rfl (Nat.le_of_ble_eq_true rfl) rfl ?_
              change WP G mX11_wantedOn _ _ _ _ h N 86 [some (.ref (cB G + 169)), some (JV (c : Int)), some (JV (d : Int)), some (JV (y + 0)), some (JV ((t : Int) + 1))] []
              refine wp_goto 5 dX11_wantedOn_86 (by decide) ?_
              refine ih (t + 1) (y + 0) (by omega) (by omega) ?_ kk
              rw [wsum, ey]
              congr 1
              exact (if_neg (fun q => by rw [q.2.2.2] at c_65; exact absurd c_65 (by decide))).symm
            · refine wp_aload_n dX11_wantedOn_68 rfl ?_
              refine wp_get fkX11_39 dX11_wantedOn_69 (P.s0 r) rfl ?_
              refine wp_iload dX11_wantedOn_72 rfl ?_
              refine wp_aaload dX11_wantedOn_74 P.q11 rfl rfl (by omega) (by omega) (by omega) (if_pos (by omega)) ?_
              change WP G mX11_wantedOn _ _ _ _ h N 75 [some (.ref (cB G + 169)), some (JV (c : Int)), some (JV (d : Int)), some (JV y), some (JV (t : Int))] [.ref (cB G + 184 + t), JV y]
              refine wp_iload_n dX11_wantedOn_75 rfl ?_
              refine wp_iaload dX11_wantedOn_76 (P.s11 r (i := t) (by omega)) (by omega) (by omega) (by omega) ?_
              change WP G mX11_wantedOn _ _ _ _ h N 77 [some (.ref (cB G + 169)), some (JV (c : Int)), some (JV (d : Int)), some (JV y), some (JV (t : Int))] [JV (S 12 t c), JV y]
              refine wp_goto 81 dX11_wantedOn_77 (by decide) ?_
              refine wp_iadd dX11_wantedOn_81 ?_
              refine wp_istore_n dX11_wantedOn_82 (Nat.le_of_ble_eq_true rfl) rfl ?_
              change WP G mX11_wantedOn _ _ _ _ h N 83 [some (.ref (cB G + 169)), some (JV (c : Int)), some (JV (d : Int)), some (JV (y + (S 12 t c))), some (JV (t : Int))] []
              refine wp_iinc dX11_wantedOn_83 rfl (Nat.le_of_ble_eq_true rfl) rfl ?_
              change WP G mX11_wantedOn _ _ _ _ h N 86 [some (.ref (cB G + 169)), some (JV (c : Int)), some (JV (d : Int)), some (JV (y + (S 12 t c))), some (JV ((t : Int) + 1))] []
              refine wp_goto 5 dX11_wantedOn_86 (by decide) ?_
              refine ih (t + 1) (y + S 12 t c) (by omega) (by omega) ?_ kk
              rw [wsum, ey]
              congr 1
              exact (if_pos ⟨hin, by omega, by omega, bI_ne c_65⟩).symm

theorem m_wantedOn (P : MP G N M L z h) (r : RS S M) (w : WF S) (tp : TOP S) (la : LAID S M) {c d : Nat} (hc : c < 4) (hd : d ≤ 9999) : CT G mX11_wantedOn [.ref (cB G + 169), JV (c : Int), JV (d : Int)] h N 0 0 (PV (JV (ldg S (M 19 0) (M 19 1) (inT S) c d)) h N) := by
  refine CT_of (by decide +kernel) rfl (by simp [Value.category]) (Nat.le_of_ble_eq_true rfl) ?_
  change WP G mX11_wantedOn _ noX _ _ h N 0 [some (.ref (cB G + 169)), some (JV (c : Int)), some (JV (d : Int)), none, none] []
  refine wp_iconst dX11_wantedOn_0 ?_
  refine wp_istore_n dX11_wantedOn_1 (Nat.le_of_ble_eq_true rfl) rfl ?_
  change WP G mX11_wantedOn _ _ _ _ h N 2 [some (.ref (cB G + 169)), some (JV (c : Int)), some (JV (d : Int)), some (JV 0), none] []
  refine wp_iconst dX11_wantedOn_2 ?_
  refine wp_istore dX11_wantedOn_3 (Nat.le_of_ble_eq_true rfl) rfl ?_
  change WP G mX11_wantedOn _ _ _ _ h N 5 [some (.ref (cB G + 169)), some (JV (c : Int)), some (JV (d : Int)), some (JV 0), some (JV 0)] []
  have wT := w.nT
  refine l_wantedOn P r w tp la hc hd _ 0 0 rfl (Nat.zero_le _) rfl ⟨?_, rfl, rfl⟩
  unfold ldg
  rw [wsum_ext (n := (S 13 0 0).toNat) 24 (by omega) (fun x hx => if_neg (fun q => by have := q.1; unfold inT at this; rw [if_neg (by omega)] at this; omega))]

theorem l_overloadedNow {Q : PQ} {X : PX} {k9 n9 : Nat} (P : MP G N M L z h) (r : RS S M) (w : WF S) (tp : TOP S) (la : LAID S M) {c : Nat} (hc : c < 4) : ∀ (m : Nat) (d : Nat) (y : Int), ((M 25 0 0).toNat - d = m) → (d ≤ 6000) → (Q (some (JV (y + dab (ldg S (M 19 0) (M 19 1) (inT S) c) (S 3 c 0) m d))) h N) → WP G mX11_overloadedNow Q X k9 n9 h N 4 [some (.ref (cB G + 169)), some (JV (c : Int)), some (JV y), some (JV (d : Int))] [] := by
  intro m
  induction m with
  | zero =>
    intro d y hm hi kk
    have ldy := la.2.1.2.2
    have wc := w.crew hc
    refine wp_iload_n dX11_overloadedNow_4 rfl ?_
    refine wp_aload_n dX11_overloadedNow_5 rfl ?_
    refine wp_get fkX11_133 dX11_overloadedNow_6 (P.s0 r) rfl ?_
    refine wp_icmp_ge 41 dX11_overloadedNow_9 (by decide) ⟨by omega, by omega⟩ ⟨by omega, by omega⟩ (fun c_9 => ?_) (fun c_9 => ?_)
    · refine wp_iload_n dX11_overloadedNow_41 rfl ?_
      refine wp_iret dX11_overloadedNow_42 rfl ?_
      simp only [dab, Int.add_zero] at kk
      exact kk
    · exact absurd c_9 (by omega)
  | succ m ih =>
    intro d y hm hi kk
    have ldy := la.2.1.2.2
    have wc := w.crew hc
    have lr := ldg_r w (b := M 19 0) (e := M 19 1) (inn := inT S) c d
    refine wp_iload_n dX11_overloadedNow_4 rfl ?_
    refine wp_aload_n dX11_overloadedNow_5 rfl ?_
    refine wp_get fkX11_133 dX11_overloadedNow_6 (P.s0 r) rfl ?_
    refine wp_icmp_ge 41 dX11_overloadedNow_9 (by decide) ⟨by omega, by omega⟩ ⟨by omega, by omega⟩ (fun c_9 => ?_) (fun c_9 => ?_)
    · exact absurd c_9 (by omega)
    · refine wp_iload_n dX11_overloadedNow_12 rfl ?_
      refine wp_aload_n dX11_overloadedNow_13 rfl ?_
      refine wp_iload_n dX11_overloadedNow_14 rfl ?_
      refine wp_iload_n dX11_overloadedNow_15 rfl ?_
      refine wp_v2p (m_wantedOn (N := N) P r w tp la hc (d := d) (by omega)) cvX11_230 dX11_overloadedNow_16 ⟨Nat.le_of_ble_eq_true rfl, Nat.le_of_ble_eq_true rfl⟩ (Nat.le_of_ble_eq_true rfl) (P.s0 r) rfl rfl ?_
      refine wp_aload_n dX11_overloadedNow_19 rfl ?_
      refine wp_get fkX11_21 dX11_overloadedNow_20 (P.s0 r) rfl ?_
      refine wp_iload_n dX11_overloadedNow_23 rfl ?_
      refine wp_iaload dX11_overloadedNow_24 (P.s4 r) (by omega) (by omega) (by omega) ?_
      change WP G mX11_overloadedNow _ _ _ _ h N 25 [some (.ref (cB G + 169)), some (JV (c : Int)), some (JV y), some (JV (d : Int))] [JV (S 3 c 0), JV (ldg S (M 19 0) (M 19 1) (inT S) c d), JV y]
      refine wp_icmp_le 32 dX11_overloadedNow_25 (by decide) ⟨by omega, by omega⟩ ⟨by omega, by omega⟩ (fun c_25 => ?_) (fun c_25 => ?_)
      · refine wp_iconst dX11_overloadedNow_32 ?_
        refine wp_iadd dX11_overloadedNow_33 ?_
        refine wp_istore_n dX11_overloadedNow_34 (Nat.le_of_ble_eq_true rfl) rfl ?_
        change WP G mX11_overloadedNow _ _ _ _ h N 35 [some (.ref (cB G + 169)), some (JV (c : Int)), some (JV (y + 0)), some (JV (d : Int))] []
        refine wp_iinc dX11_overloadedNow_35 rfl (Nat.le_of_ble_eq_true rfl) rfl ?_
        change WP G mX11_overloadedNow _ _ _ _ h N 38 [some (.ref (cB G + 169)), some (JV (c : Int)), some (JV (y + 0)), some (JV ((d : Int) + 1))] []
        refine wp_goto 4 dX11_overloadedNow_38 (by decide) ?_
        rw [dab, if_neg (by omega), ← Int.add_assoc] at kk
        exact ih (d + 1) (y + 0) (by omega) (by omega) kk
      · refine wp_iconst dX11_overloadedNow_28 ?_
        refine wp_goto 33 dX11_overloadedNow_29 (by decide) ?_
        refine wp_iadd dX11_overloadedNow_33 ?_
        refine wp_istore_n dX11_overloadedNow_34 (Nat.le_of_ble_eq_true rfl) rfl ?_
        change WP G mX11_overloadedNow _ _ _ _ h N 35 [some (.ref (cB G + 169)), some (JV (c : Int)), some (JV (y + 1)), some (JV (d : Int))] []
        refine wp_iinc dX11_overloadedNow_35 rfl (Nat.le_of_ble_eq_true rfl) rfl ?_
        change WP G mX11_overloadedNow _ _ _ _ h N 38 [some (.ref (cB G + 169)), some (JV (c : Int)), some (JV (y + 1)), some (JV ((d : Int) + 1))] []
        refine wp_goto 4 dX11_overloadedNow_38 (by decide) ?_
        rw [dab, if_pos (by omega), ← Int.add_assoc] at kk
        exact ih (d + 1) (y + 1) (by omega) (by omega) kk

theorem m_overloadedNow (P : MP G N M L z h) (r : RS S M) (w : WF S) (tp : TOP S) (la : LAID S M) {c : Nat} (hc : c < 4) : CT G mX11_overloadedNow [.ref (cB G + 169), JV (c : Int)] h N 0 0 (PV (JV (dab (ldg S (M 19 0) (M 19 1) (inT S) c) (S 3 c 0) (M 25 0 0).toNat 0)) h N) := by
  refine CT_of (by decide +kernel) rfl (by simp [Value.category]) (Nat.le_of_ble_eq_true rfl) ?_
  change WP G mX11_overloadedNow _ noX _ _ h N 0 [some (.ref (cB G + 169)), some (JV (c : Int)), none, none] []
  refine wp_iconst dX11_overloadedNow_0 ?_
  refine wp_istore_n dX11_overloadedNow_1 (Nat.le_of_ble_eq_true rfl) rfl ?_
  change WP G mX11_overloadedNow _ _ _ _ h N 2 [some (.ref (cB G + 169)), some (JV (c : Int)), some (JV 0), none] []
  refine wp_iconst dX11_overloadedNow_2 ?_
  refine wp_istore_n dX11_overloadedNow_3 (Nat.le_of_ble_eq_true rfl) rfl ?_
  change WP G mX11_overloadedNow _ _ _ _ h N 4 [some (.ref (cB G + 169)), some (JV (c : Int)), some (JV 0), some (JV 0)] []
  refine l_overloadedNow P r w tp la hc _ 0 0 rfl (Nat.zero_le _) ?_
  rw [Int.zero_add]
  exact ⟨rfl, rfl, rfl⟩

theorem l_peakNow {Q : PQ} {X : PX} {k9 n9 : Nat} (P : MP G N M L z h) (r : RS S M) (w : WF S) {c : Nat} (hc : c < 4) (hus : ∀ d, d < 5000 → 0 ≤ M 27 c d ∧ M 27 c d ≤ 100000) (hld : 0 ≤ M 26 0 0 ∧ M 26 0 0 ≤ 5000) : ∀ (m : Nat) (d : Nat) (y : Int), ((M 26 0 0).toNat - d = m) → (d ≤ 6000) → (0 ≤ y ∧ y ≤ 100000) → (Q (some (JV (grt (M 27 c) m d y))) h N) → WP G mX11_peakNow Q X k9 n9 h N 4 [some (.ref (cB G + 169)), some (JV (c : Int)), some (JV y), some (JV (d : Int))] [] := by
  intro m
  induction m with
  | zero =>
    intro d y hm hi hy kk
    refine wp_iload_n dX11_peakNow_4 rfl ?_
    refine wp_aload_n dX11_peakNow_5 rfl ?_
    refine wp_get fkX11_153 dX11_peakNow_6 (P.s0 r) rfl ?_
    refine wp_icmp_ge 31 dX11_peakNow_9 (by decide) ⟨by omega, by omega⟩ ⟨by omega, by omega⟩ (fun c_9 => ?_) (fun c_9 => ?_)
    · refine wp_iload_n dX11_peakNow_31 rfl ?_
      refine wp_iret dX11_peakNow_32 rfl ?_
      exact kk
    · exact absurd c_9 (by omega)
  | succ m ih =>
    intro d y hm hi hy kk
    refine wp_iload_n dX11_peakNow_4 rfl ?_
    refine wp_aload_n dX11_peakNow_5 rfl ?_
    refine wp_get fkX11_153 dX11_peakNow_6 (P.s0 r) rfl ?_
    refine wp_icmp_ge 31 dX11_peakNow_9 (by decide) ⟨by omega, by omega⟩ ⟨by omega, by omega⟩ (fun c_9 => ?_) (fun c_9 => ?_)
    · exact absurd c_9 (by omega)
    · have ud := hus d (by omega)
      refine wp_iload_n dX11_peakNow_12 rfl ?_
      refine wp_aload_n dX11_peakNow_13 rfl ?_
      refine wp_get fkX11_70 dX11_peakNow_14 (P.s0 r) rfl ?_
      refine wp_iload_n dX11_peakNow_17 rfl ?_
      refine wp_aaload dX11_peakNow_18 P.q27 rfl rfl (by omega) (by omega) (by omega) (if_pos (by omega)) ?_
      change WP G mX11_peakNow _ _ _ _ h N 19 [some (.ref (cB G + 169)), some (JV (c : Int)), some (JV y), some (JV (d : Int))] [.ref (cB G + 266 + c), JV y]
      refine wp_iload_n dX11_peakNow_19 rfl ?_
      refine wp_iaload dX11_peakNow_20 (P.r27 (i := c) (by omega)) (by omega) (by omega) (by omega) ?_
      change WP G mX11_peakNow _ _ _ _ h N 21 [some (.ref (cB G + 169)), some (JV (c : Int)), some (JV y), some (JV (d : Int))] [JV (M 27 c d), JV y]
      refine wp_max dX11_peakNow_21 maX11_116 w_max (Nat.le_of_ble_eq_true rfl) (Nat.le_of_ble_eq_true rfl) ⟨by omega, by omega⟩ ⟨by omega, by omega⟩ ?_
      refine wp_istore_n dX11_peakNow_24 (Nat.le_of_ble_eq_true rfl) rfl ?_
      change WP G mX11_peakNow _ _ _ _ h N 25 [some (.ref (cB G + 169)), some (JV (c : Int)), some (JV (max y (M 27 c d))), some (JV (d : Int))] []
      refine wp_iinc dX11_peakNow_25 rfl (Nat.le_of_ble_eq_true rfl) rfl ?_
      change WP G mX11_peakNow _ _ _ _ h N 28 [some (.ref (cB G + 169)), some (JV (c : Int)), some (JV (max y (M 27 c d))), some (JV ((d : Int) + 1))] []
      refine wp_goto 4 dX11_peakNow_28 (by decide) ?_
      rw [grt] at kk
      exact ih (d + 1) _ (by omega) (by omega) (by omega) kk

theorem m_peakNow (P : MP G N M L z h) (r : RS S M) (w : WF S) {c : Nat} (hc : c < 4) (hus : ∀ d, d < 5000 → 0 ≤ M 27 c d ∧ M 27 c d ≤ 100000) (hld : 0 ≤ M 26 0 0 ∧ M 26 0 0 ≤ 5000) : CT G mX11_peakNow [.ref (cB G + 169), JV (c : Int)] h N 0 0 (PV (JV (grt (M 27 c) (M 26 0 0).toNat 0 0)) h N) := by
  refine CT_of (by decide +kernel) rfl (by simp [Value.category]) (Nat.le_of_ble_eq_true rfl) ?_
  change WP G mX11_peakNow _ noX _ _ h N 0 [some (.ref (cB G + 169)), some (JV (c : Int)), none, none] []
  refine wp_iconst dX11_peakNow_0 ?_
  refine wp_istore_n dX11_peakNow_1 (Nat.le_of_ble_eq_true rfl) rfl ?_
  change WP G mX11_peakNow _ _ _ _ h N 2 [some (.ref (cB G + 169)), some (JV (c : Int)), some (JV 0), none] []
  refine wp_iconst dX11_peakNow_2 ?_
  refine wp_istore_n dX11_peakNow_3 (Nat.le_of_ble_eq_true rfl) rfl ?_
  change WP G mX11_peakNow _ _ _ _ h N 4 [some (.ref (cB G + 169)), some (JV (c : Int)), some (JV 0), some (JV 0)] []
  exact l_peakNow P r w hc hus hld _ 0 0 rfl (Nat.zero_le _) (by omega) ⟨rfl, rfl, rfl⟩

theorem l_idleNow {Q : PQ} {X : PX} {k9 n9 : Nat} (P : MP G N M L z h) (r : RS S M) (w : WF S) {c : Nat} (hc : c < 4) (hus : ∀ d, d < 5000 → 0 ≤ M 27 c d ∧ M 27 c d ≤ 100000) (hld : 0 ≤ M 26 0 0 ∧ M 26 0 0 ≤ 5000) : ∀ (m : Nat) (d : Nat) (y : Int), ((M 26 0 0).toNat - d = m) → (d ≤ 6000) → (Q (some (JV (y + lov (M 27) c (S 3 c 0) m d))) h N) → WP G mX11_idleNow Q X k9 n9 h N 4 [some (.ref (cB G + 169)), some (JV (c : Int)), some (JV y), some (JV (d : Int))] [] := by
  intro m
  induction m with
  | zero =>
    intro d y hm hi kk
    refine wp_iload_n dX11_idleNow_4 rfl ?_
    refine wp_aload_n dX11_idleNow_5 rfl ?_
    refine wp_get fkX11_153 dX11_idleNow_6 (P.s0 r) rfl ?_
    refine wp_icmp_ge 40 dX11_idleNow_9 (by decide) ⟨by omega, by omega⟩ ⟨by omega, by omega⟩ (fun c_9 => ?_) (fun c_9 => ?_)
    · refine wp_iload_n dX11_idleNow_40 rfl ?_
      refine wp_iret dX11_idleNow_41 rfl ?_
      simp only [lov, Int.add_zero] at kk
      exact kk
    · exact absurd c_9 (by omega)
  | succ m ih =>
    intro d y hm hi kk
    refine wp_iload_n dX11_idleNow_4 rfl ?_
    refine wp_aload_n dX11_idleNow_5 rfl ?_
    refine wp_get fkX11_153 dX11_idleNow_6 (P.s0 r) rfl ?_
    refine wp_icmp_ge 40 dX11_idleNow_9 (by decide) ⟨by omega, by omega⟩ ⟨by omega, by omega⟩ (fun c_9 => ?_) (fun c_9 => ?_)
    · exact absurd c_9 (by omega)
    · have ud := hus d (by omega)
      have wc := w.crew hc
      have on : onF (M 27) c (d : Int) = M 27 c d := by unfold onF; rw [if_pos (by omega), Int.toNat_natCast]
      refine wp_iload_n dX11_idleNow_12 rfl ?_
      refine wp_iconst dX11_idleNow_13 ?_
      refine wp_aload_n dX11_idleNow_14 rfl ?_
      refine wp_get fkX11_21 dX11_idleNow_15 (P.s0 r) rfl ?_
      refine wp_iload_n dX11_idleNow_18 rfl ?_
      refine wp_iaload dX11_idleNow_19 (P.s4 r) (by omega) (by omega) (by omega) ?_
      change WP G mX11_idleNow _ _ _ _ h N 20 [some (.ref (cB G + 169)), some (JV (c : Int)), some (JV y), some (JV (d : Int))] [JV (S 3 c 0), JV 0, JV y]
      refine wp_aload_n dX11_idleNow_20 rfl ?_
      refine wp_get fkX11_70 dX11_idleNow_21 (P.s0 r) rfl ?_
      refine wp_iload_n dX11_idleNow_24 rfl ?_
      refine wp_aaload dX11_idleNow_25 P.q27 rfl rfl (by omega) (by omega) (by omega) (if_pos (by omega)) ?_
      change WP G mX11_idleNow _ _ _ _ h N 26 [some (.ref (cB G + 169)), some (JV (c : Int)), some (JV y), some (JV (d : Int))] [.ref (cB G + 266 + c), JV (S 3 c 0), JV 0, JV y]
      refine wp_iload_n dX11_idleNow_26 rfl ?_
      refine wp_iaload dX11_idleNow_27 (P.r27 (i := c) (by omega)) (by omega) (by omega) (by omega) ?_
      change WP G mX11_idleNow _ _ _ _ h N 28 [some (.ref (cB G + 169)), some (JV (c : Int)), some (JV y), some (JV (d : Int))] [JV (M 27 c d), JV (S 3 c 0), JV 0, JV y]
      refine wp_isub dX11_idleNow_28 ?_
      refine wp_max dX11_idleNow_29 maX11_116 w_max (Nat.le_of_ble_eq_true rfl) (Nat.le_of_ble_eq_true rfl) ⟨by omega, by omega⟩ ⟨by omega, by omega⟩ ?_
      refine wp_iadd dX11_idleNow_32 ?_
      refine wp_istore_n dX11_idleNow_33 (Nat.le_of_ble_eq_true rfl) rfl ?_
      change WP G mX11_idleNow _ _ _ _ h N 34 [some (.ref (cB G + 169)), some (JV (c : Int)), some (JV (y + (max 0 ((S 3 c 0) - (M 27 c d))))), some (JV (d : Int))] []
      refine wp_iinc dX11_idleNow_34 rfl (Nat.le_of_ble_eq_true rfl) rfl ?_
      change WP G mX11_idleNow _ _ _ _ h N 37 [some (.ref (cB G + 169)), some (JV (c : Int)), some (JV (y + (max 0 ((S 3 c 0) - (M 27 c d))))), some (JV ((d : Int) + 1))] []
      refine wp_goto 4 dX11_idleNow_37 (by decide) ?_
      rw [lov, on, ← Int.add_assoc] at kk
      exact ih (d + 1) _ (by omega) (by omega) kk

theorem m_idleNow (P : MP G N M L z h) (r : RS S M) (w : WF S) {c : Nat} (hc : c < 4) (hus : ∀ d, d < 5000 → 0 ≤ M 27 c d ∧ M 27 c d ≤ 100000) (hld : 0 ≤ M 26 0 0 ∧ M 26 0 0 ≤ 5000) : CT G mX11_idleNow [.ref (cB G + 169), JV (c : Int)] h N 0 0 (PV (JV (lov (M 27) c (S 3 c 0) (M 26 0 0).toNat 0)) h N) := by
  refine CT_of (by decide +kernel) rfl (by simp [Value.category]) (Nat.le_of_ble_eq_true rfl) ?_
  change WP G mX11_idleNow _ noX _ _ h N 0 [some (.ref (cB G + 169)), some (JV (c : Int)), none, none] []
  refine wp_iconst dX11_idleNow_0 ?_
  refine wp_istore_n dX11_idleNow_1 (Nat.le_of_ble_eq_true rfl) rfl ?_
  change WP G mX11_idleNow _ _ _ _ h N 2 [some (.ref (cB G + 169)), some (JV (c : Int)), some (JV 0), none] []
  refine wp_iconst dX11_idleNow_2 ?_
  refine wp_istore_n dX11_idleNow_3 (Nat.le_of_ble_eq_true rfl) rfl ?_
  change WP G mX11_idleNow _ _ _ _ h N 4 [some (.ref (cB G + 169)), some (JV (c : Int)), some (JV 0), some (JV 0)] []
  refine l_idleNow P r w hc hus hld _ 0 0 rfl (Nat.zero_le _) ?_
  rw [Int.zero_add]
  exact ⟨rfl, rfl, rfl⟩

theorem lm_worthOf {Q : PQ} {X : PX} {k9 n9 : Nat} (P : MP G N M L z h) (r : RS S M) (w : WF S) {t : Nat} (ht : t < 24) : ∀ (m : Nat) (c : Nat) (y : Int), (4 - c = m) → (c ≤ 4) → (y = wsum (fun c => S 12 t c * S 4 c 0) c) → (Q (some (JV (S 5 t 0 * wsum (fun c => S 12 t c * S 4 c 0) 4))) h N) → WP G mX11_worthOf Q X k9 n9 h N 4 [some (.ref (cB G + 169)), some (JV (t : Int)), some (JV y), some (JV (c : Int))] [] := by
  intro m
  induction m with
  | zero =>
    intro c y hm hc ey kk
    have hc4 : c = 4 := by omega
    refine wp_iload_n dX11_worthOf_4 rfl ?_
    refine wp_iconst dX11_worthOf_5 ?_
    refine wp_icmp_ge 33 dX11_worthOf_6 (by decide) ⟨by omega, by omega⟩ ⟨by omega, by omega⟩ (fun c_6 => ?_) (fun c_6 => ?_)
    · refine wp_iload_n dX11_worthOf_33 rfl ?_
      refine wp_aload_n dX11_worthOf_34 rfl ?_
      refine wp_get fkX11_27 dX11_worthOf_35 (P.s0 r) rfl ?_
      refine wp_iload_n dX11_worthOf_38 rfl ?_
      refine wp_iaload dX11_worthOf_39 (P.s7 r) (by omega) (by omega) (by omega) ?_
      change WP G mX11_worthOf _ _ _ _ h N 40 [some (.ref (cB G + 169)), some (JV (t : Int)), some (JV y), some (JV (c : Int))] [JV (S 5 t 0), JV y]
      refine wp_imul dX11_worthOf_40 ?_
      refine wp_iret dX11_worthOf_41 rfl ?_
      rw [ey, hc4, Int.mul_comm]
      exact kk
    · exact absurd c_6 (by omega)
  | succ m ih =>
    intro c y hm hc ey kk
    refine wp_iload_n dX11_worthOf_4 rfl ?_
    refine wp_iconst dX11_worthOf_5 ?_
    refine wp_icmp_ge 33 dX11_worthOf_6 (by decide) ⟨by omega, by omega⟩ ⟨by omega, by omega⟩ (fun c_6 => ?_) (fun c_6 => ?_)
    · exact absurd c_6 (by omega)
    · refine wp_iload_n dX11_worthOf_9 rfl ?_
      refine wp_aload_n dX11_worthOf_10 rfl ?_
      refine wp_get fkX11_39 dX11_worthOf_11 (P.s0 r) rfl ?_
      refine wp_iload_n dX11_worthOf_14 rfl ?_
      refine wp_aaload dX11_worthOf_15 P.q11 rfl rfl (by omega) (by omega) (by omega) (if_pos (by omega)) ?_
      change WP G mX11_worthOf _ _ _ _ h N 16 [some (.ref (cB G + 169)), some (JV (t : Int)), some (JV y), some (JV (c : Int))] [.ref (cB G + 184 + t), JV y]
      refine wp_iload_n dX11_worthOf_16 rfl ?_
      refine wp_iaload dX11_worthOf_17 (P.s11 r (i := t) (by omega)) (by omega) (by omega) (by omega) ?_
      change WP G mX11_worthOf _ _ _ _ h N 18 [some (.ref (cB G + 169)), some (JV (t : Int)), some (JV y), some (JV (c : Int))] [JV (S 12 t c), JV y]
      refine wp_aload_n dX11_worthOf_18 rfl ?_
      refine wp_get fkX11_24 dX11_worthOf_19 (P.s0 r) rfl ?_
      refine wp_iload_n dX11_worthOf_22 rfl ?_
      refine wp_iaload dX11_worthOf_23 (P.s5 r) (by omega) (by omega) (by omega) ?_
      change WP G mX11_worthOf _ _ _ _ h N 24 [some (.ref (cB G + 169)), some (JV (t : Int)), some (JV y), some (JV (c : Int))] [JV (S 4 c 0), JV (S 12 t c), JV y]
      refine wp_imul dX11_worthOf_24 ?_
      refine wp_iadd dX11_worthOf_25 ?_
      refine wp_istore_n dX11_worthOf_26 (Nat.le_of_ble_eq_true rfl) rfl ?_
      change WP G mX11_worthOf _ _ _ _ h N 27 [some (.ref (cB G + 169)), some (JV (t : Int)), some (JV (y + ((S 12 t c) * (S 4 c 0)))), some (JV (c : Int))] []
      refine wp_iinc dX11_worthOf_27 rfl (Nat.le_of_ble_eq_true rfl) rfl ?_
      change WP G mX11_worthOf _ _ _ _ h N 30 [some (.ref (cB G + 169)), some (JV (t : Int)), some (JV (y + ((S 12 t c) * (S 4 c 0)))), some (JV ((c : Int) + 1))] []
      refine wp_goto 4 dX11_worthOf_30 (by decide) ?_
      refine ih (c + 1) _ (by omega) (by omega) ?_ kk
      rw [wsum, ey]

theorem m_worthOf (P : MP G N M L z h) (r : RS S M) (w : WF S) {t : Nat} (ht : t < 24) : CT G mX11_worthOf [.ref (cB G + 169), JV (t : Int)] h N 0 0 (PV (JV (S 5 t 0 * wsum (fun c => S 12 t c * S 4 c 0) 4)) h N) := by
  refine CT_of (by decide +kernel) rfl (by simp [Value.category]) (Nat.le_of_ble_eq_true rfl) ?_
  change WP G mX11_worthOf _ noX _ _ h N 0 [some (.ref (cB G + 169)), some (JV (t : Int)), none, none] []
  refine wp_iconst dX11_worthOf_0 ?_
  refine wp_istore_n dX11_worthOf_1 (Nat.le_of_ble_eq_true rfl) rfl ?_
  change WP G mX11_worthOf _ _ _ _ h N 2 [some (.ref (cB G + 169)), some (JV (t : Int)), some (JV 0), none] []
  refine wp_iconst dX11_worthOf_2 ?_
  refine wp_istore_n dX11_worthOf_3 (Nat.le_of_ble_eq_true rfl) rfl ?_
  change WP G mX11_worthOf _ _ _ _ h N 4 [some (.ref (cB G + 169)), some (JV (t : Int)), some (JV 0), some (JV 0)] []
  exact lm_worthOf P r w ht _ 0 0 rfl (Nat.zero_le _) rfl ⟨rfl, rfl, rfl⟩

theorem l_worthNow {Q : PQ} {X : PX} {k9 n9 : Nat} (P : MP G N M L z h) (r : RS S M) (w : WF S) : ∀ (m : Nat) (i : Nat) (y : Int), ((S 13 0 0).toNat - i = m) → (i ≤ 24) → (Q (some (JV (y + worF S m i))) h N) → WP G mX11_worthNow Q X k9 n9 h N 4 [some (.ref (cB G + 169)), some (JV y), some (JV (i : Int))] [] := by
  intro m
  induction m with
  | zero =>
    intro i y hm hi kk
    have wT := w.nT
    refine wp_iload_n dX11_worthNow_4 rfl ?_
    refine wp_aload_n dX11_worthNow_5 rfl ?_
    refine wp_get fkX11_96 dX11_worthNow_6 (P.s0 r) rfl ?_
    refine wp_icmp_ge 26 dX11_worthNow_9 (by decide) ⟨by omega, by omega⟩ ⟨by omega, by omega⟩ (fun c_9 => ?_) (fun c_9 => ?_)
    · refine wp_iload_n dX11_worthNow_26 rfl ?_
      refine wp_iret dX11_worthNow_27 rfl ?_
      simp only [worF, Int.add_zero] at kk
      exact kk
    · exact absurd c_9 (by omega)
  | succ m ih =>
    intro i y hm hi kk
    have wT := w.nT
    refine wp_iload_n dX11_worthNow_4 rfl ?_
    refine wp_aload_n dX11_worthNow_5 rfl ?_
    refine wp_get fkX11_96 dX11_worthNow_6 (P.s0 r) rfl ?_
    refine wp_icmp_ge 26 dX11_worthNow_9 (by decide) ⟨by omega, by omega⟩ ⟨by omega, by omega⟩ (fun c_9 => ?_) (fun c_9 => ?_)
    · exact absurd c_9 (by omega)
    · refine wp_iload_n dX11_worthNow_12 rfl ?_
      refine wp_aload_n dX11_worthNow_13 rfl ?_
      refine wp_iload_n dX11_worthNow_14 rfl ?_
      refine wp_v1p (m_worthOf (N := N) P r w (t := i) (by omega)) cvX11_251 dX11_worthNow_15 ⟨Nat.le_of_ble_eq_true rfl, Nat.le_of_ble_eq_true rfl⟩ (Nat.le_of_ble_eq_true rfl) (P.s0 r) rfl rfl ?_
      refine wp_iadd dX11_worthNow_18 ?_
      refine wp_istore_n dX11_worthNow_19 (Nat.le_of_ble_eq_true rfl) rfl ?_
      change WP G mX11_worthNow _ _ _ _ h N 20 [some (.ref (cB G + 169)), some (JV (y + (S 5 i 0 * wsum (fun c => S 12 i c * S 4 c 0) 4))), some (JV (i : Int))] []
      refine wp_iinc dX11_worthNow_20 rfl (Nat.le_of_ble_eq_true rfl) rfl ?_
      change WP G mX11_worthNow _ _ _ _ h N 23 [some (.ref (cB G + 169)), some (JV (y + (S 5 i 0 * wsum (fun c => S 12 i c * S 4 c 0) 4))), some (JV ((i : Int) + 1))] []
      refine wp_goto 4 dX11_worthNow_23 (by decide) ?_
      rw [worF, ← Int.add_assoc] at kk
      exact ih (i + 1) (y + S 5 i 0 * wsum (fun c => S 12 i c * S 4 c 0) 4) (by omega) (by omega) kk

theorem m_worthNow (P : MP G N M L z h) (r : RS S M) (w : WF S) : CT G mX11_worthNow [.ref (cB G + 169)] h N 0 0 (PV (JV (worF S (S 13 0 0).toNat 0)) h N) := by
  refine CT_of (by decide +kernel) rfl (by simp [Value.category]) (Nat.le_of_ble_eq_true rfl) ?_
  change WP G mX11_worthNow _ noX _ _ h N 0 [some (.ref (cB G + 169)), none, none] []
  refine wp_iconst dX11_worthNow_0 ?_
  refine wp_istore_n dX11_worthNow_1 (Nat.le_of_ble_eq_true rfl) rfl ?_
  change WP G mX11_worthNow _ _ _ _ h N 2 [some (.ref (cB G + 169)), some (JV 0), none] []
  refine wp_iconst dX11_worthNow_2 ?_
  refine wp_istore_n dX11_worthNow_3 (Nat.le_of_ble_eq_true rfl) rfl ?_
  change WP G mX11_worthNow _ _ _ _ h N 4 [some (.ref (cB G + 169)), some (JV 0), some (JV 0)] []
  have wT := w.nT
  refine l_worthNow P r w _ 0 0 rfl (by omega) ?_
  rw [Int.zero_add]
  exact ⟨rfl, rfl, rfl⟩

end My

/-! ===== loops over what would be; the digest; free days; a link ===== -/
section Ask4
variable {G : Ctx} {h : AH} {N : Nat} {S : ST} {st : Int} {K : KTup}
def brF (f : Int → Int) : Nat → Nat → Int → Int → Int
  | 0, _, y, _ => y
  | m + 1, i, y, z => if f (i : Int) < z then brF f m (i + 1) (i : Int) (f (i : Int)) else brF f m (i + 1) y z
def GROW (S : ST) (t : Nat) (ld : Int) (i : Nat) : Prop := S 5 t 0 + (i : Int) ≤ 20 ∧ (∀ j : Nat, 1 ≤ j → j ≤ i → LASTW S t (S 5 t 0 + (j : Int)) ld) ∧ (S 5 t 0 + (i : Int) = 20 ∨ ∃ v, LASTW S t (S 5 t 0 + (i : Int) + 1) v ∧ v ≠ ld)
def dgs (d : Int64) (v : Int) : Int64 := d * 31 + (Int32.ofInt v).toInt64
def dgr (f : Nat → List Int) : Nat → Nat → Int64 → Int64
  | 0, _, d => d
  | m + 1, i, d => dgr f m (i + 1) ((f i).foldl dgs d)
variable {h9 : AH} {eb ee lb le rm : Nat → Int} {ld wu u9 : Int} {od : Nat → Int}
def dgT (S : ST) (K : KTup) (eb ee lb le rm : Nat → Int) (s : LState) (t : Nat) : List Int := [eb t, ee t, lb t, le t, rm t, s.1 t, s.2.1 t, holdF S s.1 s.2.1 s.2.2.1 t, lthF S s.1 s.2.1 s.2.2.1 t, dlyF K.2.2.1 K.2.2.2.1 s.2.1 s.2.2.1 t]
def dgC (S : ST) (eb ee : Nat → Int) (s : LState) (c : Nat) : List Int := [dab (ldg S eb ee (inT S) c) (S 3 c 0) 5000 0, grt (ldg S s.1 s.2.1 s.2.2.1 c) 5000 0 0, lov (ldg S s.1 s.2.1 s.2.2.1) c (S 3 c 0) s.2.2.2.2.2.toNat 0]
theorem l_dgT {Q : PQ} {X : PX} {k9 n9 : Nat} (hs9 : h9 (cB G) = some (cSP G 0)) (H9 : HP G S h9) (w9 : WF S) (W9 : NW G h9 (cB G + 108) eb ee lb le rm ld) (V9 : LVS G h9 (cB G + 116) S (lvAll S lb rm (S 15 0 0) od) u9) (li9 : LI (lvAll S lb rm (S 15 0 0) od) u9) (fd : LD G h9 (cB G + 128) (ldg S eb ee (inT S)) wu ∧ (0 ≤ wu ∧ wu ≤ 5000) ∧ ∀ t : Nat, (t : Int) < S 13 0 0 → min (ee t) 5000 ≤ wu) (kp9 : KPt G h9 K) : ∀ (m : Nat) (t : Nat) (d : Int64) (x4 : Option Value), ((S 13 0 0).toNat - t = m) → (t ≤ 24) → (∀ x3 x4 : Option Value, WP G mX10_digest Q X k9 n9 h9 N 314 [some (.ref (cB G)), some (.long (dgr (dgT S K eb ee lb le rm (lvAll S lb rm (S 15 0 0) od)) m t d)), none, x3, x4] []) → WP G mX10_digest Q X k9 n9 h9 N 108 [some (.ref (cB G)), some (.long d), none, some (JV (t : Int)), x4] [] := by
  intro m
  induction m with
  | zero =>
    intro t d x4 hm hi kk
    have wT := w9.nT
    have l7 := li9.2.2.2.2.2.2
    refine wp_iload_n dX10_digest_108 rfl ?_
    refine wp_aload_n dX10_digest_109 rfl ?_
    refine wp_get fkX10_10 dX10_digest_110 hs9 rfl ?_
    refine wp_get fkX10_107 dX10_digest_113 H9.1 rfl ?_
    refine wp_icmp_ge 314 dX10_digest_116 (by decide) ⟨by omega, by omega⟩ ⟨by omega, by omega⟩ (fun c_116 => ?_) (fun c_116 => ?_)
    · exact kk _ _
    · exact absurd c_116 (by omega)
  | succ m ih =>
    intro t d x4 hm hi kk
    have wT := w9.nT
    have l7 := li9.2.2.2.2.2.2
    refine wp_iload_n dX10_digest_108 rfl ?_
    refine wp_aload_n dX10_digest_109 rfl ?_
    refine wp_get fkX10_10 dX10_digest_110 hs9 rfl ?_
    refine wp_get fkX10_107 dX10_digest_113 H9.1 rfl ?_
    refine wp_icmp_ge 314 dX10_digest_116 (by decide) ⟨by omega, by omega⟩ ⟨by omega, by omega⟩ (fun c_116 => ?_) (fun c_116 => ?_)
    · exact absurd c_116 (by omega)
    · have ht24 : t < 24 := by omega
      refine wp_lload_n dX10_digest_119 rfl ?_
      refine wp_ldc2 dX10_digest_120 ctX10_271 ?_
      refine wp_lmul dX10_digest_123 ?_
      refine wp_aload_n dX10_digest_124 rfl ?_
      refine wp_get fkX10_21 dX10_digest_125 hs9 rfl ?_
      refine wp_get fkX10_174 dX10_digest_128 W9.1 rfl ?_
      refine wp_get fkX10_178 dX10_digest_131 W9.2.1.1 rfl ?_
      refine wp_iload_n dX10_digest_134 rfl ?_
      refine wp_iaload dX10_digest_135 W9.2.1.2.1 (by omega) (by omega) (by omega) ?_
      change WP G mX10_digest _ _ _ _ h9 N 136 [some (.ref (cB G)), some (.long d), none, some (JV (t : Int)), x4] [JV (eb t), .long (d * 31)]
      refine wp_i2l dX10_digest_136 ?_
      refine wp_ladd dX10_digest_137 ?_
      refine wp_lstore_n dX10_digest_138 (Nat.le_of_ble_eq_true rfl) rfl ?_
      obtain ⟨d_139, ed_139⟩ : ∃ d9 : Int64, d9 = dgs d (eb t) := ⟨_, rfl⟩
      change WP G mX10_digest _ _ _ _ h9 N 139 [some (.ref (cB G)), some (.long (dgs d (eb t))), none, some (JV (t : Int)), x4] []
      rw [← ed_139]
      refine wp_lload_n dX10_digest_139 rfl ?_
      refine wp_ldc2 dX10_digest_140 ctX10_271 ?_
      refine wp_lmul dX10_digest_143 ?_
      refine wp_aload_n dX10_digest_144 rfl ?_
      refine wp_get fkX10_21 dX10_digest_145 hs9 rfl ?_
      refine wp_get fkX10_174 dX10_digest_148 W9.1 rfl ?_
      refine wp_get fkX10_183 dX10_digest_151 W9.2.1.1 rfl ?_
      refine wp_iload_n dX10_digest_154 rfl ?_
      refine wp_iaload dX10_digest_155 W9.2.1.2.2 (by omega) (by omega) (by omega) ?_
      change WP G mX10_digest _ _ _ _ h9 N 156 [some (.ref (cB G)), some (.long d_139), none, some (JV (t : Int)), x4] [JV (ee t), .long (d_139 * 31)]
      refine wp_i2l dX10_digest_156 ?_
      refine wp_ladd dX10_digest_157 ?_
      refine wp_lstore_n dX10_digest_158 (Nat.le_of_ble_eq_true rfl) rfl ?_
      obtain ⟨d_159, ed_159⟩ : ∃ d9 : Int64, d9 = dgs d_139 (ee t) := ⟨_, rfl⟩
      change WP G mX10_digest _ _ _ _ h9 N 159 [some (.ref (cB G)), some (.long (dgs d_139 (ee t))), none, some (JV (t : Int)), x4] []
      rw [← ed_159]
      refine wp_lload_n dX10_digest_159 rfl ?_
      refine wp_ldc2 dX10_digest_160 ctX10_271 ?_
      refine wp_lmul dX10_digest_163 ?_
      refine wp_aload_n dX10_digest_164 rfl ?_
      refine wp_get fkX10_21 dX10_digest_165 hs9 rfl ?_
      refine wp_get fkX10_186 dX10_digest_168 W9.1 rfl ?_
      refine wp_get fkX10_178 dX10_digest_171 W9.2.2.1.1 rfl ?_
      refine wp_iload_n dX10_digest_174 rfl ?_
      refine wp_iaload dX10_digest_175 W9.2.2.1.2.1 (by omega) (by omega) (by omega) ?_
      change WP G mX10_digest _ _ _ _ h9 N 176 [some (.ref (cB G)), some (.long d_159), none, some (JV (t : Int)), x4] [JV (lb t), .long (d_159 * 31)]
      refine wp_i2l dX10_digest_176 ?_
      refine wp_ladd dX10_digest_177 ?_
      refine wp_lstore_n dX10_digest_178 (Nat.le_of_ble_eq_true rfl) rfl ?_
      obtain ⟨d_179, ed_179⟩ : ∃ d9 : Int64, d9 = dgs d_159 (lb t) := ⟨_, rfl⟩
      change WP G mX10_digest _ _ _ _ h9 N 179 [some (.ref (cB G)), some (.long (dgs d_159 (lb t))), none, some (JV (t : Int)), x4] []
      rw [← ed_179]
      refine wp_lload_n dX10_digest_179 rfl ?_
      refine wp_ldc2 dX10_digest_180 ctX10_271 ?_
      refine wp_lmul dX10_digest_183 ?_
      refine wp_aload_n dX10_digest_184 rfl ?_
      refine wp_get fkX10_21 dX10_digest_185 hs9 rfl ?_
      refine wp_get fkX10_186 dX10_digest_188 W9.1 rfl ?_
      refine wp_get fkX10_183 dX10_digest_191 W9.2.2.1.1 rfl ?_
      refine wp_iload_n dX10_digest_194 rfl ?_
      refine wp_iaload dX10_digest_195 W9.2.2.1.2.2 (by omega) (by omega) (by omega) ?_
      change WP G mX10_digest _ _ _ _ h9 N 196 [some (.ref (cB G)), some (.long d_179), none, some (JV (t : Int)), x4] [JV (le t), .long (d_179 * 31)]
      refine wp_i2l dX10_digest_196 ?_
      refine wp_ladd dX10_digest_197 ?_
      refine wp_lstore_n dX10_digest_198 (Nat.le_of_ble_eq_true rfl) rfl ?_
      obtain ⟨d_199, ed_199⟩ : ∃ d9 : Int64, d9 = dgs d_179 (le t) := ⟨_, rfl⟩
      change WP G mX10_digest _ _ _ _ h9 N 199 [some (.ref (cB G)), some (.long (dgs d_179 (le t))), none, some (JV (t : Int)), x4] []
      rw [← ed_199]
      refine wp_lload_n dX10_digest_199 rfl ?_
      refine wp_ldc2 dX10_digest_200 ctX10_271 ?_
      refine wp_lmul dX10_digest_203 ?_
      refine wp_aload_n dX10_digest_204 rfl ?_
      refine wp_get fkX10_21 dX10_digest_205 hs9 rfl ?_
      refine wp_get fkX10_189 dX10_digest_208 W9.1 rfl ?_
      refine wp_iload_n dX10_digest_211 rfl ?_
      refine wp_iaload dX10_digest_212 W9.2.2.2 (by omega) (by omega) (by omega) ?_
      change WP G mX10_digest _ _ _ _ h9 N 213 [some (.ref (cB G)), some (.long d_199), none, some (JV (t : Int)), x4] [JV (rm t), .long (d_199 * 31)]
      refine wp_i2l dX10_digest_213 ?_
      refine wp_ladd dX10_digest_214 ?_
      refine wp_lstore_n dX10_digest_215 (Nat.le_of_ble_eq_true rfl) rfl ?_
      obtain ⟨d_216, ed_216⟩ : ∃ d9 : Int64, d9 = dgs d_199 (rm t) := ⟨_, rfl⟩
      change WP G mX10_digest _ _ _ _ h9 N 216 [some (.ref (cB G)), some (.long (dgs d_199 (rm t))), none, some (JV (t : Int)), x4] []
      rw [← ed_216]
      refine wp_lload_n dX10_digest_216 rfl ?_
      refine wp_ldc2 dX10_digest_217 ctX10_271 ?_
      refine wp_lmul dX10_digest_220 ?_
      refine wp_aload_n dX10_digest_221 rfl ?_
      refine wp_get fkX10_28 dX10_digest_222 hs9 rfl ?_
      refine wp_get fkX10_205 dX10_digest_225 V9.1 rfl ?_
      refine wp_get fkX10_178 dX10_digest_228 V9.2.1.1 rfl ?_
      refine wp_iload_n dX10_digest_231 rfl ?_
      refine wp_iaload dX10_digest_232 V9.2.1.2.1 (by omega) (by omega) (by omega) ?_
      change WP G mX10_digest _ _ _ _ h9 N 233 [some (.ref (cB G)), some (.long d_216), none, some (JV (t : Int)), x4] [JV ((lvAll S lb rm (S 15 0 0) od).1 t), .long (d_216 * 31)]
      refine wp_i2l dX10_digest_233 ?_
      refine wp_ladd dX10_digest_234 ?_
      refine wp_lstore_n dX10_digest_235 (Nat.le_of_ble_eq_true rfl) rfl ?_
      obtain ⟨d_236, ed_236⟩ : ∃ d9 : Int64, d9 = dgs d_216 ((lvAll S lb rm (S 15 0 0) od).1 t) := ⟨_, rfl⟩
      change WP G mX10_digest _ _ _ _ h9 N 236 [some (.ref (cB G)), some (.long (dgs d_216 ((lvAll S lb rm (S 15 0 0) od).1 t))), none, some (JV (t : Int)), x4] []
      rw [← ed_236]
      refine wp_lload_n dX10_digest_236 rfl ?_
      refine wp_ldc2 dX10_digest_237 ctX10_271 ?_
      refine wp_lmul dX10_digest_240 ?_
      refine wp_aload_n dX10_digest_241 rfl ?_
      refine wp_get fkX10_28 dX10_digest_242 hs9 rfl ?_
      refine wp_get fkX10_205 dX10_digest_245 V9.1 rfl ?_
      refine wp_get fkX10_183 dX10_digest_248 V9.2.1.1 rfl ?_
      refine wp_iload_n dX10_digest_251 rfl ?_
      refine wp_iaload dX10_digest_252 V9.2.1.2.2 (by omega) (by omega) (by omega) ?_
      change WP G mX10_digest _ _ _ _ h9 N 253 [some (.ref (cB G)), some (.long d_236), none, some (JV (t : Int)), x4] [JV ((lvAll S lb rm (S 15 0 0) od).2.1 t), .long (d_236 * 31)]
      refine wp_i2l dX10_digest_253 ?_
      refine wp_ladd dX10_digest_254 ?_
      refine wp_lstore_n dX10_digest_255 (Nat.le_of_ble_eq_true rfl) rfl ?_
      obtain ⟨d_256, ed_256⟩ : ∃ d9 : Int64, d9 = dgs d_236 ((lvAll S lb rm (S 15 0 0) od).2.1 t) := ⟨_, rfl⟩
      change WP G mX10_digest _ _ _ _ h9 N 256 [some (.ref (cB G)), some (.long (dgs d_236 ((lvAll S lb rm (S 15 0 0) od).2.1 t))), none, some (JV (t : Int)), x4] []
      rw [← ed_256]
      refine wp_lload_n dX10_digest_256 rfl ?_
      refine wp_ldc2 dX10_digest_257 ctX10_271 ?_
      refine wp_lmul dX10_digest_260 ?_
      refine wp_aload_n dX10_digest_261 rfl ?_
      refine wp_get fkX10_28 dX10_digest_262 hs9 rfl ?_
      refine wp_iload_n dX10_digest_265 rfl ?_
      refine wp_v1p (c_holdOf (N := N) V9 H9 w9 li9.pb li9.1 ht24) cvX10_226 dX10_digest_266 ⟨Nat.le_of_ble_eq_true rfl, Nat.le_of_ble_eq_true rfl⟩ (Nat.le_of_ble_eq_true rfl) V9.1 rfl rfl ?_
      refine wp_i2l dX10_digest_269 ?_
      refine wp_ladd dX10_digest_270 ?_
      refine wp_lstore_n dX10_digest_271 (Nat.le_of_ble_eq_true rfl) rfl ?_
      obtain ⟨d_272, ed_272⟩ : ∃ d9 : Int64, d9 = dgs d_256 (holdF S (lvAll S lb rm (S 15 0 0) od).1 (lvAll S lb rm (S 15 0 0) od).2.1 (lvAll S lb rm (S 15 0 0) od).2.2.1 t) := ⟨_, rfl⟩
      change WP G mX10_digest _ _ _ _ h9 N 272 [some (.ref (cB G)), some (.long (dgs d_256 (holdF S (lvAll S lb rm (S 15 0 0) od).1 (lvAll S lb rm (S 15 0 0) od).2.1 (lvAll S lb rm (S 15 0 0) od).2.2.1 t))), none, some (JV (t : Int)), x4] []
      rw [← ed_272]
      refine wp_lload_n dX10_digest_272 rfl ?_
      refine wp_ldc2 dX10_digest_273 ctX10_271 ?_
      refine wp_lmul dX10_digest_276 ?_
      refine wp_aload_n dX10_digest_277 rfl ?_
      refine wp_get fkX10_28 dX10_digest_278 hs9 rfl ?_
      refine wp_iload_n dX10_digest_281 rfl ?_
      refine wp_v1p (c_linkThatHolds (N := N) V9 H9 w9 li9.pb li9.1 ht24 (fun h1 h2 j hj hl => by have lo := LO_all (S := S) w9 (lb := lb) (rm := rm) (rl := S 15 0 0) (od := od); have wj := w9.at (i := j) (by have := w9.nL; omega); exact (lo.1 (lF S j).toNat (by show (S 19 (S 18 j 0).toNat 0).toNat < 24; omega) (lo.2 t ht24 h2 h1 j hj hl)).2)) cvX10_229 dX10_digest_282 ⟨Nat.le_of_ble_eq_true rfl, Nat.le_of_ble_eq_true rfl⟩ (Nat.le_of_ble_eq_true rfl) V9.1 rfl rfl ?_
      refine wp_i2l dX10_digest_285 ?_
      refine wp_ladd dX10_digest_286 ?_
      refine wp_lstore_n dX10_digest_287 (Nat.le_of_ble_eq_true rfl) rfl ?_
      obtain ⟨d_288, ed_288⟩ : ∃ d9 : Int64, d9 = dgs d_272 (lthF S (lvAll S lb rm (S 15 0 0) od).1 (lvAll S lb rm (S 15 0 0) od).2.1 (lvAll S lb rm (S 15 0 0) od).2.2.1 t) := ⟨_, rfl⟩
      change WP G mX10_digest _ _ _ _ h9 N 288 [some (.ref (cB G)), some (.long (dgs d_272 (lthF S (lvAll S lb rm (S 15 0 0) od).1 (lvAll S lb rm (S 15 0 0) od).2.1 (lvAll S lb rm (S 15 0 0) od).2.2.1 t))), none, some (JV (t : Int)), x4] []
      rw [← ed_288]
      refine wp_lload_n dX10_digest_288 rfl ?_
      refine wp_ldc2 dX10_digest_289 ctX10_271 ?_
      refine wp_lmul dX10_digest_292 ?_
      refine wp_aload_n dX10_digest_293 rfl ?_
      refine wp_get fkX10_48 dX10_digest_294 hs9 rfl ?_
      refine wp_iload_n dX10_digest_297 rfl ?_
      refine wp_aload_n dX10_digest_298 rfl ?_
      refine wp_get fkX10_28 dX10_digest_299 hs9 rfl ?_
      refine wp_v2p (c_delayOf (N := N) (q := cB G + 116) kp9.1 kp9.2 V9 li9.1 ht24) cvX10_240 dX10_digest_302 ⟨Nat.le_of_ble_eq_true rfl, Nat.le_of_ble_eq_true rfl⟩ (Nat.le_of_ble_eq_true rfl) kp9.1.1 rfl rfl ?_
      refine wp_i2l dX10_digest_305 ?_
      refine wp_ladd dX10_digest_306 ?_
      refine wp_lstore_n dX10_digest_307 (Nat.le_of_ble_eq_true rfl) rfl ?_
      obtain ⟨d_308, ed_308⟩ : ∃ d9 : Int64, d9 = dgs d_288 (dlyF K.2.2.1 K.2.2.2.1 (lvAll S lb rm (S 15 0 0) od).2.1 (lvAll S lb rm (S 15 0 0) od).2.2.1 t) := ⟨_, rfl⟩
      change WP G mX10_digest _ _ _ _ h9 N 308 [some (.ref (cB G)), some (.long (dgs d_288 (dlyF K.2.2.1 K.2.2.2.1 (lvAll S lb rm (S 15 0 0) od).2.1 (lvAll S lb rm (S 15 0 0) od).2.2.1 t))), none, some (JV (t : Int)), x4] []
      rw [← ed_308]
      refine wp_iinc dX10_digest_308 rfl (Nat.le_of_ble_eq_true rfl) rfl ?_
      change WP G mX10_digest _ _ _ _ h9 N 311 [some (.ref (cB G)), some (.long d_308), none, some (JV ((t : Int) + 1)), x4] []
      refine wp_goto 108 dX10_digest_311 (by decide) ?_
      refine ih (t + 1) _ _ (by omega) (by omega) (fun y3 y4 => ?_)
      have kk := kk y3 y4
      rw [dgr] at kk
      rw [ed_308, ed_288, ed_272, ed_256, ed_236, ed_216, ed_199, ed_179, ed_159, ed_139]
      exact kk

theorem l_dgC {Q : PQ} {X : PX} {k9 n9 : Nat} (hs9 : h9 (cB G) = some (cSP G 0)) (H9 : HP G S h9) (w9 : WF S) (W9 : NW G h9 (cB G + 108) eb ee lb le rm ld) (V9 : LVS G h9 (cB G + 116) S (lvAll S lb rm (S 15 0 0) od) u9) (li9 : LI (lvAll S lb rm (S 15 0 0) od) u9) (fd : LD G h9 (cB G + 128) (ldg S eb ee (inT S)) wu ∧ (0 ≤ wu ∧ wu ≤ 5000) ∧ ∀ t : Nat, (t : Int) < S 13 0 0 → min (ee t) 5000 ≤ wu) (kp9 : KPt G h9 K) : ∀ (m : Nat) (t : Nat) (d : Int64) (x4 : Option Value), (4 - t = m) → (t ≤ 4) → (∀ x3 x4 : Option Value, WP G mX10_digest Q X k9 n9 h9 N 406 [some (.ref (cB G)), some (.long (dgr (dgC S eb ee (lvAll S lb rm (S 15 0 0) od)) m t d)), none, x3, x4] []) → WP G mX10_digest Q X k9 n9 h9 N 316 [some (.ref (cB G)), some (.long d), none, some (JV (t : Int)), x4] [] := by
  intro m
  induction m with
  | zero =>
    intro t d x4 hm hi kk
    have wT := w9.nT
    have l7 := li9.2.2.2.2.2.2
    refine wp_iload_n dX10_digest_316 rfl ?_
    refine wp_iconst dX10_digest_317 ?_
    refine wp_icmp_ge 406 dX10_digest_318 (by decide) ⟨by omega, by omega⟩ ⟨by omega, by omega⟩ (fun c_318 => ?_) (fun c_318 => ?_)
    · exact kk _ _
    · exact absurd c_318 (by omega)
  | succ m ih =>
    intro t d x4 hm hi kk
    have wT := w9.nT
    have l7 := li9.2.2.2.2.2.2
    refine wp_iload_n dX10_digest_316 rfl ?_
    refine wp_iconst dX10_digest_317 ?_
    refine wp_icmp_ge 406 dX10_digest_318 (by decide) ⟨by omega, by omega⟩ ⟨by omega, by omega⟩ (fun c_318 => ?_) (fun c_318 => ?_)
    · exact absurd c_318 (by omega)
    · have hc : t < 4 := by omega
      refine wp_aload_n dX10_digest_321 rfl ?_
      refine wp_get fkX10_10 dX10_digest_322 hs9 rfl ?_
      refine wp_get fkX10_95 dX10_digest_325 H9.1 rfl ?_
      refine wp_iload_n dX10_digest_328 rfl ?_
      refine wp_aaload dX10_digest_329 H9.2.2.1 rfl rfl (by omega) (by omega) (by omega) (if_pos (by omega)) ?_
      change WP G mX10_digest _ _ _ _ h9 N 330 [some (.ref (cB G)), some (.long d), none, some (JV (t : Int)), x4] [.ref (cB G + 16 + t)]
      refine wp_get fkX10_99 dX10_digest_330 (H9.2.2.2.2.2.2.2.2.2.1 t (by omega)) rfl ?_
      refine wp_istore dX10_digest_333 (Nat.le_of_ble_eq_true rfl) rfl ?_
      change WP G mX10_digest _ _ _ _ h9 N 335 [some (.ref (cB G)), some (.long d), none, some (JV (t : Int)), some (JV (S 3 t 0))] []
      refine wp_lload_n dX10_digest_335 rfl ?_
      refine wp_ldc2 dX10_digest_336 ctX10_271 ?_
      refine wp_lmul dX10_digest_339 ?_
      refine wp_aload_n dX10_digest_340 rfl ?_
      refine wp_get fkX10_35 dX10_digest_341 hs9 rfl ?_
      refine wp_iload_n dX10_digest_344 rfl ?_
      refine wp_iload dX10_digest_345 rfl ?_
      refine wp_v2p (by have wc := w9.crew hc; have q := c_daysAbove (N := N) (c := t) (z := S 3 t 0) fd.1 hc fd.2.1 (fun x => by have := ldg_r w9 (b := eb) (e := ee) (inn := inT S) t x; omega) (by omega); rw [dab_e (by omega) (fun x hx => by have := ldg_wz (b := eb) fd.2.2 t x (by omega); omega)] at q; exact q) cvX10_202 dX10_digest_347 ⟨Nat.le_of_ble_eq_true rfl, Nat.le_of_ble_eq_true rfl⟩ (Nat.le_of_ble_eq_true rfl) fd.1.1 rfl rfl ?_
      refine wp_i2l dX10_digest_350 ?_
      refine wp_ladd dX10_digest_351 ?_
      refine wp_lstore_n dX10_digest_352 (Nat.le_of_ble_eq_true rfl) rfl ?_
      obtain ⟨d_353, ed_353⟩ : ∃ d9 : Int64, d9 = dgs d (dab (ldg S eb ee (inT S) t) (S 3 t 0) 5000 0) := ⟨_, rfl⟩
      change WP G mX10_digest _ _ _ _ h9 N 353 [some (.ref (cB G)), some (.long (dgs d (dab (ldg S eb ee (inT S) t) (S 3 t 0) 5000 0))), none, some (JV (t : Int)), some (JV (S 3 t 0))] []
      rw [← ed_353]
      refine wp_lload_n dX10_digest_353 rfl ?_
      refine wp_ldc2 dX10_digest_354 ctX10_271 ?_
      refine wp_lmul dX10_digest_357 ?_
      refine wp_aload_n dX10_digest_358 rfl ?_
      refine wp_get fkX10_28 dX10_digest_359 hs9 rfl ?_
      refine wp_get fkX10_219 dX10_digest_362 V9.1 rfl ?_
      refine wp_iload_n dX10_digest_365 rfl ?_
      refine wp_v1p (by have q := c_greatest (N := N) (c := t) V9.2.2.1 hc li9.2.2.2.2.1 (fun x => by have := ldg_r w9 (b := (lvAll S lb rm (S 15 0 0) od).1) (e := (lvAll S lb rm (S 15 0 0) od).2.1) (inn := (lvAll S lb rm (S 15 0 0) od).2.2.1) t x; omega); rw [grt_e (by have := li9.2.2.2.2.1; omega) (fun x hx => li9.z t hc x (by have := li9.2.2.2.2.1; omega))] at q; exact q) cvX10_222 dX10_digest_366 ⟨Nat.le_of_ble_eq_true rfl, Nat.le_of_ble_eq_true rfl⟩ (Nat.le_of_ble_eq_true rfl) V9.2.2.1.1 rfl rfl ?_
      refine wp_i2l dX10_digest_369 ?_
      refine wp_ladd dX10_digest_370 ?_
      refine wp_lstore_n dX10_digest_371 (Nat.le_of_ble_eq_true rfl) rfl ?_
      obtain ⟨d_372, ed_372⟩ : ∃ d9 : Int64, d9 = dgs d_353 (grt (ldg S (lvAll S lb rm (S 15 0 0) od).1 (lvAll S lb rm (S 15 0 0) od).2.1 (lvAll S lb rm (S 15 0 0) od).2.2.1 t) 5000 0 0) := ⟨_, rfl⟩
      change WP G mX10_digest _ _ _ _ h9 N 372 [some (.ref (cB G)), some (.long (dgs d_353 (grt (ldg S (lvAll S lb rm (S 15 0 0) od).1 (lvAll S lb rm (S 15 0 0) od).2.1 (lvAll S lb rm (S 15 0 0) od).2.2.1 t) 5000 0 0))), none, some (JV (t : Int)), some (JV (S 3 t 0))] []
      rw [← ed_372]
      refine wp_lload_n dX10_digest_372 rfl ?_
      refine wp_ldc2 dX10_digest_373 ctX10_271 ?_
      refine wp_lmul dX10_digest_376 ?_
      refine wp_aload_n dX10_digest_377 rfl ?_
      refine wp_get fkX10_28 dX10_digest_378 hs9 rfl ?_
      refine wp_get fkX10_219 dX10_digest_381 V9.1 rfl ?_
      refine wp_iload_n dX10_digest_384 rfl ?_
      refine wp_iload dX10_digest_385 rfl ?_
      refine wp_aload_n dX10_digest_387 rfl ?_
      refine wp_get fkX10_28 dX10_digest_388 hs9 rfl ?_
      refine wp_get fkX10_208 dX10_digest_391 V9.1 rfl ?_
      refine wp_v3p (by have wc := w9.crew hc; have l6 := li9.2.2.2.2.2; have q := c_leftOver (N := N) (c := t) (e := ((lvAll S lb rm (S 15 0 0) od).2.2.2.2.2).toNat) (z := S 3 t 0) V9.2.2.1 hc li9.2.2.2.2.1 (fun x => by have := ldg_r w9 (b := (lvAll S lb rm (S 15 0 0) od).1) (e := (lvAll S lb rm (S 15 0 0) od).2.1) (inn := (lvAll S lb rm (S 15 0 0) od).2.2.1) t x; omega) (by omega) (by omega); rw [show ((((lvAll S lb rm (S 15 0 0) od).2.2.2.2.2).toNat : Nat) : Int) = (lvAll S lb rm (S 15 0 0) od).2.2.2.2.2 by omega] at q; exact q) cvX10_232 dX10_digest_394 ⟨Nat.le_of_ble_eq_true rfl, Nat.le_of_ble_eq_true rfl⟩ (Nat.le_of_ble_eq_true rfl) V9.2.2.1.1 rfl rfl ?_
      refine wp_i2l dX10_digest_397 ?_
      refine wp_ladd dX10_digest_398 ?_
      refine wp_lstore_n dX10_digest_399 (Nat.le_of_ble_eq_true rfl) rfl ?_
      obtain ⟨d_400, ed_400⟩ : ∃ d9 : Int64, d9 = dgs d_372 (lov (ldg S (lvAll S lb rm (S 15 0 0) od).1 (lvAll S lb rm (S 15 0 0) od).2.1 (lvAll S lb rm (S 15 0 0) od).2.2.1) t (S 3 t 0) ((lvAll S lb rm (S 15 0 0) od).2.2.2.2.2).toNat 0) := ⟨_, rfl⟩
      change WP G mX10_digest _ _ _ _ h9 N 400 [some (.ref (cB G)), some (.long (dgs d_372 (lov (ldg S (lvAll S lb rm (S 15 0 0) od).1 (lvAll S lb rm (S 15 0 0) od).2.1 (lvAll S lb rm (S 15 0 0) od).2.2.1) t (S 3 t 0) ((lvAll S lb rm (S 15 0 0) od).2.2.2.2.2).toNat 0))), none, some (JV (t : Int)), some (JV (S 3 t 0))] []
      rw [← ed_400]
      refine wp_iinc dX10_digest_400 rfl (Nat.le_of_ble_eq_true rfl) rfl ?_
      change WP G mX10_digest _ _ _ _ h9 N 403 [some (.ref (cB G)), some (.long d_400), none, some (JV ((t : Int) + 1)), some (JV (S 3 t 0))] []
      refine wp_goto 316 dX10_digest_403 (by decide) ?_
      refine ih (t + 1) _ _ (by omega) (by omega) (fun y3 y4 => ?_)
      have kk := kk y3 y4
      rw [dgr] at kk
      rw [ed_400, ed_372, ed_353]
      exact kk

theorem l_dgO {Q : PQ} {X : PX} {k9 n9 : Nat} (hs9 : h9 (cB G) = some (cSP G 0)) (H9 : HP G S h9) (w9 : WF S) (W9 : NW G h9 (cB G + 108) eb ee lb le rm ld) (V9 : LVS G h9 (cB G + 116) S (lvAll S lb rm (S 15 0 0) od) u9) (li9 : LI (lvAll S lb rm (S 15 0 0) od) u9) (fd : LD G h9 (cB G + 128) (ldg S eb ee (inT S)) wu ∧ (0 ≤ wu ∧ wu ≤ 5000) ∧ ∀ t : Nat, (t : Int) < S 13 0 0 → min (ee t) 5000 ≤ wu) (kp9 : KPt G h9 K) : ∀ (m : Nat) (t : Nat) (d : Int64) (x4 : Option Value), (((lvAll S lb rm (S 15 0 0) od).2.2.2.2.1).toNat - t = m) → (t ≤ 24) → (∀ x3 x4 : Option Value, WP G mX10_digest Q X k9 n9 h9 N 442 [some (.ref (cB G)), some (.long (dgr (fun t => [(lvAll S lb rm (S 15 0 0) od).2.2.2.1 t]) m t d)), none, x3, x4] []) → WP G mX10_digest Q X k9 n9 h9 N 408 [some (.ref (cB G)), some (.long d), none, some (JV (t : Int)), x4] [] := by
  intro m
  induction m with
  | zero =>
    intro t d x4 hm hi kk
    have wT := w9.nT
    have l7 := li9.2.2.2.2.2.2
    refine wp_iload_n dX10_digest_408 rfl ?_
    refine wp_aload_n dX10_digest_409 rfl ?_
    refine wp_get fkX10_28 dX10_digest_410 hs9 rfl ?_
    refine wp_get fkX10_209 dX10_digest_413 V9.1 rfl ?_
    refine wp_icmp_ge 442 dX10_digest_416 (by decide) ⟨by omega, by omega⟩ ⟨by omega, by omega⟩ (fun c_416 => ?_) (fun c_416 => ?_)
    · exact kk _ _
    · exact absurd c_416 (by omega)
  | succ m ih =>
    intro t d x4 hm hi kk
    have wT := w9.nT
    have l7 := li9.2.2.2.2.2.2
    refine wp_iload_n dX10_digest_408 rfl ?_
    refine wp_aload_n dX10_digest_409 rfl ?_
    refine wp_get fkX10_28 dX10_digest_410 hs9 rfl ?_
    refine wp_get fkX10_209 dX10_digest_413 V9.1 rfl ?_
    refine wp_icmp_ge 442 dX10_digest_416 (by decide) ⟨by omega, by omega⟩ ⟨by omega, by omega⟩ (fun c_416 => ?_) (fun c_416 => ?_)
    · exact absurd c_416 (by omega)
    · have ht24 : t < 24 := by omega
      refine wp_lload_n dX10_digest_419 rfl ?_
      refine wp_ldc2 dX10_digest_420 ctX10_271 ?_
      refine wp_lmul dX10_digest_423 ?_
      refine wp_aload_n dX10_digest_424 rfl ?_
      refine wp_get fkX10_28 dX10_digest_425 hs9 rfl ?_
      refine wp_get fkX10_216 dX10_digest_428 V9.1 rfl ?_
      refine wp_iload_n dX10_digest_431 rfl ?_
      refine wp_iaload dX10_digest_432 V9.2.2.2.2 (by omega) (by omega) (by omega) ?_
      change WP G mX10_digest _ _ _ _ h9 N 433 [some (.ref (cB G)), some (.long d), none, some (JV (t : Int)), x4] [JV ((lvAll S lb rm (S 15 0 0) od).2.2.2.1 t), .long (d * 31)]
      refine wp_i2l dX10_digest_433 ?_
      refine wp_ladd dX10_digest_434 ?_
      refine wp_lstore_n dX10_digest_435 (Nat.le_of_ble_eq_true rfl) rfl ?_
      obtain ⟨d_436, ed_436⟩ : ∃ d9 : Int64, d9 = dgs d ((lvAll S lb rm (S 15 0 0) od).2.2.2.1 t) := ⟨_, rfl⟩
      change WP G mX10_digest _ _ _ _ h9 N 436 [some (.ref (cB G)), some (.long (dgs d ((lvAll S lb rm (S 15 0 0) od).2.2.2.1 t))), none, some (JV (t : Int)), x4] []
      rw [← ed_436]
      refine wp_iinc dX10_digest_436 rfl (Nat.le_of_ble_eq_true rfl) rfl ?_
      change WP G mX10_digest _ _ _ _ h9 N 439 [some (.ref (cB G)), some (.long d_436), none, some (JV ((t : Int) + 1)), x4] []
      refine wp_goto 408 dX10_digest_439 (by decide) ?_
      refine ih (t + 1) _ _ (by omega) (by omega) (fun y3 y4 => ?_)
      have kk := kk y3 y4
      rw [dgr] at kk
      rw [ed_436]
      exact kk

def dgA (S : ST) (K : KTup) (eb ee lb le rm : Nat → Int) (ld : Int) (s : LState) : Int64 := [earnF S K.2.2.2.1 K.2.2.2.2.1 (S 13 0 0).toNat 0, worF S (S 13 0 0).toNat 0, planF S K.2.1 K.2.2.1 K.2.2.2.1 K.2.2.2.2.1 K.2.2.2.2.2.1 K.2.2.2.2.2.2.2 s.2.2.2.2.2 (S 13 0 0).toNat 0].foldl dgs (dgr (fun t => [s.2.2.2.1 t]) s.2.2.2.2.1.toNat 0 (dgr (dgC S eb ee s) 4 0 (dgr (dgT S K eb ee lb le rm s) (S 13 0 0).toNat 0 ([S 13 0 0, S 14 0 0, ld, tgt S rm (S 13 0 0).toNat 0, s.2.2.2.2.2, S 13 0 0 - s.2.2.2.2.1].foldl dgs 2633))))
theorem c_digest (sp : SPI G h S st K) : CT G mX10_digest [.ref (cB G)] h N 0 0 (fun r h' N' => N' = N ∧ SPI G h' S 0 K ∧ ∃ v : Int64, r = some (.long v) ∧ ∃ eb ee lb le rm ld od, FV S eb ee lb le rm ld od ∧ v = dgA S K eb ee lb le rm ld (lvAll S lb rm (S 15 0 0) od)) := by
  refine CT_of (by decide +kernel) rfl (by simp [Value.category]) (Nat.le_of_ble_eq_true rfl) ?_
  change WP G mX10_digest _ noX _ _ h N 0 [some (.ref (cB G)), none, none, none, none] []
  refine wp_aload_n dX10_digest_0 rfl ?_
  refine wp_v0 0 0 (c_refresh (N := N) sp) cvX10_171 dX10_digest_1 ⟨Nat.le_of_ble_eq_true rfl, Nat.le_of_ble_eq_true rfl⟩ (Nat.le_of_ble_eq_true rfl) sp.1 rfl rfl (by omega) (by omega) (fun r h9 N9 hq => ?_)
  obtain ⟨rfl, hN9, sp9⟩ := hq
  rw [hN9]
  have sp8 := sp9
  obtain ⟨eb, ee, lb, le, rm, ld, wu, od, u9, W9, fa, fb, fc, fd, V9, li9⟩ := sp9.fresh
  obtain ⟨hs9, H9, w9, tp9, nt9, lt9, kp9, cc9⟩ := sp9
  have fv : FV S eb ee lb le rm ld od := ⟨fa, fb, fc, u9, li9⟩
  clear cc9
  change WP G mX10_digest _ _ _ _ h9 N 4 [some (.ref (cB G)), none, none, none, none] []
  refine wp_ldc2 dX10_digest_4 ctX10_269 ?_
  refine wp_lstore_n dX10_digest_7 (Nat.le_of_ble_eq_true rfl) rfl ?_
  change WP G mX10_digest _ _ _ _ h9 N 8 [some (.ref (cB G)), some (.long 2633), none, none, none] []
  refine wp_lload_n dX10_digest_8 rfl ?_
  refine wp_ldc2 dX10_digest_9 ctX10_271 ?_
  refine wp_lmul dX10_digest_12 ?_
  refine wp_aload_n dX10_digest_13 rfl ?_
  refine wp_get fkX10_10 dX10_digest_14 hs9 rfl ?_
  refine wp_get fkX10_107 dX10_digest_17 H9.1 rfl ?_
  refine wp_i2l dX10_digest_20 ?_
  refine wp_ladd dX10_digest_21 ?_
  refine wp_lstore_n dX10_digest_22 (Nat.le_of_ble_eq_true rfl) rfl ?_
  obtain ⟨d_23, ed_23⟩ : ∃ d9 : Int64, d9 = dgs 2633 (S 13 0 0) := ⟨_, rfl⟩
  change WP G mX10_digest _ _ _ _ h9 N 23 [some (.ref (cB G)), some (.long (dgs 2633 (S 13 0 0))), none, none, none] []
  rw [← ed_23]
  refine wp_lload_n dX10_digest_23 rfl ?_
  refine wp_ldc2 dX10_digest_24 ctX10_271 ?_
  refine wp_lmul dX10_digest_27 ?_
  refine wp_aload_n dX10_digest_28 rfl ?_
  refine wp_get fkX10_10 dX10_digest_29 hs9 rfl ?_
  refine wp_get fkX10_136 dX10_digest_32 H9.1 rfl ?_
  refine wp_i2l dX10_digest_35 ?_
  refine wp_ladd dX10_digest_36 ?_
  refine wp_lstore_n dX10_digest_37 (Nat.le_of_ble_eq_true rfl) rfl ?_
  obtain ⟨d_38, ed_38⟩ : ∃ d9 : Int64, d9 = dgs d_23 (S 14 0 0) := ⟨_, rfl⟩
  change WP G mX10_digest _ _ _ _ h9 N 38 [some (.ref (cB G)), some (.long (dgs d_23 (S 14 0 0))), none, none, none] []
  rw [← ed_38]
  refine wp_lload_n dX10_digest_38 rfl ?_
  refine wp_ldc2 dX10_digest_39 ctX10_271 ?_
  refine wp_lmul dX10_digest_42 ?_
  refine wp_aload_n dX10_digest_43 rfl ?_
  refine wp_get fkX10_21 dX10_digest_44 hs9 rfl ?_
  refine wp_get fkX10_192 dX10_digest_47 W9.1 rfl ?_
  refine wp_i2l dX10_digest_50 ?_
  refine wp_ladd dX10_digest_51 ?_
  refine wp_lstore_n dX10_digest_52 (Nat.le_of_ble_eq_true rfl) rfl ?_
  obtain ⟨d_53, ed_53⟩ : ∃ d9 : Int64, d9 = dgs d_38 ld := ⟨_, rfl⟩
  change WP G mX10_digest _ _ _ _ h9 N 53 [some (.ref (cB G)), some (.long (dgs d_38 ld)), none, none, none] []
  rw [← ed_53]
  refine wp_lload_n dX10_digest_53 rfl ?_
  refine wp_ldc2 dX10_digest_54 ctX10_271 ?_
  refine wp_lmul dX10_digest_57 ?_
  refine wp_aload_n dX10_digest_58 rfl ?_
  refine wp_get fkX10_21 dX10_digest_59 hs9 rfl ?_
  refine wp_v0p (c_countTight (N := N) W9 H9 w9 fa.2.2) cvX10_195 dX10_digest_62 ⟨Nat.le_of_ble_eq_true rfl, Nat.le_of_ble_eq_true rfl⟩ (Nat.le_of_ble_eq_true rfl) W9.1 rfl rfl ?_
  refine wp_i2l dX10_digest_65 ?_
  refine wp_ladd dX10_digest_66 ?_
  refine wp_lstore_n dX10_digest_67 (Nat.le_of_ble_eq_true rfl) rfl ?_
  obtain ⟨d_68, ed_68⟩ : ∃ d9 : Int64, d9 = dgs d_53 (tgt S rm (S 13 0 0).toNat 0) := ⟨_, rfl⟩
  change WP G mX10_digest _ _ _ _ h9 N 68 [some (.ref (cB G)), some (.long (dgs d_53 (tgt S rm (S 13 0 0).toNat 0))), none, none, none] []
  rw [← ed_68]
  refine wp_lload_n dX10_digest_68 rfl ?_
  refine wp_ldc2 dX10_digest_69 ctX10_271 ?_
  refine wp_lmul dX10_digest_72 ?_
  refine wp_aload_n dX10_digest_73 rfl ?_
  refine wp_get fkX10_28 dX10_digest_74 hs9 rfl ?_
  refine wp_get fkX10_208 dX10_digest_77 V9.1 rfl ?_
  refine wp_i2l dX10_digest_80 ?_
  refine wp_ladd dX10_digest_81 ?_
  refine wp_lstore_n dX10_digest_82 (Nat.le_of_ble_eq_true rfl) rfl ?_
  obtain ⟨d_83, ed_83⟩ : ∃ d9 : Int64, d9 = dgs d_68 ((lvAll S lb rm (S 15 0 0) od).2.2.2.2.2) := ⟨_, rfl⟩
  change WP G mX10_digest _ _ _ _ h9 N 83 [some (.ref (cB G)), some (.long (dgs d_68 ((lvAll S lb rm (S 15 0 0) od).2.2.2.2.2))), none, none, none] []
  rw [← ed_83]
  refine wp_lload_n dX10_digest_83 rfl ?_
  refine wp_ldc2 dX10_digest_84 ctX10_271 ?_
  refine wp_lmul dX10_digest_87 ?_
  refine wp_aload_n dX10_digest_88 rfl ?_
  refine wp_get fkX10_10 dX10_digest_89 hs9 rfl ?_
  refine wp_get fkX10_107 dX10_digest_92 H9.1 rfl ?_
  refine wp_aload_n dX10_digest_95 rfl ?_
  refine wp_get fkX10_28 dX10_digest_96 hs9 rfl ?_
  refine wp_get fkX10_209 dX10_digest_99 V9.1 rfl ?_
  refine wp_isub dX10_digest_102 ?_
  refine wp_i2l dX10_digest_103 ?_
  refine wp_ladd dX10_digest_104 ?_
  refine wp_lstore_n dX10_digest_105 (Nat.le_of_ble_eq_true rfl) rfl ?_
  obtain ⟨d_106, ed_106⟩ : ∃ d9 : Int64, d9 = dgs d_83 ((S 13 0 0) - ((lvAll S lb rm (S 15 0 0) od).2.2.2.2.1)) := ⟨_, rfl⟩
  change WP G mX10_digest _ _ _ _ h9 N 106 [some (.ref (cB G)), some (.long (dgs d_83 ((S 13 0 0) - ((lvAll S lb rm (S 15 0 0) od).2.2.2.2.1)))), none, none, none] []
  rw [← ed_106]
  refine wp_iconst dX10_digest_106 ?_
  refine wp_istore_n dX10_digest_107 (Nat.le_of_ble_eq_true rfl) rfl ?_
  change WP G mX10_digest _ _ _ _ h9 N 108 [some (.ref (cB G)), some (.long d_106), none, some (JV 0), none] []
  refine l_dgT hs9 H9 w9 W9 V9 li9 fd kp9 _ 0 _ _ rfl (by omega) (fun x1 x2 => ?_)
  generalize ed1 : dgr (dgT S K eb ee lb le rm (lvAll S lb rm (S 15 0 0) od)) _ _ _ = d1
  refine wp_iconst dX10_digest_314 ?_
  refine wp_istore_n dX10_digest_315 (Nat.le_of_ble_eq_true rfl) rfl ?_
  change WP G mX10_digest _ _ _ _ h9 N 316 [some (.ref (cB G)), some (.long d1), none, some (JV 0), x2] []
  refine l_dgC hs9 H9 w9 W9 V9 li9 fd kp9 _ 0 _ _ rfl (by omega) (fun x3 x4 => ?_)
  generalize ed2 : dgr (dgC S eb ee (lvAll S lb rm (S 15 0 0) od)) _ _ _ = d2
  refine wp_iconst dX10_digest_406 ?_
  refine wp_istore_n dX10_digest_407 (Nat.le_of_ble_eq_true rfl) rfl ?_
  change WP G mX10_digest _ _ _ _ h9 N 408 [some (.ref (cB G)), some (.long d2), none, some (JV 0), x4] []
  refine l_dgO hs9 H9 w9 W9 V9 li9 fd kp9 _ 0 _ _ rfl (by have := li9.2.2.2.2.2.2; omega) (fun x5 x6 => ?_)
  generalize ed3 : dgr (fun t => [(lvAll S lb rm (S 15 0 0) od).2.2.2.1 t]) _ _ _ = d3
  refine wp_lload_n dX10_digest_442 rfl ?_
  refine wp_ldc2 dX10_digest_443 ctX10_271 ?_
  refine wp_lmul dX10_digest_446 ?_
  refine wp_aload_n dX10_digest_447 rfl ?_
  refine wp_get fkX10_48 dX10_digest_448 hs9 rfl ?_
  refine wp_v0p (c_earnedNow (N := N) kp9.1 H9 w9 kp9.2) cvX10_247 dX10_digest_451 ⟨Nat.le_of_ble_eq_true rfl, Nat.le_of_ble_eq_true rfl⟩ (Nat.le_of_ble_eq_true rfl) kp9.1.1 rfl rfl ?_
  refine wp_i2l dX10_digest_454 ?_
  refine wp_ladd dX10_digest_455 ?_
  refine wp_lstore_n dX10_digest_456 (Nat.le_of_ble_eq_true rfl) rfl ?_
  obtain ⟨d_457, ed_457⟩ : ∃ d9 : Int64, d9 = dgs d3 (earnF S K.2.2.2.1 K.2.2.2.2.1 (S 13 0 0).toNat 0) := ⟨_, rfl⟩
  change WP G mX10_digest _ _ _ _ h9 N 457 [some (.ref (cB G)), some (.long (dgs d3 (earnF S K.2.2.2.1 K.2.2.2.2.1 (S 13 0 0).toNat 0))), none, x5, x6] []
  rw [← ed_457]
  refine wp_lload_n dX10_digest_457 rfl ?_
  refine wp_ldc2 dX10_digest_458 ctX10_271 ?_
  refine wp_lmul dX10_digest_461 ?_
  refine wp_aload_n dX10_digest_462 rfl ?_
  refine wp_v0p (c_worth (N := N) sp8) cvX10_273 dX10_digest_463 ⟨Nat.le_of_ble_eq_true rfl, Nat.le_of_ble_eq_true rfl⟩ (Nat.le_of_ble_eq_true rfl) hs9 rfl rfl ?_
  refine wp_i2l dX10_digest_466 ?_
  refine wp_ladd dX10_digest_467 ?_
  refine wp_lstore_n dX10_digest_468 (Nat.le_of_ble_eq_true rfl) rfl ?_
  obtain ⟨d_469, ed_469⟩ : ∃ d9 : Int64, d9 = dgs d_457 (worF S (S 13 0 0).toNat 0) := ⟨_, rfl⟩
  change WP G mX10_digest _ _ _ _ h9 N 469 [some (.ref (cB G)), some (.long (dgs d_457 (worF S (S 13 0 0).toNat 0))), none, x5, x6] []
  rw [← ed_469]
  refine wp_lload_n dX10_digest_469 rfl ?_
  refine wp_ldc2 dX10_digest_470 ctX10_271 ?_
  refine wp_lmul dX10_digest_473 ?_
  refine wp_aload_n dX10_digest_474 rfl ?_
  refine wp_get fkX10_48 dX10_digest_475 hs9 rfl ?_
  refine wp_aload_n dX10_digest_478 rfl ?_
  refine wp_get fkX10_28 dX10_digest_479 hs9 rfl ?_
  refine wp_get fkX10_208 dX10_digest_482 V9.1 rfl ?_
  refine wp_v1p (c_plannedUpTo (N := N) (d := (lvAll S lb rm (S 15 0 0) od).2.2.2.2.2) kp9.1 H9 w9 kp9.2 (by have := li9.2.2.2.2.2; omega)) cvX10_244 dX10_digest_485 ⟨Nat.le_of_ble_eq_true rfl, Nat.le_of_ble_eq_true rfl⟩ (Nat.le_of_ble_eq_true rfl) kp9.1.1 rfl rfl ?_
  refine wp_i2l dX10_digest_488 ?_
  refine wp_ladd dX10_digest_489 ?_
  refine wp_lstore_n dX10_digest_490 (Nat.le_of_ble_eq_true rfl) rfl ?_
  obtain ⟨d_491, ed_491⟩ : ∃ d9 : Int64, d9 = dgs d_469 (planF S K.2.1 K.2.2.1 K.2.2.2.1 K.2.2.2.2.1 K.2.2.2.2.2.1 K.2.2.2.2.2.2.2 ((lvAll S lb rm (S 15 0 0) od).2.2.2.2.2) (S 13 0 0).toNat 0) := ⟨_, rfl⟩
  change WP G mX10_digest _ _ _ _ h9 N 491 [some (.ref (cB G)), some (.long (dgs d_469 (planF S K.2.1 K.2.2.1 K.2.2.2.1 K.2.2.2.2.1 K.2.2.2.2.2.1 K.2.2.2.2.2.2.2 ((lvAll S lb rm (S 15 0 0) od).2.2.2.2.2) (S 13 0 0).toNat 0))), none, x5, x6] []
  rw [← ed_491]
  refine wp_lload_n dX10_digest_491 rfl ?_
  refine wp_lret dX10_digest_492 rfl ?_
  refine ⟨rfl, sp8, _, rfl, eb, ee, lb, le, rm, ld, od, fv, ?_⟩
  rw [ed_491, ed_469, ed_457, ← ed3, ← ed2, ← ed1, ed_106, ed_83, ed_68, ed_53, ed_38, ed_23]
  rfl

theorem free_n {S8 : ST} {t d : Nat} {v : Int} (xi : XI S) (ht : t < 4) (hd : d < 1000) (e1 : ∀ c', c' ≠ t → S8 1 c' 0 = S 1 c' 0) (e2 : ∀ c' d', (c' ≠ t ∨ d' ≠ d) → S8 2 c' d' = S 2 c' d') (e2s : S8 2 t d = v) (e1s : S8 1 t 0 = S 1 t 0 + (v - S 2 t d)) (c : Nat) (hc : c < 4) : S8 1 c 0 = wsum (fun d => S8 2 c d) 1000 := by
  by_cases hct : c = t
  · subst hct
    rw [wsum_up (f := fun d => S 2 c d) (f' := fun d => S8 2 c d) 1000 hd (fun x _ hx => e2 c x (Or.inr hx)), e1s, e2s, xi.1 c hc]
  · rw [e1 c hct, xi.1 c hc]
    exact wsum_congr 1000 (fun x _ => (e2 c x (Or.inl hct)).symm)
def ALx (S : ST) (fr to ki lg : Int) (S' : ST) : Prop := (∀ f, f ≠ 14 → f ≠ 16 → f ≠ 17 → f ≠ 19 → f ≠ 20 → f ≠ 21 → f ≠ 22 → S' f = S f) ∧ S' 14 0 0 = S 14 0 0 + 1 ∧ (∀ i, S' 19 i 0 = if i = (S 18 (S 14 0 0).toNat 0).toNat then fr else S 19 i 0) ∧ (∀ i, S' 20 i 0 = if i = (S 18 (S 14 0 0).toNat 0).toNat then to else S 20 i 0) ∧ (∀ i, S' 21 i 0 = if i = (S 18 (S 14 0 0).toNat 0).toNat then ki else S 21 i 0) ∧ (∀ i, S' 22 i 0 = if i = (S 18 (S 14 0 0).toNat 0).toNat then lg else S 22 i 0)
theorem Rch.mk {S S' : ST} {a b : Nat} (h : ∀ f, f ≠ 17 → S' f = S f) (r : Rch S' a b) : Rch S a b := by
  unfold Rch lF lT at *
  rw [h 14 (by decide), h 18 (by decide), h 19 (by decide), h 20 (by decide)] at r
  exact r
theorem SOd.wf' {S S' : ST} (w : WF S) (e : ∀ f, f ≠ 16 → f ≠ 17 → S' f = S f) (m : ∀ i, S' 17 i 0 = 0 ∨ S' 17 i 0 = 1) (p : ∀ i, i < 24 → 0 ≤ S' 16 i 0 ∧ S' 16 i 0 < 24) : WF S' := by
  obtain ⟨w1, w2, w3, w4, w5, w6, w7, w8, w9, w10, w11, w12, w13⟩ := w
  unfold WF
  simp only [e 0 (by decide) (by decide), e 1 (by decide) (by decide), e 2 (by decide) (by decide), e 3 (by decide) (by decide), e 4 (by decide) (by decide), e 5 (by decide) (by decide), e 6 (by decide) (by decide), e 7 (by decide) (by decide), e 8 (by decide) (by decide), e 9 (by decide) (by decide), e 10 (by decide) (by decide), e 11 (by decide) (by decide), e 12 (by decide) (by decide), e 13 (by decide) (by decide), e 14 (by decide) (by decide), e 15 (by decide) (by decide), e 18 (by decide) (by decide), e 19 (by decide) (by decide), e 20 (by decide) (by decide), e 21 (by decide) (by decide), e 22 (by decide) (by decide)]
  exact ⟨w1, w2, w3, w4, w5, w6, w7, w8, w9, p, m, w12, w13⟩
theorem c_link {fr to : Nat} {ki lg : Int} (sp : SPI G h S st K) (xi : XI S) (hf : (fr : Int) < S 13 0 0) (ht : (to : Int) < S 13 0 0) (hk : 0 ≤ ki ∧ ki ≤ 2) (hl : 0 ≤ lg ∧ lg ≤ 20) (hn : S 14 0 0 < 40) (hr : ¬ Rch S to fr) : CT G mX10_link [.ref (cB G), JV (fr : Int), JV (to : Int), JV ki, JV lg] h N 0 0 (fun r h' N' => N' = N ∧ r = some (JV (S 14 0 0)) ∧ ∃ S', SPI G h' S' 1 K ∧ ALx S (fr : Int) (to : Int) ki lg S') := by
  have hT := sp.2.2.1.nT
  have hL := sp.2.2.1.nL
  refine CT_of (by decide +kernel) rfl (by simp [Value.category]) (Nat.le_of_ble_eq_true rfl) ?_
  change WP G mX10_link _ noX _ _ h N 0 [some (.ref (cB G)), some (JV (fr : Int)), some (JV (to : Int)), some (JV ki), some (JV lg)] []
  refine wp_aload_n dX10_link_0 rfl ?_
  refine wp_iload_n dX10_link_1 rfl ?_
  refine wp_v1 0 0 (c_checkTask (N := N) sp.1 sp.2.1 (by have := sp.2.2.1.nT; omega) (by omega) hf) cvX10_114 dX10_link_2 ⟨Nat.le_of_ble_eq_true rfl, Nat.le_of_ble_eq_true rfl⟩ (Nat.le_of_ble_eq_true rfl) sp.1 rfl rfl (by omega) (by omega) (fun r h9 N9 hq => ?_)
  obtain ⟨rfl, hh9, hN9⟩ := hq
  rw [hN9]
  rw [hh9]
  change WP G mX10_link _ _ _ _ h N 5 [some (.ref (cB G)), some (JV (fr : Int)), some (JV (to : Int)), some (JV ki), some (JV lg)] []
  refine wp_aload_n dX10_link_5 rfl ?_
  refine wp_iload_n dX10_link_6 rfl ?_
  refine wp_v1 0 0 (c_checkTask (N := N) sp.1 sp.2.1 (by have := sp.2.2.1.nT; omega) (by omega) ht) cvX10_114 dX10_link_7 ⟨Nat.le_of_ble_eq_true rfl, Nat.le_of_ble_eq_true rfl⟩ (Nat.le_of_ble_eq_true rfl) sp.1 rfl rfl (by omega) (by omega) (fun r h9 N9 hq => ?_)
  obtain ⟨rfl, hh9, hN9⟩ := hq
  rw [hN9]
  rw [hh9]
  change WP G mX10_link _ _ _ _ h N 10 [some (.ref (cB G)), some (JV (fr : Int)), some (JV (to : Int)), some (JV ki), some (JV lg)] []
  refine wp_iload_n dX10_link_10 rfl ?_
  refine wp_iconst dX10_link_11 ?_
  refine wp_s2p (c_isWithin (N := N) (by omega) (by omega)) csX10_74 dX10_link_12 ⟨Nat.le_of_ble_eq_true rfl, Nat.le_of_ble_eq_true rfl⟩ (Nat.le_of_ble_eq_true rfl) ?_
  rw [show bI (decide (0 ≤ ki ∧ ki ≤ 2)) = 1 from bI_t (decide_eq_true (by omega))]
  refine wp_if_eq 32 dX10_link_15 (by decide) ⟨by omega, by omega⟩ (fun c_15 => ?_) (fun c_15 => ?_)
  · exact absurd c_15 (by decide)
  · refine wp_iload dX10_link_18 rfl ?_
    refine wp_bipush dX10_link_20 rfl ?_
    refine wp_s2p (c_isWithin (N := N) (by omega) (by omega)) csX10_74 dX10_link_22 ⟨Nat.le_of_ble_eq_true rfl, Nat.le_of_ble_eq_true rfl⟩ (Nat.le_of_ble_eq_true rfl) ?_
    rw [show bI (decide (0 ≤ lg ∧ lg ≤ 20)) = 1 from bI_t (decide_eq_true (by omega))]
    refine wp_if_eq 32 dX10_link_25 (by decide) ⟨by omega, by omega⟩ (fun c_25 => ?_) (fun c_25 => ?_)
    · exact absurd c_25 (by decide)
    · refine wp_iconst dX10_link_28 ?_
      refine wp_goto 33 dX10_link_29 (by decide) ?_
      refine wp_s1 0 0 (c_checkArgument (N := N)) csX10_60 dX10_link_33 ⟨Nat.le_of_ble_eq_true rfl, Nat.le_of_ble_eq_true rfl⟩ (Nat.le_of_ble_eq_true rfl) (by omega) (by omega) (fun r h9 N9 hq => ?_)
      obtain ⟨rfl, hh9, hN9⟩ := hq
      rw [hN9]
      rw [hh9]
      change WP G mX10_link _ _ _ _ h N 36 [some (.ref (cB G)), some (JV (fr : Int)), some (JV (to : Int)), some (JV ki), some (JV lg)] []
      refine wp_aload_n dX10_link_36 rfl ?_
      refine wp_get fkX10_10 dX10_link_37 sp.1 rfl ?_
      refine wp_get fkX10_136 dX10_link_40 sp.2.1.1 rfl ?_
      refine wp_bipush dX10_link_43 rfl ?_
      refine wp_icmp_ge 64 dX10_link_45 (by decide) ⟨by omega, by omega⟩ ⟨by omega, by omega⟩ (fun c_45 => ?_) (fun c_45 => ?_)
      · exact absurd c_45 (by omega)
      · refine wp_aload_n dX10_link_48 rfl ?_
        refine wp_get fkX10_10 dX10_link_49 sp.1 rfl ?_
        refine wp_iload_n dX10_link_52 rfl ?_
        refine wp_iload_n dX10_link_53 rfl ?_
        refine wp_v2 0 0 (c_reaches (N := N) (t := (to : Int)) (gl := (fr : Int)) sp.2.1 sp.2.2.1 sp.2.2.2.1 (by omega) (by omega)) cvX10_139 dX10_link_54 ⟨Nat.le_of_ble_eq_true rfl, Nat.le_of_ble_eq_true rfl⟩ (Nat.le_of_ble_eq_true rfl) sp.2.1.1 rfl rfl (by omega) (by omega) (fun r h8 N9 hq => ?_)
        obtain ⟨hN9, v, rfl, S8, mk8, hv01, hvr⟩ := hq
        rw [hN9]
        rw [Int.toNat_natCast, Int.toNat_natCast] at hvr
        obtain rfl : v = 0 := by rcases hv01 with q | q
                                 · exact q
                                 · exact absurd (hvr.mp q) hr
        have H8 := mk8.1
        have hs8 := (mk8.2.2.2 (cB G) (by omega)).trans sp.1
        have w8 := mk8.wf sp.2.2.1
        have t8 : TOP S8 := sp.2.2.2.1.same (mk8.2.1 13 (by decide)) (mk8.2.1 14 (by decide)) (mk8.2.1 16 (by decide)) (mk8.2.1 18 (by decide)) (mk8.2.1 19 (by decide)) (mk8.2.1 20 (by decide))
        have x8 : XI S8 := xi.same (mk8.2.1 1 (by decide)) (mk8.2.1 2 (by decide)) (mk8.2.1 18 (by decide))
        have e13 : S8 13 0 0 = S 13 0 0 := by rw [mk8.2.1 13 (by decide)]
        have e14 : S8 14 0 0 = S 14 0 0 := by rw [mk8.2.1 14 (by decide)]
        have r8 : ¬ Rch S8 to fr := fun q => hr (q.mk mk8.2.1)
        change WP G mX10_link _ _ _ _ h8 N 57 [some (.ref (cB G)), some (JV (fr : Int)), some (JV (to : Int)), some (JV ki), some (JV lg)] [JV 0]
        refine wp_if_ne 64 dX10_link_57 (by decide) ⟨by omega, by omega⟩ (fun c_57 => ?_) (fun c_57 => ?_)
        · exact absurd rfl c_57
        · refine wp_iconst dX10_link_60 ?_
          refine wp_goto 65 dX10_link_61 (by decide) ?_
          refine wp_s1 0 0 (c_checkState (N := N)) csX10_85 dX10_link_65 ⟨Nat.le_of_ble_eq_true rfl, Nat.le_of_ble_eq_true rfl⟩ (Nat.le_of_ble_eq_true rfl) (by omega) (by omega) (fun r h9 N9 hq => ?_)
          obtain ⟨rfl, hh9, hN9⟩ := hq
          rw [hN9]
          rw [hh9]
          change WP G mX10_link _ _ _ _ h8 N 68 [some (.ref (cB G)), some (JV (fr : Int)), some (JV (to : Int)), some (JV ki), some (JV lg)] []
          refine wp_aload_n dX10_link_68 rfl ?_
          refine wp_iconst dX10_link_69 ?_
          refine wp_put fkX10_52 dX10_link_70 hs8 rfl rfl (Nat.le_of_ble_eq_true rfl) ?_
          obtain ⟨h8_1, eh8_1⟩ : ∃ hh9 : AH, hh9 = hup h8 (cB G) (eO 10 [.ref (cB G + 1), .ref (cB G + 108), .ref (cB G + 116), .ref (cB G + 128), .ref (cB G + 134), .ref (cB G + 142), .ref (cB G + 154), JV 1]) := ⟨_, rfl⟩
          refine WP.heq eh8_1 ?_
          have c1_0 : h8_1 (cB G) = some (eO 10 [.ref (cB G + 1), .ref (cB G + 108), .ref (cB G + 116), .ref (cB G + 128), .ref (cB G + 134), .ref (cB G + 142), .ref (cB G + 154), JV 1]) := by rw [eh8_1]; exact hup_self _ _ _
          have HX_1 : HP G S8 h8_1 := H8.frame (fun q9 hq9 hq8 => hup_at eh8_1 (by omega))
          refine wp_aload_n dX10_link_73 rfl ?_
          refine wp_get fkX10_10 dX10_link_74 c1_0 rfl ?_
          refine wp_iload_n dX10_link_77 rfl ?_
          refine wp_iload_n dX10_link_78 rfl ?_
          refine wp_iload_n dX10_link_79 rfl ?_
          refine wp_iload dX10_link_80 rfl ?_
          refine wp_v4 0 0 (c_appendLink (N := N) (fr := (fr : Int)) (to := (to : Int)) (ki := ki) (lg := lg) HX_1 w8 (by omega) (by omega) (by omega) hk hl (fun S5 a5 => t8.acy w8 x8 a5 (by omega) (by omega) (by omega) (by rw [Int.toNat_natCast, Int.toNat_natCast]; exact r8))) cvX10_142 dX10_link_82 ⟨Nat.le_of_ble_eq_true rfl, Nat.le_of_ble_eq_true rfl⟩ (Nat.le_of_ble_eq_true rfl) HX_1.1 rfl rfl (by omega) (by omega) (fun r h6 N9 hq => ?_)
          obtain ⟨hN9, rfl, S5, S6, a5, w5, H6, e6, m6, p6, t6, f6⟩ := hq
          rw [hN9]
          refine wp_iret dX10_link_85 rfl ?_
          have a50 := fun f h1 h2 h3 h4 h5 => a5.1 f h1 h2 h3 h4 h5
          refine ⟨rfl, by rw [e14], S6, sp.stale ((f6 (cB G) (by omega)).trans c1_0) H6 (SOd.wf' w5 e6 m6 p6) t6 (fun q hq => (f6 q (by omega)).trans ((hup_at eh8_1 (by omega)).trans (mk8.2.2.2 q (by omega)))), ?_⟩
          refine ⟨fun f h14 h16 h17 h19 h20 h21 h22 => (e6 f h16 h17).trans ((a5.1 f h14 h19 h20 h21 h22).trans (mk8.2.1 f h17)), ?_, fun i => ?_, fun i => ?_, fun i => ?_, fun i => ?_⟩
          · rw [e6 14 (by decide) (by decide), a5.2.1, e14]
          · rw [e6 19 (by decide) (by decide), a5.2.2.1 i, mk8.2.1 18 (by decide), mk8.2.1 14 (by decide), mk8.2.1 19 (by decide)]
          · rw [e6 20 (by decide) (by decide), a5.2.2.2.1 i, mk8.2.1 18 (by decide), mk8.2.1 14 (by decide), mk8.2.1 20 (by decide)]
          · rw [e6 21 (by decide) (by decide), a5.2.2.2.2.1 i, mk8.2.1 18 (by decide), mk8.2.1 14 (by decide), mk8.2.1 21 (by decide)]
          · rw [e6 22 (by decide) (by decide), a5.2.2.2.2.2 i, mk8.2.1 18 (by decide), mk8.2.1 14 (by decide), mk8.2.1 22 (by decide)]

end Ask4

/-! ===== what is kept, on both sides ===== -/
section Kp
variable {G : Ctx} {h : AH} {N : Nat} {S S' M M' : ST} {L : Nat → Nat} {z : Int64} {K K' : KTup}
theorem KM_00 {b e inn ws kw kf : Nat → Int} {kr : Nat → Nat → Int} {g : AH} (hi : ∀ t, inn t = 0) : KM S00 (g, b, e, inn, ws, kw, kf, kr) M00 :=
  ⟨⟨show (0 : Int) ≤ 0 by decide, show (0 : Int) ≤ 0 by decide⟩, fun t _ => ⟨fun q => absurd (show (t : Int) < 0 from q) (by omega), fun _ => hi t⟩, fun q => absurd (show (0 : Int) < 0 from q) (by omega)⟩
theorem KM.grow (k : KM S K M) (h13 : S 13 0 0 ≤ S' 13 0 0) : KM S' K M := ⟨⟨k.1.1, Int.le_trans k.1.2 h13⟩, k.2⟩
/-- kept by the class, kept by the reference -/
theorem KM.keep (r : RS S M') (w : WF S) {s s' : LState} (kp : KEPT S K K' s) (ki : ∀ t : Nat, t < 24 → ¬ (t : Int) < S 13 0 0 → K.2.2.2.1 t = 0) (lv : LV9 S s') (e1 : ∀ t : Nat, (t : Int) < S 13 0 0 → s.1 t = s'.1 t ∧ s.2.1 t = s'.2.1 t ∧ s.2.2.1 t = s'.2.2.1 t) (ml : MLS S M' s') (h28 : M' 28 0 0 = S 13 0 0) (k1 : KD1 S M' (S 13 0 0).toNat) (k2 : KD2 S M' 4) : KM S K' M' := by
  have wT := w.nT
  refine ⟨⟨by omega, by omega⟩, fun t ht => ⟨fun hlt => ?_, fun hlt => ?_⟩, fun _ c hc => ?_⟩
  · have hts : (t : Int) < S 13 0 0 := by omega
    obtain ⟨a1, a2, a3⟩ := k1 t (by omega)
    obtain ⟨b1, b2, b3, b4⟩ := kp.1 t hts
    obtain ⟨c1, c2, c3⟩ := e1 t hts
    obtain ⟨d1, d2⟩ := ml.1 t ht
    refine ⟨by rw [b1, c1, a1, d1], by rw [b2, c2, a2, d2], by rw [b4, a3], ?_⟩
    rw [a1, a2, d1, d2, b3, c3]
    rcases lv.1 t with q | q
    · exact Or.inl ⟨(lv.2.2.2.2.2.2.2.1 t q).1, q⟩
    · have p := lv.2.2.2.2.1 t ht q
      exact Or.inr ⟨⟨p.1.1, p.2.1⟩, q⟩
  · rw [(kp.2.1 t (by omega)).2.2.1]
    exact ki t ht (by omega)
  · obtain ⟨a1, a2, a3⟩ := k2 c hc
    obtain ⟨b1, b2, b3⟩ := kp.2.2 c hc
    obtain ⟨i1, i2, i3⟩ := r.2.2.2.2 c hc
    have fc := w.fc hc
    refine ⟨by rw [b1, a1], by rw [a2]; exact fc, fun k hk => ?_, fun d hd hd1 => ?_⟩
    · have q := i1 k (by omega)
      rw [a3 k (by omega)]
      exact ⟨q.1, by rw [b3 _ (by omega)]; exact q.2⟩
    · rw [b3 d hd] at hd1
      obtain ⟨k, k1, k2⟩ := i2 d hd hd1
      exact ⟨k, by omega, by rw [a3 k (by omega)]; exact k2⟩
/-- the cells beyond the class's may change -/
theorem SPI.reghost {h' : AH} {st : Int} (sp : SPI G h S st K) (e : ∀ q, q < cB G + 169 → h' q = h q) : SPI G h' S st (h', K.2) := by
  obtain ⟨a, b, c, d, n, l, k, f, g⟩ := sp
  refine ⟨(e _ (by omega)).trans a, b.frame (fun q h1 h2 => e q (by omega)), c, d, n.frame (fun q h1 h2 => e q (by omega)), l.frame (fun q h1 h2 => e q (by omega)), ⟨k.1.frame (fun q h1 h2 => e q (by omega)), k.2⟩, ?_, fun q _ => rfl⟩
  rcases f with ⟨f1, f2, f3, f4⟩ | ⟨f1, f2⟩
  · exact Or.inl ⟨f1, f2.frame (fun q h1 h2 => e q (by omega)), f3.frame (fun q h1 h2 => e q (by omega)), f4.frame (fun q h1 h2 => e q (by omega))⟩
  · exact Or.inr ⟨f1, f2.frame (fun q h1 h2 => e q (by omega))⟩
end Kp

/-! ===== what the law asks itself ===== -/
section Jo
variable {G : Ctx} {h : AH} {N : Nat} {t t0 : Int}
theorem thr_of (I0 : INVt G h N t) : ∃ fs, h (cB G + 169) = some (eO 11 fs) ∧ CT G mX11_thrown [.ref (cB G + 169)] h N 0 0 (PV (JV t) h N) := by
  obtain ⟨S, st, K, M, L, z, I, ou⟩ := I0
  have e := I.2.2.2.2.2.2
  exact ⟨_, I.mp.c0, by rw [← e]; exact m_thrown I.mp⟩
theorem cls_of (I0 : INVt G h N t) : ∃ st : Int, h (cB G) = some (cSP G st) := by
  obtain ⟨S, st, K, M, L, z, I, ou⟩ := I0
  exact ⟨st, I.sp.1⟩
theorem jw_tasks (I0 : INVt G h N t0) : CT G mX10_tasks [.ref (cB G)] h N 0 0 (JW G (fun x : Int => JV x) mX11_tasks) := by
  obtain ⟨S, st, K, M, L, z, I, ou⟩ := I0
  have sp := I.sp
  have w := I.wf
  have tp := I.tp
  have wT := w.nT
  refine (c_tasks sp).weak fun r h1 N1 q => ?_
  obtain ⟨rfl, rfl, rfl⟩ := q
  refine JW.mk (mk := (fun x : Int => JV x)) I ou sp rfl fun sp2 P2 ou2 => MCT.mk (by omega) (by omega) (m_tasks P2 I.rs w) fun r h3 N3 q => ?_
  obtain ⟨M', g, e⟩ := q
  exact ⟨e, fin_B sp2 I.xi I.hl I.km ou2 I.nN g⟩
theorem jw_links (I0 : INVt G h N t0) : CT G mX10_links [.ref (cB G)] h N 0 0 (JW G (fun x : Int => JV x) mX11_links) := by
  obtain ⟨S, st, K, M, L, z, I, ou⟩ := I0
  have sp := I.sp
  have w := I.wf
  have tp := I.tp
  have wT := w.nT
  refine (c_links sp).weak fun r h1 N1 q => ?_
  obtain ⟨rfl, rfl, rfl⟩ := q
  refine JW.mk (mk := (fun x : Int => JV x)) I ou sp rfl fun sp2 P2 ou2 => MCT.mk (by omega) (by omega) (m_links P2 I.rs w) fun r h3 N3 q => ?_
  obtain ⟨M', g, e⟩ := q
  exact ⟨e, fin_B sp2 I.xi I.hl I.km ou2 I.nN g⟩
theorem jw_earned (I0 : INVt G h N t0) : CT G mX10_earned [.ref (cB G)] h N 0 0 (JW G (fun x : Int => JV x) mX11_earned) := by
  obtain ⟨S, st, K, M, L, z, I, ou⟩ := I0
  have sp := I.sp
  have w := I.wf
  have tp := I.tp
  have wT := w.nT
  refine (c_earned sp).weak fun r h1 N1 q => ?_
  obtain ⟨rfl, rfl, rfl⟩ := q
  refine JW.mk (mk := (fun x : Int => JV x)) I ou sp rfl fun sp2 P2 ou2 => MCT.mk (by omega) (by omega) (m_earned P2 I.rs w I.km I.kc) fun r h3 N3 q => ?_
  obtain ⟨M', g, e⟩ := q
  exact ⟨e, fin_B sp2 I.xi I.hl I.km ou2 I.nN g⟩
theorem jw_worth (I0 : INVt G h N t0) : CT G mX10_worth [.ref (cB G)] h N 0 0 (JW G (fun x : Int => JV x) mX11_worth) := by
  obtain ⟨S, st, K, M, L, z, I, ou⟩ := I0
  have sp := I.sp
  have w := I.wf
  have tp := I.tp
  have wT := w.nT
  refine (c_worth sp).weak fun r h1 N1 q => ?_
  obtain ⟨rfl, rfl, rfl⟩ := q
  refine JW.mk (mk := (fun x : Int => JV x)) I ou sp rfl fun sp2 P2 ou2 => MCT.mk (by omega) (by omega) (m_worth P2 I.rs w) fun r h3 N3 q => ?_
  obtain ⟨M', g, e⟩ := q
  exact ⟨e, fin_B sp2 I.xi I.hl I.km ou2 I.nN g⟩
theorem jw_last (I0 : INVt G h N t0) : CT G mX10_last [.ref (cB G)] h N 0 0 (JW G (fun x : Int => JV x) mX11_last) := by
  obtain ⟨S, st, K, M, L, z, I, ou⟩ := I0
  have sp := I.sp
  have w := I.wf
  have tp := I.tp
  have wT := w.nT
  refine (c_last sp).weak fun r h1 N1 q => ?_
  obtain ⟨rfl, sp1, v, rfl, eb, ee, lb, le, rm, ld, od, fv, rfl⟩ := q
  refine JW.mk (mk := (fun x : Int => JV x)) I ou sp1 rfl fun sp2 P2 ou2 => MCT.mk (by omega) (by omega) (m_last P2 I.rs w tp I.hl) fun r h3 N3 q => ?_
  obtain ⟨M', g, e⟩ := q
  have la := g.2.2.2.2.2.2.1
  have q := fv.same tp la
  obtain ⟨od9, ml⟩ := la.2.2.2
  have lq := fv.leq w tp la od9
  exact ⟨by rw [e]; exact congrArg (fun x : Int => some (JV x)) (q.2.symm), fin_E sp2 I.xi I.km ou2 I.nN g⟩
theorem jw_tight (I0 : INVt G h N t0) : CT G mX10_tight [.ref (cB G)] h N 0 0 (JW G (fun x : Int => JV x) mX11_tight) := by
  obtain ⟨S, st, K, M, L, z, I, ou⟩ := I0
  have sp := I.sp
  have w := I.wf
  have tp := I.tp
  have wT := w.nT
  refine (c_tight sp).weak fun r h1 N1 q => ?_
  obtain ⟨rfl, sp1, v, rfl, eb, ee, lb, le, rm, ld, od, fv, rfl⟩ := q
  refine JW.mk (mk := (fun x : Int => JV x)) I ou sp1 rfl fun sp2 P2 ou2 => MCT.mk (by omega) (by omega) (m_tight P2 I.rs w tp I.hl) fun r h3 N3 q => ?_
  obtain ⟨M', g, e⟩ := q
  have la := g.2.2.2.2.2.2.1
  have q := fv.same tp la
  obtain ⟨od9, ml⟩ := la.2.2.2
  have lq := fv.leq w tp la od9
  exact ⟨by rw [e]; exact congrArg (fun x : Int => some (JV x)) ((tgt_cg _ _ fun x _ hx => (q.1 x (by omega)).2.2.2).symm), fin_E sp2 I.xi I.km ou2 I.nN g⟩
theorem jw_levelledLast (I0 : INVt G h N t0) : CT G mX10_levelledLast [.ref (cB G)] h N 0 0 (JW G (fun x : Int => JV x) mX11_levelledLast) := by
  obtain ⟨S, st, K, M, L, z, I, ou⟩ := I0
  have sp := I.sp
  have w := I.wf
  have tp := I.tp
  have wT := w.nT
  refine (c_levelledLast sp).weak fun r h1 N1 q => ?_
  obtain ⟨rfl, sp1, v, rfl, eb, ee, lb, le, rm, ld, od, fv, rfl⟩ := q
  refine JW.mk (mk := (fun x : Int => JV x)) I ou sp1 rfl fun sp2 P2 ou2 => MCT.mk (by omega) (by omega) (m_levelledLast P2 I.rs w tp I.hl) fun r h3 N3 q => ?_
  obtain ⟨M', g, e⟩ := q
  have la := g.2.2.2.2.2.2.1
  have q := fv.same tp la
  obtain ⟨od9, ml⟩ := la.2.2.2
  have lq := fv.leq w tp la od9
  exact ⟨by rw [e]; exact congrArg (fun x : Int => some (JV x)) (by rw [lq.2.2.2.1, ml.2.2.2.1]), fin_E sp2 I.xi I.km ou2 I.nN g⟩
theorem jw_stuck (I0 : INVt G h N t0) : CT G mX10_stuck [.ref (cB G)] h N 0 0 (JW G (fun x : Int => JV x) mX11_stuck) := by
  obtain ⟨S, st, K, M, L, z, I, ou⟩ := I0
  have sp := I.sp
  have w := I.wf
  have tp := I.tp
  have wT := w.nT
  refine (c_stuck sp).weak fun r h1 N1 q => ?_
  obtain ⟨rfl, sp1, v, rfl, eb, ee, lb, le, rm, ld, od, fv, rfl⟩ := q
  refine JW.mk (mk := (fun x : Int => JV x)) I ou sp1 rfl fun sp2 P2 ou2 => MCT.mk (by omega) (by omega) (m_stuck P2 I.rs w tp I.hl) fun r h3 N3 q => ?_
  obtain ⟨M', g, e⟩ := q
  have la := g.2.2.2.2.2.2.1
  have q := fv.same tp la
  obtain ⟨od9, ml⟩ := la.2.2.2
  have lq := fv.leq w tp la od9
  exact ⟨by rw [e]; exact congrArg (fun x : Int => some (JV x)) (by rw [lq.2.2.2.1, ml.2.2.1]), fin_E sp2 I.xi I.km ou2 I.nN g⟩
theorem jw_bestRule (I0 : INVt G h N t0) : CT G mX10_bestRule [.ref (cB G)] h N 0 0 (JW G (fun x : Int => JV x) mX11_bestRule) := by
  obtain ⟨S, st, K, M, L, z, I, ou⟩ := I0
  have sp := I.sp
  have w := I.wf
  have tp := I.tp
  have wT := w.nT
  refine (c_bestRule sp).weak fun r h1 N1 q => ?_
  obtain ⟨rfl, sp1, v, rfl, eb, ee, lb, le, rm, ld, od, fv, rfl⟩ := q
  refine JW.mk (mk := (fun x : Int => JV x)) I ou sp1 rfl fun sp2 P2 ou2 => MCT.mk (by omega) (by omega) (m_bestRule P2 I.rs w tp) fun r h3 N3 q => ?_
  obtain ⟨M', g, f, hf, e⟩ := q
  have ev := best_eq w tp fv.2.1.1 fv.2.1.2.2 fv.2.2.1.1 hf
  exact ⟨by rw [e, ev], fin_X sp2 I.xi I.km ou2 I.nN g⟩
theorem jw_keep (I0 : INVt G h N t0) : CT G mX10_keep [.ref (cB G)] h N 0 0 (JW G (fun x : Int => JV x) mX11_keep) := by
  obtain ⟨S, st, K, M, L, z, I, ou⟩ := I0
  have sp := I.sp
  have w := I.wf
  have tp := I.tp
  have wT := w.nT
  refine (c_keep sp).weak fun r h1 N1 q => ?_
  obtain ⟨rfl, K1, eK, sp1, v, rfl, eb, ee, lb, le, rm, ld, od, fv, rfl, kp⟩ := q
  refine JW.mk (mk := (fun x : Int => JV x)) I ou sp1 eK fun sp2 P2 ou2 => MCT.mk (by omega) (by omega) (m_keep P2 I.rs w tp I.hl) fun r h3 N3 q => ?_
  obtain ⟨M', ⟨g1, g2, g3, g4, g5, g6, la, g8, k1, k2, g9⟩, e⟩ := q
  obtain ⟨od9, ml⟩ := la.2.2.2
  have lq := fv.leq w tp la od9
  have lv := LV9_all w (lb := M' 20 0) (rm := fun x => M' 21 x 0) (rl := S 15 0 0) od9
  have km : KM S K1 M' := KM.keep g4 w kp (fun x hx hn => (I.km.2.1 x hx).2 (by have := I.km.1.2; omega)) lv (fun x _ => ⟨congrFun lq.1 x, congrFun lq.2.1 x, congrFun lq.2.2.1 x⟩) ml g8 k1 k2
  exact ⟨by rw [e]; exact congrArg (fun x : Int => some (JV x)) (by rw [lq.2.2.2.1, ml.2.2.1]), FIN.of sp2 I.xi g3 g4 (Or.inr ⟨g6, la⟩) km g5 g9 ou2 I.nN⟩
theorem jw_digest (I0 : INVt G h N t0) : CT G mX10_digest [.ref (cB G)] h N 0 0 (JW G Value.long mX11_digest) := by
  obtain ⟨S, st, K, M, L, z, I, ou⟩ := I0
  have sp := I.sp
  have w := I.wf
  have tp := I.tp
  have wT := w.nT
  refine (c_digest sp).weak fun r h1 N1 q => ?_
  obtain ⟨rfl, sp1, v, rfl, eb, ee, lb, le, rm, ld, od, fv, rfl⟩ := q
  refine JW.mk (mk := Value.long) I ou sp1 rfl fun sp2 P2 ou2 => MCT.mk (by omega) (by omega) (m_digest P2 I.rs w tp I.hl I.km I.kc) fun r h3 N3 q => ?_
  obtain ⟨M', z9, ⟨g1, g2, g3, g4, g5, g6, la, g8, g9⟩, od9, ml, e⟩ := q
  have ev := dig_eq w tp (K := K) fv la ml
  exact ⟨by rw [e, ev], FIN.of sp2 I.xi g3 g4 (Or.inr ⟨g6, la⟩) (I.km.of (fun f hf => g8 f (by revert f; decide) (by revert f; decide))) g5 g9 ou2 I.nN⟩
end Jo

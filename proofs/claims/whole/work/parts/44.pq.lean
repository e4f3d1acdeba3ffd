/-! ===== mean ===== -/
theorem R_mean {uw : Int32} {us cn : Nat → Int32} {cf : Nat → Nat → Int32} (vv : Nat → Int32) (hR : Rs us cn cf) (p1 : Int32) : (∃ t t', (t = 1 ∧ t' = 1) ∧ F_X3_mean cn cf vv p1 = some (.inl t) ∧ ∃ d, F_X4_mean uw us p1 = some (d, nI t')) ∨ (∃ a vv', F_X3_mean cn cf vv p1 = some (.inr (FP.ddiv (FP.l2d a) 4652007308841189376, vv')) ∧ F_X4_mean uw us p1 = some (FP.ddiv (FP.l2d a) 4652007308841189376, 0)) := by
  unfold F_X3_mean F_X4_mean
  rcases (kCurve p1).symm with ⟨e1, e2⟩ | ⟨c, hc, rfl, e1, e2⟩
  · rw [e1, e2, thr_l, bd_s, it rfl]
    exact Or.inl ⟨1, 1, ⟨rfl, rfl⟩, rfl, _, rfl⟩
  rw [e1, e2, thr_r, bd_s, if_ (show ¬ (1 : Int32) = 0 by decide)]
  obtain ⟨n, hn⟩ := hR c hc
  have k1 := cSum (vv := vv) hn.cv (a := 0) (b := 999) (by omega) (by omega)
  have k2 := mSum hc hn.1 hn.2.2.1 (a := 0) (b := 999) (by omega) (by omega)
  rw [show nI 0 = 0 from rfl, show nI 999 = 999 from rfl] at k1 k2
  rw [vS_cg hn.2.2.2] at k1
  obtain ⟨z, w, k1, k2⟩ : ∃ z w, F_X3_sumOver vv (nI n) (cf c) 0 999 = some (z, w) ∧ F_X4_sumOf us (nI c) 0 999 = some z := ⟨_, _, k1, k2⟩
  rw [hn.2.1, k1, bd_s, k2, bd_s]
  exact Or.inr ⟨z, w, rfl, rfl⟩

/-! ===== leastEase ===== -/
theorem same388 {c : Nat} {us us' : Nat → Int32} (hc : c < 4) (hO : Out c us us') (h0 : us' (97 * c) = us (97 * c)) (h1 : ∀ j, j < 96 → vw us' c j = vw us c j) : ∀ j, j < 388 → us' j = us j := by
  intro j hj
  by_cases g : j < 97 * c ∨ 97 * c + 97 ≤ j
  · exact hO j g
  · by_cases g2 : j = 97 * c
    · rw [g2]; exact h0
    · have := h1 (j - (97 * c + 1)) (by omega)
      change us' (97 * c + 1 + (j - (97 * c + 1))) = us (97 * c + 1 + (j - (97 * c + 1))) at this
      rw [show 97 * c + 1 + (j - (97 * c + 1)) = j by omega] at this
      exact this
theorem nI_ne {k : Nat} (h : k < 2147483648) : ¬ nI k = -1 := fun q => by
  have := n_T h
  rw [q, show (-1 : Int32).toInt = -1 from rfl] at this
  omega
theorem simLeast {uw : Int32} {us cn : Nat → Int32} {cf : Nat → Nat → Int32} {c n k a b : Nat} (hc : c < 4) (hn : Rc us cn cf c n) (hk : k + 1 < n) (ea : vw us c (6 * k) = nI a) (eb : vw us c (6 * (k + 1)) = nI b) (hab : a ≤ b) (hb : b ≤ 999) : ∀ (m N N' e : Nat) (ue tf vv : Nat → Int32) (bc br : Int32) (lc lr : Int64), e + m = 6 → m < N → m < N' → ue (97 * c) = nI n → Out c us ue → (∀ j, j < 96 → j ≠ 6 * k + 2 → vw ue c j = vw us c j) → (∀ j, j < 6 * n → j ≠ 6 * k + 2 → tf j = vw us c j) → (e = 0 ∧ br = -1 ∨ 0 < e ∧ br = bc ∧ lr = lc ∧ ¬ br = -1) → ∃ r tf' vv' us', F_X3_leastEase_66 cn cf (nI n) (nI k) (nI a) (nI b) N tf vv bc lc (nI e) = some (.inr (r, nI n, tf', vv')) ∧ F_X4_leastEase_51 uw (nI c) (nI k) (nI (97 * c + 1 + 6 * k + 2)) (vw us c (6 * k + 2)) N' ue br lr (nI e) = some (r, 0, us') ∧ ∀ j, j < 388 → us' j = us j := by
  have h16 := hn.2.2.1.1
  intro m
  induction m with
  | zero =>
    intro N N' e ue tf vv bc br lc lr he hN hN' h0 hO h1 h2 h3
    obtain ⟨N, rfl⟩ : ∃ z, N = z + 1 := ⟨N - 1, by omega⟩
    obtain ⟨N', rfl⟩ : ∃ z, N' = z + 1 := ⟨N' - 1, by omega⟩
    have eb : br = bc := by
      rcases h3 with ⟨q, -⟩ | ⟨-, q, -⟩
      · omega
      · exact q
    rw [F_X3_leastEase_66, F_X4_leastEase_51, it (show (5 : Int32) < nI e from (n_lt (a := 5) (by omega) (by omega)).mpr (by omega)), it (show (6 : Int32) ≤ nI e from (n_le (a := 6) (by omega) (by omega)).mpr (by omega)), vgd_t (of_sp hc (by omega) (by omega)), vlet_e, cl_sp hc (by omega) (by omega), eb]
    refine ⟨_, _, _, _, rfl, rfl, same388 hc (hO.tr (Out.up (by omega) (by omega))) (by rw [upd_n (by omega), h0, hn.1]) (fun j hj => ?_)⟩
    rw [vw_upd]
    by_cases q : j = 6 * k + 2
    · subst q
      rw [upd_s]
    · rw [upd_n q]
      exact h1 j hj q
  | succ m ih =>
    intro N N' e ue tf vv bc br lc lr he hN hN' h0 hO h1 h2 h3
    obtain ⟨N, rfl⟩ : ∃ z, N = z + 1 := ⟨N - 1, by omega⟩
    obtain ⟨N', rfl⟩ : ∃ z, N' = z + 1 := ⟨N' - 1, by omega⟩
    have te := n_T (n := e) (by omega)
    have hCu : Cv n (upd (vw us c) (6 * k + 2) (nI e)) := Cv_upd hn.2.2.1 (by omega) (by omega) (fun q => absurd q (by omega)) (fun _ => ⟨by omega, by omega⟩) (fun q => absurd q (by omega)) (fun q => absurd q (by omega)) (fun q => absurd q (by omega))
    have A1 : Ag n (upd (vw us c) (6 * k + 2) (nI e)) (upd tf (6 * k + 2) (nI e)) := fun j hj => by
      by_cases q : j = 6 * k + 2
      · subst q; rw [upd_s, upd_s]
      · rw [upd_n q, upd_n q]; exact h2 j hj q
    have A2 : Ag n (upd (vw us c) (6 * k + 2) (nI e)) (vw (upd ue (97 * c + 1 + (6 * k + 2)) (nI e)) c) := fun j hj => by
      rw [vw_upd]
      by_cases q : j = 6 * k + 2
      · subst q; rw [upd_s, upd_s]
      · rw [upd_n q, upd_n q]; exact h1 j (by omega) q
    have hu0 : upd ue (97 * c + 1 + (6 * k + 2)) (nI e) (97 * c) = nI n := by rw [upd_n (by omega)]; exact h0
    have s1 := cSum (vv := vv) (hCu.ag A1) (a := a) (b := b) (by omega) hb
    have s2 := mSum (a := a) (b := b) hc hu0 (hCu.ag A2) (by omega) hb
    rw [vS_cg A1] at s1
    rw [vS_cg A2] at s2
    have f1 : vw (upd ue (97 * c + 1 + (6 * k + 2)) (nI e)) c (6 * k) = nI a := by rw [vw_upd, upd_n (by omega), h1 _ (by omega) (by omega), ea]
    have f2 : vw (upd ue (97 * c + 1 + (6 * k + 2)) (nI e)) c (6 * (k + 1)) = nI b := by rw [vw_upd, upd_n (by omega), h1 _ (by omega) (by omega), eb]
    rw [F_X3_leastEase_66, F_X4_leastEase_51, if_ (show ¬ (5 : Int32) < nI e from fun q => absurd ((n_lt (a := 5) (by omega) (by omega)).mp q) (by omega)), if_ (show ¬ (6 : Int32) ≤ nI e from fun q => absurd ((n_le (a := 6) (by omega) (by omega)).mp q) (by omega)), vgd_t (of_sp hc (by omega) (by omega)), vlet_e, cl_sp hc (by omega) (by omega), cPut2 h16 (by omega), bd_s, s1, bd_s, mOf0 hc (by omega), bd_s, f1, nI_1 k, mOf0 hc (by omega), bd_s, f2, s2, bd_s]
    simp only [vlet_e, nI_1]
    have go := fun vv' bc' br' lc' lr' (z : e + 1 = 0 ∧ br' = -1 ∨ 0 < e + 1 ∧ br' = bc' ∧ lr' = lc' ∧ ¬ br' = -1) => ih N N' (e + 1) (upd ue (97 * c + 1 + (6 * k + 2)) (nI e)) (upd tf (6 * k + 2) (nI e)) vv' bc' br' lc' lr' (by omega) (by omega) (by omega) hu0 (hO.tr (Out.up (by omega) (by omega))) (fun j hj q => by rw [vw_upd, upd_n q]; exact h1 j hj q) (fun j hj q => by rw [upd_n q]; exact h2 j hj q) z
    rcases h3 with ⟨rfl, rfl⟩ | ⟨q0, rfl, rfl, q3⟩
    · rw [it (show nI 0 = 0 from rfl), it rfl]
      exact go _ _ _ _ _ (Or.inr ⟨by omega, rfl, rfl, nI_ne (by omega)⟩)
    · rw [if_ (show ¬ nI e = 0 from fun q => absurd ((n_eq (b := 0) (by omega) (by omega)).mp q) (by omega)), if_ q3]
      by_cases g : (0 : Int32) ≤ lg_cmp (suS (vS n (upd (vw us c) (6 * k + 2) (nI e))) (b + 1 - a) a 0) lr
      · rw [it g, it g]
        exact go _ _ _ _ _ (Or.inr ⟨by omega, rfl, rfl, q3⟩)
      · rw [if_ g, if_ g]
        exact go _ _ _ _ _ (Or.inr ⟨by omega, rfl, rfl, nI_ne (by omega)⟩)
theorem R_leastEase {uw tn : Int32} {us cn tf vv : Nat → Int32} {cf : Nat → Nat → Int32} (hR : Rs us cn cf) (p1 p2 : Int32) : (∃ t t', (t = 1 ∧ t' = 1) ∧ F_X3_leastEase cn cf tn tf vv p1 p2 = some (.inl t) ∧ F_X4_leastEase uw us p1 p2 = some (0, nI t', us)) ∨ (∃ a tn' tf' vv' us', F_X3_leastEase cn cf tn tf vv p1 p2 = some (.inr (a, tn', tf', vv')) ∧ F_X4_leastEase uw us p1 p2 = some (a, 0, us') ∧ Rs us' cn cf) := by
  unfold F_X3_leastEase F_X4_leastEase
  simp only [u_rfl, bd_s]
  rcases (kCurve p1).symm with ⟨e1, e2⟩ | ⟨c, hc, rfl, e1, e2⟩
  · have e3 : F_X4_isKey us p1 p2 = some 0 := by unfold F_X4_isKey; rw [e2, bd_s, it rfl]
    rw [e1, e3, thr_l, bd_s, it rfl]
    exact Or.inl ⟨1, 1, ⟨rfl, rfl⟩, rfl, rfl⟩
  rw [e1, thr_r]
  obtain ⟨n, hn⟩ := hR c hc
  have h16 := hn.2.2.1.1
  rcases (kKey hc hn p2).symm with ⟨e1, e2⟩ | ⟨k, hk, rfl, e1, e2⟩
  · rw [e1, e2, thr_l, bd_s, it rfl]
    exact Or.inl ⟨1, 1, ⟨rfl, rfl⟩, rfl, rfl⟩
  rw [e1, e2, thr_r, bd_s, if_ (show ¬ (1 : Int32) = 0 by decide), mMany hc, bd_s, hn.1, hn.2.1, n_s1 (by omega)]
  by_cases h : k = n - 1
  · rw [it (show nI k = nI (n - 1) by rw [h]), it (show nI k = nI (n - 1) by rw [h])]
    exact Or.inl ⟨1, 1, ⟨rfl, rfl⟩, rfl, rfl⟩
  have hne : ¬ nI k = nI (n - 1) := fun q => h ((n_eq (by omega) (by omega)).mp q)
  obtain ⟨g1, g2, -⟩ := hn.2.2.1.2.1 k hk
  obtain ⟨g3, g4, -⟩ := hn.2.2.1.2.1 (k + 1) (by omega)
  have g5 := hn.2.2.1.2.2 k (k + 1) (by omega) (by omega)
  obtain ⟨a, ha, ea⟩ := n_of' (n := 1000) g1 (by omega)
  obtain ⟨b, hb, eb⟩ := n_of' (n := 1000) g3 (by omega)
  rw [ea, eb, n_T (by omega), n_T (by omega)] at g5
  obtain ⟨f1, j1, j2⟩ := cBecome (f := cf c) h16 tn tf
  have A := hn.2.2.2.tr j2
  obtain ⟨r, tf', vv', us', k1, k2, k3⟩ := simLeast (uw := uw) hc hn (k := k) (by omega) ea eb (by omega) (by omega) 6 2000 2000 0 us f1 vv 0 (-1) 0 0 (by omega) (by omega) (by omega) hn.1 Out.rf (fun _ _ _ => rfl) (fun j hj _ => A j hj) (Or.inl ⟨rfl, rfl⟩)
  rw [show nI 0 = 0 from rfl] at k1 k2
  rw [if_ hne, if_ hne, cCell0 h16 hk, bd_s, nI_1, cCell0 h16 (by omega), bd_s, hn.2.2.2 _ (by omega), hn.2.2.2 _ (by omega), ea, eb, j1, bd_s, k1, mSpot, bd_s, n_a2, vlet_e, vgd_t (of_sp hc (by omega) (by omega)), vlet_e, cl_sp hc (by omega) (by omega)]
  have e : us (97 * c + 1 + (6 * k + 2)) = vw us c (6 * k + 2) := rfl
  rw [e, k2]
  exact Or.inr ⟨_, _, _, _, _, rfl, rfl, hR.cg k3⟩

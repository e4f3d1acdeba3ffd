/-! ===== moveKey ===== -/
theorem ins_upd {p : Nat} {D : Nat → Int32} {fr v e m s l : Int32} : upd (upd (insS p D (r6 fr v e 0 0 l)) (6 * p + 3) m) (6 * p + 4) s = insS p D (r6 fr v e m s l) := by
  funext j
  by_cases h1 : j < 6 * p
  · rw [upd_n (by omega), upd_n (by omega)]
    unfold insS
    rw [it h1, it h1]
  · by_cases h2 : j < 6 * p + 6
    · obtain ⟨w, hw, rfl⟩ : ∃ w, w < 6 ∧ j = 6 * p + w := ⟨j - 6 * p, by omega, by omega⟩
      rw [insS_at hw]
      rcases (by omega : w = 0 ∨ w = 1 ∨ w = 2 ∨ w = 3 ∨ w = 4 ∨ w = 5) with rfl | rfl | rfl | rfl | rfl | rfl
      · rw [upd_n (by omega), upd_n (by omega), insS_at hw]; rfl
      · rw [upd_n (by omega), upd_n (by omega), insS_at hw]; rfl
      · rw [upd_n (by omega), upd_n (by omega), insS_at hw]; rfl
      · rw [upd_n (by omega), upd_s]; rfl
      · rw [upd_s]; rfl
      · rw [upd_n (by omega), upd_n (by omega), insS_at hw]; rfl
    · rw [upd_n (by omega), upd_n (by omega)]
      unfold insS
      rw [if_ h1, if_ h2, if_ h1, if_ h2]
theorem NoF.del {n k : Nat} {F : Nat → Int32} {fr : Int32} (hk : k < n) (h : ∀ j, j < n → j ≠ k → F (6 * j) ≠ fr) : NoF (n - 1) (delS k F) fr := by
  intro j hj
  have e0 := delS_key (k := k) (j := j) (F := F) (w := 0) (by omega)
  rw [show 6 * j + 0 = 6 * j from rfl] at e0
  rw [e0]
  exact h _ (by split <;> omega) (by split <;> omega)
theorem NoF.cg {n : Nat} {F f : Nat → Int32} {fr : Int32} (h : NoF n F fr) (a : Ag n F f) : NoF n f fr := fun k hk => by rw [a _ (by omega)]; exact h k hk
theorem R_moveKey_in {un sc uw : Int32} {up us ua cn : Nat → Int32} {cf : Nat → Nat → Int32} {sn : Nat → Nat → Int32} {sf : Nat → Nat → Nat → Int32} (bd : Nat → Nat → Nat) (hS : St un sc up sn sf) (hR : Rs us cn cf) {c n k : Nat} (hc : c < 4) (hn : Rc us cn cf c n) (hk : k < n) {p3 : Int32} (h0 : 0 ≤ p3.toInt) (h9 : p3.toInt ≤ 999) (l1 : vw us c (6 * k + 5) ≠ 1) (hno : ∀ j, j < n → j ≠ k → vw us c (6 * j) ≠ p3) : ∃ a bd' sc' cn' cf' sn' sf' un' us' up' ua', (F_X3_saveState bd sc cn cf sn sf).bind (fun o14 => (F_X0_moveTo (cn c) (cf c) (nI k) p3).bind fun o19 => vlet (vu cn c o19.2.1) fun y20 => vlet (vu cf c o19.2.2) fun y21 => some (Sum.inr (α := Nat) (o19.1, o14.1, o14.2.1, y20, y21, o14.2.2.1, o14.2.2.2))) = some (.inr (a, bd', sc', cn', cf', sn', sf')) ∧ F_X4_moveKey_65 un uw us up ua (nI c) (nI k) p3 = some (a, un', 0, us', up', ua') ∧ St un' sc' up' sn' sf' ∧ Rs us' cn' cf' := by
  have h16 := hn.2.2.1.1
  obtain ⟨y, hy, hy2⟩ := mHold us ua
  obtain ⟨bd', sc', sn', sf', un', e3, e4⟩ := kSave (uw := uw) bd hS hR hy2
  obtain ⟨g1, g2, g3, g4, g5, g6, g7, g8, g9, g10, g11⟩ := hn.2.2.1.2.1 k hk
  have hl : vw us c (6 * k + 5) = 0 := by
    rcases g11 with q | q
    · exact q
    · exact absurd q l1
  obtain ⟨f1, i1, i2⟩ := cTakeOut h16 hn.2.2.2 hk
  obtain ⟨f2, i3, i4⟩ := cInsert (n := n - 1) (by omega) i2 p3 (vw us c (6 * k + 1)) (vw us c (6 * k + 2)) (vw us c (6 * k + 3)) (vw us c (6 * k + 4)) 0
  obtain ⟨us1, j1, j2, j3, j4⟩ := mGoes hc hn.1 h16 hk
  have hC1 := (hn.2.2.1.del hk).ag j4
  have hN1 : NoF (n - 1) (vw us1 c) p3 := (NoF.del hk hno).cg j4
  obtain ⟨us2, m1, m2, m3, m4⟩ := mComes hc j2 (by omega) hC1 p3 (vw us c (6 * k + 1)) (vw us c (6 * k + 2))
  have hC2 := (hC1.ins (m := 0) (s := 0) (l := 0) (by omega) ⟨h0, h9⟩ ⟨g3, g4⟩ ⟨g5, g6⟩ (by decide) (by decide) (Or.inl rfl) hN1).ag m4
  have hp := cnt_le (n := n - 1) (F := vw us1 c) (fr := p3)
  rw [j4.cnt] at m1 m4 hp
  obtain ⟨up', e5, e6⟩ := e4 (nI (cnt (n - 1) (delS k (vw us c)) p3))
  unfold F_X0_moveTo F_X4_moveKey_65
  rw [e3, bd_s, hn.2.1, cCell1 h16 hk, bd_s, cCell2 h16 hk, bd_s, cCell3 h16 hk, bd_s, cCell4 h16 hk, bd_s, cCell5 h16 hk, bd_s, hn.2.2.2 _ (by omega), hn.2.2.2 _ (by omega), hn.2.2.2 _ (by omega), hn.2.2.2 _ (by omega), hn.2.2.2 _ (by omega), hl, i1, bd_s, i3, bd_s, bd_s, vlet_e, vlet_e]
  rw [hy, bd_s, mOf3 hc (by omega), bd_s, mOf4 hc (by omega), bd_s, mOf1 hc (by omega), bd_s, mOf2 hc (by omega), bd_s, j1, bd_s, m1, bd_s, mSpot, bd_s, n_w3, vgd_t (of_sp hc (by omega) (by omega)), vlet_e, bd_s, n_w4, vgd_t (of_sp hc (by omega) (by omega)), vlet_e, e5, bd_s, cl_sp hc (by omega) (by omega), cl_sp hc (by omega) (by omega)]
  generalize cnt (n - 1) (delS k (vw us c)) p3 = p at hp m4 i4 m1 ⊢
  rw [show n - 1 + 1 = n by omega] at m4 i4 m2 hC2
  have ev : vw (upd (upd us2 (97 * c + 1 + (6 * p + 3)) (vw us c (6 * k + 3))) (97 * c + 1 + (6 * p + 4)) (vw us c (6 * k + 4))) c = upd (upd (vw us2 c) (6 * p + 3) (vw us c (6 * k + 3))) (6 * p + 4) (vw us c (6 * k + 4)) := by rw [vw_updE, vw_updE]
  have hO : Out c us (upd (upd us2 (97 * c + 1 + (6 * p + 3)) (vw us c (6 * k + 3))) (97 * c + 1 + (6 * p + 4)) (vw us c (6 * k + 4))) := ((j3.tr m3).tr (Out.up (by omega) (by omega))).tr (Out.up (by omega) (by omega))
  refine ⟨_, _, _, _, _, _, _, _, _, _, _, rfl, rfl, e6, hR.put hO (n := n) (by rw [upd_n (by omega), upd_n (by omega)]; exact m2) (by rw [show n - 1 + 1 = n by omega]) ?_ ?_⟩
  · rw [ev]
    exact Cv_upd (Cv_upd hC2 (by omega) (by omega) (fun q => absurd q (by omega)) (fun q => absurd q (by omega)) (fun _ => ⟨g7, g8⟩) (fun q => absurd q (by omega)) (fun q => absurd q (by omega))) (by omega) (by omega) (fun q => absurd q (by omega)) (fun q => absurd q (by omega)) (fun q => absurd q (by omega)) (fun _ => ⟨g9, g10⟩) (fun q => absurd q (by omega))
  · rw [ev]
    have a1 : Ag n (insS p (delS k (vw us c)) (r6 p3 (vw us c (6 * k + 1)) (vw us c (6 * k + 2)) 0 0 0)) (vw us2 c) := by
      have z := insS_cg (p := p) (r := r6 p3 (vw us c (6 * k + 1)) (vw us c (6 * k + 2)) 0 0 0) j4 hp
      rw [show n - 1 + 1 = n by omega] at z
      exact z.tr m4
    have a2 := Ag_upd (Ag_upd a1 (6 * p + 3) (vw us c (6 * k + 3))) (6 * p + 4) (vw us c (6 * k + 4))
    rw [ins_upd] at a2
    exact a2.sy.tr i4
theorem R_moveKey {un sc uw : Int32} {up us ua cn : Nat → Int32} {cf : Nat → Nat → Int32} {sn : Nat → Nat → Int32} {sf : Nat → Nat → Nat → Int32} (bd : Nat → Nat → Nat) (hS : St un sc up sn sf) (hR : Rs us cn cf) (p1 p2 p3 : Int32) : (∃ t t', (t < 4 ∧ 0 < t ∧ t' = t) ∧ F_X3_moveKey bd sc cn cf sn sf p1 p2 p3 = some (.inl t) ∧ F_X4_moveKey un uw us up ua p1 p2 p3 = some (0, un, nI t', us, up, ua)) ∨ (∃ a bd' sc' cn' cf' sn' sf' un' us' up' ua', F_X3_moveKey bd sc cn cf sn sf p1 p2 p3 = some (.inr (a, bd', sc', cn', cf', sn', sf')) ∧ F_X4_moveKey un uw us up ua p1 p2 p3 = some (a, un', 0, us', up', ua') ∧ St un' sc' up' sn' sf' ∧ Rs us' cn' cf') := by
  unfold F_X3_moveKey F_X4_moveKey
  simp only [u_rfl, bd_s]
  rcases (kCurve p1).symm with ⟨e1, e2⟩ | ⟨c, hc, rfl, e1, e2⟩
  · have e3 : F_X4_isKey us p1 p2 = some 0 := by unfold F_X4_isKey; rw [e2, bd_s, it rfl]
    rw [e1, e3, thr_l, bd_s, it rfl]
    exact Or.inl ⟨1, 1, ⟨by omega, by omega, rfl⟩, rfl, rfl⟩
  rw [e1, thr_r]
  obtain ⟨n, hn⟩ := hR c hc
  have h16 := hn.2.2.1.1
  rcases (kKey hc hn p2).symm with ⟨e1, e2⟩ | ⟨k, hk, rfl, e1, e2⟩
  · rw [e1, e2, thr_l, bd_s, it rfl]
    exact Or.inl ⟨1, 1, ⟨by omega, by omega, rfl⟩, rfl, rfl⟩
  rw [e1, e2, thr_r, bd_s, if_ (show ¬ (1 : Int32) = 0 by decide)]
  rcases (kFrame p3).symm with ⟨-, e1, e2⟩ | ⟨f1, f2, e1, e2⟩
  · rw [e1, e2, thr_l, bd_s, it rfl]
    exact Or.inl ⟨2, 2, ⟨by omega, by omega, rfl⟩, rfl, rfl⟩
  rw [e1, e2, thr_r, bd_s, if_ (show ¬ (1 : Int32) = 0 by decide)]
  have hat := kAt hc hn p3
  rcases (kUnl hc hn hk).symm with ⟨e1, e2⟩ | ⟨l1, e1, e2⟩
  · rw [e1, thr_l]
    rcases hat with ⟨j, j1, j2, j3, j4⟩ | ⟨j1, j2, j3⟩
    · rw [j4, bd_s, e2, bd_s, it rfl]
      exact Or.inl ⟨3, 3, ⟨by omega, by omega, rfl⟩, rfl, rfl⟩
    · rw [j3, bd_s, e2, bd_s, it rfl]
      exact Or.inl ⟨3, 3, ⟨by omega, by omega, rfl⟩, rfl, rfl⟩
  rw [e1, thr_r]
  rcases hat with ⟨j, j1, j2, j3, j4⟩ | ⟨j1, j2, j3⟩
  · have kn : ¬ nI j = -1 := fun q => by
      have := n_T (n := j) (by omega)
      rw [q] at this
      exact absurd this (by rw [show (-1 : Int32).toInt = -1 from rfl]; omega)
    rw [j3, j4, bd_s, bd_s, e2, bd_s, if_ l1, if_ kn, if_ kn]
    by_cases hjk : j = k
    · subst hjk
      rw [it rfl, it rfl]
      refine Or.inr (R_moveKey_in bd hS hR hc hn hk f1 f2 l1 (fun i hi hik e => ?_))
      rcases Nat.lt_or_gt_of_ne hik with q | q
      · have := hn.2.2.1.2.2 i j q hk
        rw [e, j2] at this
        omega
      · have := hn.2.2.1.2.2 j i q hi
        rw [e, j2] at this
        omega
    · have q : ¬ nI j = nI k := fun q => hjk ((n_eq (by omega) (by omega)).mp q)
      rw [if_ q, if_ q]
      exact Or.inl ⟨3, 3, ⟨by omega, by omega, rfl⟩, rfl, rfl⟩
  · rw [j2, j3, bd_s, bd_s, e2, bd_s, if_ l1, it rfl, it rfl]
    exact Or.inr (R_moveKey_in bd hS hR hc hn hk f1 f2 l1 (fun i hi _ => j1 i hi))

/-! ===== the methods that change keys ===== -/
theorem of_sp {c k : Nat} (hc : c < 4) (hk : k < 16) {w : Nat} (hw : w < 6) : ix (nI (97 * c + 1 + 6 * k + w)) 388 := n_ix (by omega) (by omega)
theorem cl_sp {c k : Nat} (hc : c < 4) (hk : k < 16) {w : Nat} (hw : w < 6) : (nI (97 * c + 1 + 6 * k + w)).toNatClampNeg = 97 * c + 1 + (6 * k + w) := (n_C (by omega)).trans (Nat.add_assoc _ _ _)
theorem R_removeKey {un sc uw : Int32} {up us ua cn : Nat → Int32} {cf : Nat → Nat → Int32} {sn : Nat → Nat → Int32} {sf : Nat → Nat → Nat → Int32} (bd : Nat → Nat → Nat) (hS : St un sc up sn sf) (hR : Rs us cn cf) (p1 p2 : Int32) : (∃ t t', (t = 1 ∧ t' = 1 ∨ t = 3 ∧ t' = 2) ∧ F_X3_removeKey bd sc cn cf sn sf p1 p2 = some (.inl t) ∧ F_X4_removeKey un uw us up ua p1 p2 = some (0, un, nI t', us, up, ua)) ∨ (∃ a bd' sc' cn' cf' sn' sf' un' us' up' ua', F_X3_removeKey bd sc cn cf sn sf p1 p2 = some (.inr (a, bd', sc', cn', cf', sn', sf')) ∧ F_X4_removeKey un uw us up ua p1 p2 = some (a, un', 0, us', up', ua') ∧ St un' sc' up' sn' sf' ∧ Rs us' cn' cf') := by
  unfold F_X3_removeKey F_X4_removeKey
  simp only [u_rfl, bd_s]
  rcases (kCurve p1).symm with ⟨e1, e2⟩ | ⟨c, hc, rfl, e1, e2⟩
  · have e3 : F_X4_isKey us p1 p2 = some 0 := by unfold F_X4_isKey; rw [e2, bd_s, it rfl]
    rw [e1, e3, thr_l, bd_s, it rfl]
    exact Or.inl ⟨1, 1, Or.inl ⟨rfl, rfl⟩, rfl, rfl⟩
  rw [e1, thr_r]
  obtain ⟨n, hn⟩ := hR c hc
  have h16 := hn.2.2.1.1
  rcases (kKey hc hn p2).symm with ⟨e1, e2⟩ | ⟨k, hk, rfl, e1, e2⟩
  · rw [e1, e2, thr_l, bd_s, it rfl]
    exact Or.inl ⟨1, 1, Or.inl ⟨rfl, rfl⟩, rfl, rfl⟩
  rw [e1, e2, thr_r, bd_s, if_ (show ¬ (1 : Int32) = 0 by decide)]
  rcases (kUnl hc hn hk).symm with ⟨e1, e2⟩ | ⟨l1, e1, e2⟩
  · rw [e1, e2, thr_l, bd_s, it rfl]
    exact Or.inl ⟨3, 2, Or.inr ⟨rfl, rfl⟩, rfl, rfl⟩
  rw [e1, e2, thr_r, bd_s, if_ l1]
  obtain ⟨y, hy, hy2⟩ := mHold us ua
  obtain ⟨bd', sc', sn', sf', un', e3, e4⟩ := kSave (uw := uw) bd hS hR hy2
  rw [e3, bd_s, hy, bd_s]
  obtain ⟨f', i1, i2⟩ := cTakeOut h16 hn.2.2.2 hk
  obtain ⟨us', j1, j2, j3, j4⟩ := mGoes hc hn.1 h16 hk
  obtain ⟨up', e5, e6⟩ := e4 (nI (n - 1))
  rw [hn.2.1, i1, bd_s, vlet_e, vlet_e, j1, bd_s, mMany hc, bd_s, j2, e5, bd_s, vu_s]
  exact Or.inr ⟨_, _, _, _, _, _, _, _, _, _, _, rfl, rfl, e6, hR.put j3 j2 rfl ((hn.2.2.1.del hk).ag j4) (j4.sy.tr i2)⟩
theorem n_w1 (a : Nat) : nI a + 1 = nI (a + 1) := nI_1 a
theorem n_w2 (a : Nat) : nI a + 2 = nI (a + 2) := nI_add a 2
theorem n_w3 (a : Nat) : nI a + 3 = nI (a + 3) := nI_add a 3
theorem n_w4 (a : Nat) : nI a + 4 = nI (a + 4) := nI_add a 4
theorem n_w5 (a : Nat) : nI a + 5 = nI (a + 5) := nI_add a 5
theorem R_setKey {un sc uw : Int32} {up us ua cn : Nat → Int32} {cf : Nat → Nat → Int32} {sn : Nat → Nat → Int32} {sf : Nat → Nat → Nat → Int32} (bd : Nat → Nat → Nat) (hS : St un sc up sn sf) (hR : Rs us cn cf) (p1 p2 p3 p4 : Int32) : (∃ t t', (t < 4 ∧ 0 < t ∧ t' = t) ∧ F_X3_setKey bd sc cn cf sn sf p1 p2 p3 p4 = some (.inl t) ∧ F_X4_setKey un uw us up ua p1 p2 p3 p4 = some (0, un, nI t', us, up, ua)) ∨ (∃ a bd' sc' cf' sn' sf' un' us' up' ua', F_X3_setKey bd sc cn cf sn sf p1 p2 p3 p4 = some (.inr (a, bd', sc', cf', sn', sf')) ∧ F_X4_setKey un uw us up ua p1 p2 p3 p4 = some (a, un', 0, us', up', ua') ∧ St un' sc' up' sn' sf' ∧ Rs us' cn cf') := by
  unfold F_X3_setKey F_X4_setKey
  simp only [u_rfl, bd_s]
  rcases (kCurve p1).symm with ⟨e1, e2⟩ | ⟨c, hc, rfl, e1, e2⟩
  · have e3 : F_X4_isKey us p1 p2 = some 0 := by unfold F_X4_isKey; rw [e2, bd_s, it rfl]
    rw [e1, e3, thr_l, bd_s, it rfl]
    exact Or.inl ⟨1, 1, ⟨by omega, by omega, rfl⟩, rfl, rfl⟩
  rw [e1, thr_r]
  obtain ⟨n, hn⟩ := hR c hc
  have h16 := hn.2.2.1.1
  rcases (kKey hc hn p2).symm with ⟨e1, e2⟩ | ⟨k, hk, rfl, e1, e2⟩
  · rw [e1, e2, thr_l, bd_s, it rfl]
    exact Or.inl ⟨1, 1, ⟨by omega, by omega, rfl⟩, rfl, rfl⟩
  rw [e1, e2, thr_r, bd_s, if_ (show ¬ (1 : Int32) = 0 by decide)]
  rcases (kValue p3).symm with ⟨-, e1, e2⟩ | ⟨v1, v2, e1, e2⟩
  · rw [e1, e2, thr_l, bd_s, it rfl]
    exact Or.inl ⟨2, 2, ⟨by omega, by omega, rfl⟩, rfl, rfl⟩
  rw [e1, e2, thr_r, bd_s, if_ (show ¬ (1 : Int32) = 0 by decide)]
  rcases (kRange p4 0 5).symm with ⟨-, e1, e2⟩ | ⟨s1, s2, e1, e2⟩
  · rw [e1, e2, thr_l, bd_s, it rfl]
    exact Or.inl ⟨2, 2, ⟨by omega, by omega, rfl⟩, rfl, rfl⟩
  rw [e1, e2, thr_r, bd_s, if_ (show ¬ (1 : Int32) = 0 by decide)]
  rcases (kUnl hc hn hk).symm with ⟨e1, e2⟩ | ⟨l1, e1, e2⟩
  · rw [e1, e2, thr_l, bd_s, it rfl]
    exact Or.inl ⟨3, 3, ⟨by omega, by omega, rfl⟩, rfl, rfl⟩
  rw [e1, e2, thr_r, bd_s, if_ l1]
  obtain ⟨y, hy, hy2⟩ := mHold us ua
  obtain ⟨bd', sc', sn', sf', un', e3, e4⟩ := kSave (uw := uw) bd hS hR hy2
  rw [e3, bd_s, hy, bd_s]
  obtain ⟨up', e5, e6⟩ := e4 (vw us c (6 * k + 1))
  rw [mOf1 hc (by omega), hn.2.1, cCell1 h16 hk, bd_s, hn.2.2.2 _ (by omega), cPut1 h16 hk, bd_s, vlet_e, vu_s, cPut2 h16 hk, bd_s, vlet_e, bd_s, mSpot, bd_s, n_w1, vgd_t (of_sp hc (by omega) (by omega)), vlet_e, bd_s, n_w2, vgd_t (of_sp hc (by omega) (by omega)), vlet_e, e5, bd_s, cl_sp hc (by omega) (by omega), cl_sp hc (by omega) (by omega)]
  have hO : Out c us (upd (upd us (97 * c + 1 + (6 * k + 1)) p3) (97 * c + 1 + (6 * k + 2)) p4) := (Out.up (by omega) (by omega)).tr (Out.up (by omega) (by omega))
  refine Or.inr ⟨_, _, _, _, _, _, _, _, _, _, rfl, rfl, e6, ?_⟩
  have ev : vw (upd (upd us (97 * c + 1 + (6 * k + 1)) p3) (97 * c + 1 + (6 * k + 2)) p4) c = upd (upd (vw us c) (6 * k + 1) p3) (6 * k + 2) p4 := by rw [vw_updE, vw_updE]
  have eq : vu (vu cf c (upd (cf c) (6 * k + 1) p3)) c (upd (upd (cf c) (6 * k + 1) p3) (6 * k + 2) p4) = vu cf c (upd (upd (cf c) (6 * k + 1) p3) (6 * k + 2) p4) := by
    funext j
    by_cases q : j = c
    · subst q; rw [vu_s, vu_s]
    · rw [vu_n q, vu_n q, vu_n q]
  rw [eq]
  refine hR.putf hO (by rw [upd_n (by omega), upd_n (by omega)]; exact hn.1) hn.2.1 ?_ ?_
  · rw [ev]
    exact Cv_upd (Cv_upd hn.2.2.1 (by omega) (by omega) (fun _ => ⟨v1, v2⟩) (fun q => absurd q (by omega)) (fun q => absurd q (by omega)) (fun q => absurd q (by omega)) (fun q => absurd q (by omega))) (by omega) (by omega) (fun q => absurd q (by omega)) (fun _ => ⟨s1, s2⟩) (fun q => absurd q (by omega)) (fun q => absurd q (by omega)) (fun q => absurd q (by omega))
  · rw [ev]
    exact Ag_upd (Ag_upd hn.2.2.2 _ _) _ _
theorem R_setTangent {un sc uw : Int32} {up us ua cn : Nat → Int32} {cf : Nat → Nat → Int32} {sn : Nat → Nat → Int32} {sf : Nat → Nat → Nat → Int32} (bd : Nat → Nat → Nat) (hS : St un sc up sn sf) (hR : Rs us cn cf) (p1 p2 p3 p4 : Int32) : (∃ t t', (t < 4 ∧ 0 < t ∧ t' = t) ∧ F_X3_setTangent bd sc cn cf sn sf p1 p2 p3 p4 = some (.inl t) ∧ F_X4_setTangent un uw us up ua p1 p2 p3 p4 = some (0, un, nI t', us, up, ua)) ∨ (∃ a bd' sc' cf' sn' sf' un' us' up' ua', F_X3_setTangent bd sc cn cf sn sf p1 p2 p3 p4 = some (.inr (a, bd', sc', cf', sn', sf')) ∧ F_X4_setTangent un uw us up ua p1 p2 p3 p4 = some (a, un', 0, us', up', ua') ∧ St un' sc' up' sn' sf' ∧ Rs us' cn cf') := by
  unfold F_X3_setTangent F_X4_setTangent
  simp only [u_rfl, bd_s]
  rcases (kCurve p1).symm with ⟨e1, e2⟩ | ⟨c, hc, rfl, e1, e2⟩
  · have e3 : F_X4_isKey us p1 p2 = some 0 := by unfold F_X4_isKey; rw [e2, bd_s, it rfl]
    rw [e1, e3, thr_l, bd_s, it rfl]
    exact Or.inl ⟨1, 1, ⟨by omega, by omega, rfl⟩, rfl, rfl⟩
  rw [e1, thr_r]
  obtain ⟨n, hn⟩ := hR c hc
  have h16 := hn.2.2.1.1
  rcases (kKey hc hn p2).symm with ⟨e1, e2⟩ | ⟨k, hk, rfl, e1, e2⟩
  · rw [e1, e2, thr_l, bd_s, it rfl]
    exact Or.inl ⟨1, 1, ⟨by omega, by omega, rfl⟩, rfl, rfl⟩
  rw [e1, e2, thr_r, bd_s, if_ (show ¬ (1 : Int32) = 0 by decide)]
  rcases (kRange p3 0 2).symm with ⟨-, e1, e2⟩ | ⟨v1, v2, e1, e2⟩
  · rw [e1, e2, thr_l, bd_s, it rfl]
    exact Or.inl ⟨2, 2, ⟨by omega, by omega, rfl⟩, rfl, rfl⟩
  rw [e1, e2, thr_r, bd_s, if_ (show ¬ (1 : Int32) = 0 by decide)]
  rcases (kRange p4 (-99999) 99999).symm with ⟨-, e1, e2⟩ | ⟨s1, s2, e1, e2⟩
  · rw [e1, e2, thr_l, bd_s, it rfl]
    exact Or.inl ⟨2, 2, ⟨by omega, by omega, rfl⟩, rfl, rfl⟩
  rw [e1, e2, thr_r, bd_s, if_ (show ¬ (1 : Int32) = 0 by decide)]
  rcases (kUnl hc hn hk).symm with ⟨e1, e2⟩ | ⟨l1, e1, e2⟩
  · rw [e1, e2, thr_l, bd_s, it rfl]
    exact Or.inl ⟨3, 3, ⟨by omega, by omega, rfl⟩, rfl, rfl⟩
  rw [e1, e2, thr_r, bd_s, if_ l1]
  obtain ⟨y, hy, hy2⟩ := mHold us ua
  obtain ⟨bd', sc', sn', sf', un', e3, e4⟩ := kSave (uw := uw) bd hS hR hy2
  rw [e3, bd_s, hy, bd_s]
  obtain ⟨up', e5, e6⟩ := e4 (tangS n (vw us c) k)
  rw [mTangent hc hn.1 hn.2.2.1 hk, hn.2.1, cTangent (hn.2.2.1.ag hn.2.2.2) hk, bd_s, tangS_cg hn.2.2.2 hk, cPut3 h16 hk, bd_s, vlet_e, vu_s, cPut4 h16 hk, bd_s, vlet_e, bd_s, mSpot, bd_s, n_w3, vgd_t (of_sp hc (by omega) (by omega)), vlet_e, bd_s, n_w4, vgd_t (of_sp hc (by omega) (by omega)), vlet_e, e5, bd_s, cl_sp hc (by omega) (by omega), cl_sp hc (by omega) (by omega)]
  have hO : Out c us (upd (upd us (97 * c + 1 + (6 * k + 3)) p3) (97 * c + 1 + (6 * k + 4)) p4) := (Out.up (by omega) (by omega)).tr (Out.up (by omega) (by omega))
  refine Or.inr ⟨_, _, _, _, _, _, _, _, _, _, rfl, rfl, e6, ?_⟩
  have ev : vw (upd (upd us (97 * c + 1 + (6 * k + 3)) p3) (97 * c + 1 + (6 * k + 4)) p4) c = upd (upd (vw us c) (6 * k + 3) p3) (6 * k + 4) p4 := by rw [vw_updE, vw_updE]
  have eq : vu (vu cf c (upd (cf c) (6 * k + 3) p3)) c (upd (upd (cf c) (6 * k + 3) p3) (6 * k + 4) p4) = vu cf c (upd (upd (cf c) (6 * k + 3) p3) (6 * k + 4) p4) := by
    funext j
    by_cases q : j = c
    · subst q; rw [vu_s, vu_s]
    · rw [vu_n q, vu_n q, vu_n q]
  rw [eq]
  refine hR.putf hO (by rw [upd_n (by omega), upd_n (by omega)]; exact hn.1) hn.2.1 ?_ ?_
  · rw [ev]
    exact Cv_upd (Cv_upd hn.2.2.1 (by omega) (by omega) (fun q => absurd q (by omega)) (fun q => absurd q (by omega)) (fun _ => ⟨v1, v2⟩) (fun q => absurd q (by omega)) (fun q => absurd q (by omega))) (by omega) (by omega) (fun q => absurd q (by omega)) (fun q => absurd q (by omega)) (fun q => absurd q (by omega)) (fun _ => ⟨s1, s2⟩) (fun q => absurd q (by omega))
  · rw [ev]
    exact Ag_upd (Ag_upd hn.2.2.2 _ _) _ _
theorem R_lock {un sc uw : Int32} {up us ua cn : Nat → Int32} {cf : Nat → Nat → Int32} {sn : Nat → Nat → Int32} {sf : Nat → Nat → Nat → Int32} (bd : Nat → Nat → Nat) (hS : St un sc up sn sf) (hR : Rs us cn cf) (p1 p2 p3 : Int32) : (∃ t t', (t = 1 ∧ t' = 1) ∧ F_X3_lock bd sc cn cf sn sf p1 p2 p3 = some (.inl t) ∧ F_X4_lock un uw us up ua p1 p2 p3 = some (0, un, nI t', us, up, ua)) ∨ (∃ a bd' sc' cf' sn' sf' un' us' up' ua', F_X3_lock bd sc cn cf sn sf p1 p2 p3 = some (.inr (a, bd', sc', cf', sn', sf')) ∧ F_X4_lock un uw us up ua p1 p2 p3 = some (a, un', 0, us', up', ua') ∧ St un' sc' up' sn' sf' ∧ Rs us' cn cf') := by
  unfold F_X3_lock F_X4_lock
  simp only [u_rfl, bd_s]
  rcases (kCurve p1).symm with ⟨e1, e2⟩ | ⟨c, hc, rfl, e1, e2⟩
  · have e3 : F_X4_isKey us p1 p2 = some 0 := by unfold F_X4_isKey; rw [e2, bd_s, it rfl]
    rw [e1, e3, thr_l, bd_s, it rfl]
    exact Or.inl ⟨1, 1, ⟨rfl, rfl⟩, rfl, rfl⟩
  rw [e1, thr_r]
  obtain ⟨n, hn⟩ := hR c hc
  have h16 := hn.2.2.1.1
  rcases (kKey hc hn p2).symm with ⟨e1, e2⟩ | ⟨k, hk, rfl, e1, e2⟩
  · rw [e1, e2, thr_l, bd_s, it rfl]
    exact Or.inl ⟨1, 1, ⟨rfl, rfl⟩, rfl, rfl⟩
  rw [e1, e2, thr_r, bd_s, if_ (show ¬ (1 : Int32) = 0 by decide)]
  obtain ⟨y, hy, hy2⟩ := mHold us ua
  obtain ⟨bd', sc', sn', sf', un', e3, e4⟩ := kSave (uw := uw) bd hS hR hy2
  rw [e3, bd_s, hy, bd_s]
  obtain ⟨up', e5, e6⟩ := e4 (vw us c (6 * k + 5))
  rw [mOf5 hc (by omega), hn.2.1, cCell5 h16 hk, bd_s, bd_s, hn.2.2.2 _ (by omega), mSpot, bd_s]
  by_cases g : p3 = 0
  · rw [it g, it g, cPut5 h16 hk, bd_s, vlet_e, n_w5, vgd_t (of_sp hc (by omega) (by omega)), vlet_e, e5, bd_s, cl_sp hc (by omega) (by omega)]
    refine Or.inr ⟨_, _, _, _, _, _, _, _, _, _, rfl, rfl, e6, hR.putf (Out.up (by omega) (by omega)) (by rw [upd_n (by omega)]; exact hn.1) hn.2.1 ?_ ?_⟩
    · rw [vw_updE]
      exact Cv_upd hn.2.2.1 (by omega) (by omega) (fun q => absurd q (by omega)) (fun q => absurd q (by omega)) (fun q => absurd q (by omega)) (fun q => absurd q (by omega)) (fun _ => Or.inl rfl)
    · rw [vw_updE]
      exact Ag_upd hn.2.2.2 _ _
  · rw [if_ g, if_ g, cPut5 h16 hk, bd_s, vlet_e, n_w5, vgd_t (of_sp hc (by omega) (by omega)), vlet_e, e5, bd_s, cl_sp hc (by omega) (by omega)]
    refine Or.inr ⟨_, _, _, _, _, _, _, _, _, _, rfl, rfl, e6, hR.putf (Out.up (by omega) (by omega)) (by rw [upd_n (by omega)]; exact hn.1) hn.2.1 ?_ ?_⟩
    · rw [vw_updE]
      exact Cv_upd hn.2.2.1 (by omega) (by omega) (fun q => absurd q (by omega)) (fun q => absurd q (by omega)) (fun q => absurd q (by omega)) (fun q => absurd q (by omega)) (fun _ => Or.inr rfl)
    · rw [vw_updE]
      exact Ag_upd hn.2.2.2 _ _

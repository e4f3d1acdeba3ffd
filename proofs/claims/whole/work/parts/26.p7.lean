/-! ===== what the arguments are ===== -/
theorem kRange (p a b : Int32) : (a.toInt ≤ p.toInt ∧ p.toInt ≤ b.toInt ∧ F_X3_requireRange p a b = some (.inr ()) ∧ F_X4_in p a b = some 1) ∨ (¬ (a.toInt ≤ p.toInt ∧ p.toInt ≤ b.toInt) ∧ F_X3_requireRange p a b = some (.inl 2) ∧ F_X4_in p a b = some 0) := by
  unfold F_X3_requireRange F_X4_in
  by_cases h1 : p < a
  · refine Or.inr ⟨fun h => ?_, it h1, it h1⟩
    rw [fa_lt] at h1
    omega
  · by_cases h2 : p ≤ b
    · refine Or.inl ⟨?_, (fa_le _ _).mp h2, (if_ h1).trans (it h2), (if_ h1).trans (if_ ?_)⟩
      · rw [fa_lt] at h1; omega
      · rw [fa_le] at h2; rw [fa_lt]; omega
    · refine Or.inr ⟨fun h => h2 ((fa_le _ _).mpr h.2), (if_ h1).trans (if_ h2), (if_ h1).trans (it ?_)⟩
      rw [fa_le] at h2; rw [fa_lt]; omega
theorem kCurve (p : Int32) : (∃ c, c < 4 ∧ p = nI c ∧ F_X3_curveNumbered p = some (.inr c) ∧ F_X4_isCurve p = some 1) ∨ (F_X3_curveNumbered p = some (.inl 1) ∧ F_X4_isCurve p = some 0) := by
  unfold F_X3_curveNumbered F_X4_isCurve
  rcases kRange p 0 3 with ⟨h1, h2, -, h4⟩ | ⟨h1, -, h4⟩
  · obtain ⟨c, hc, rfl⟩ := n_of' (n := 4) h1 (by have : (3 : Int32).toInt = 3 := rfl; omega)
    refine Or.inl ⟨c, hc, rfl, ?_, ?_⟩
    · rw [if_ (n_nn (by omega)), it (show nI c < 4 from (n_lt (b := 4) (by omega) (by omega)).mpr hc), vgd_t (n_ix hc (by omega)), vlet_e, n_C (by omega)]
    · rw [h4, bd_s, vgd_t (Or.inr rfl)]
  · refine Or.inr ⟨?_, ?_⟩
    · by_cases g : p < 0
      · rw [it g]
      · rw [if_ g, if_]
        intro g2
        rw [fa_lt] at g g2
        have e0 : (0 : Int32).toInt = 0 := rfl
        have e3 : (3 : Int32).toInt = 3 := rfl
        have e4 : (4 : Int32).toInt = 4 := rfl
        exact h1 ⟨by omega, by omega⟩
    · rw [h4, bd_s, vgd_t (Or.inl rfl)]
theorem kFrame (p : Int32) : (0 ≤ p.toInt ∧ p.toInt ≤ 999 ∧ F_X3_requireRange p 0 999 = some (.inr ()) ∧ F_X4_isFrame p = some 1) ∨ (¬ (0 ≤ p.toInt ∧ p.toInt ≤ 999) ∧ F_X3_requireRange p 0 999 = some (.inl 2) ∧ F_X4_isFrame p = some 0) := by
  unfold F_X4_isFrame
  rcases kRange p 0 999 with ⟨h1, h2, h3, h4⟩ | ⟨h1, h3, h4⟩
  · exact Or.inl ⟨h1, h2, h3, by rw [h4, bd_s, vgd_t (Or.inr rfl)]⟩
  · exact Or.inr ⟨h1, h3, by rw [h4, bd_s, vgd_t (Or.inl rfl)]⟩
theorem kValue (p : Int32) : (-9999 ≤ p.toInt ∧ p.toInt ≤ 9999 ∧ F_X3_requireRange p (-9999) 9999 = some (.inr ()) ∧ F_X4_isValue p = some 1) ∨ (¬ (-9999 ≤ p.toInt ∧ p.toInt ≤ 9999) ∧ F_X3_requireRange p (-9999) 9999 = some (.inl 2) ∧ F_X4_isValue p = some 0) := by
  unfold F_X4_isValue
  rcases kRange p (-9999) 9999 with ⟨h1, h2, h3, h4⟩ | ⟨h1, h3, h4⟩
  · exact Or.inl ⟨h1, h2, h3, by rw [h4, bd_s, vgd_t (Or.inr rfl)]⟩
  · exact Or.inr ⟨h1, h3, by rw [h4, bd_s, vgd_t (Or.inl rfl)]⟩
theorem kKey {us cn : Nat → Int32} {cf : Nat → Nat → Int32} {c n : Nat} (hc : c < 4) (h : Rc us cn cf c n) (p : Int32) : (∃ k, k < n ∧ p = nI k ∧ F_X3_requireKey (cn c) p = some (.inr ()) ∧ F_X4_isKey us (nI c) p = some 1) ∨ (F_X3_requireKey (cn c) p = some (.inl 1) ∧ F_X4_isKey us (nI c) p = some 0) := by
  have h16 := h.2.2.1.1
  have ec : F_X4_isCurve (nI c) = some 1 := by
    rcases kCurve (nI c) with ⟨_, _, _, _, e⟩ | ⟨e, -⟩
    · exact e
    · unfold F_X3_curveNumbered at e
      rw [if_ (n_nn (by omega)), it (show nI c < 4 from (n_lt (b := 4) (by omega) (by omega)).mpr hc), vgd_t (n_ix hc (by omega)), vlet_e] at e
      cases e
  unfold F_X3_requireKey F_X4_isKey
  rw [ec, bd_s, if_ (show ¬ (1 : Int32) = 0 by decide), mMany hc, bd_s, h.1, h.2.1]
  by_cases g : p < 0
  · refine Or.inr ⟨it g, ?_⟩
    unfold F_X4_in
    rw [it g, bd_s, it rfl]
  · obtain ⟨k, hk, rfl⟩ := nI_of g
    rw [if_ g]
    by_cases g2 : k < n
    · refine Or.inl ⟨k, g2, rfl, it ((n_lt (by omega) (by omega)).mpr g2), ?_⟩
      unfold F_X4_in
      rw [if_ g, n_s1 (by omega), if_ (by rw [n_lt (by omega) (by omega)]; omega), bd_s, if_ (show ¬ (1 : Int32) = 0 by decide)]
    · refine Or.inr ⟨if_ (fun q => g2 ((n_lt (by omega) (by omega)).mp q)), ?_⟩
      unfold F_X4_in
      have e : nI n - 1 < nI k := by
        by_cases hn : n = 0
        · subst hn
          have t := n_T (n := k) (by omega)
          rw [fa_lt, t, show (nI 0 - 1).toInt = -1 from by decide]
          omega
        · rw [n_s1 (by omega), n_lt (by omega) (by omega)]; omega
      rw [if_ g, it e, bd_s, it rfl]
theorem kUnl {us cn : Nat → Int32} {cf : Nat → Nat → Int32} {c n k : Nat} (hc : c < 4) (h : Rc us cn cf c n) (hk : k < n) : (vw us c (6 * k + 5) ≠ 1 ∧ F_X3_requireUnlocked (cn c) (cf c) (nI k) = some (.inr ()) ∧ F_X4_of us (nI c) (nI k) 5 = some (vw us c (6 * k + 5))) ∨ (F_X3_requireUnlocked (cn c) (cf c) (nI k) = some (.inl 3) ∧ F_X4_of us (nI c) (nI k) 5 = some 1) := by
  have h16 := h.2.2.1.1
  unfold F_X3_requireUnlocked
  rw [h.2.1, cIsLocked h16 hk, bd_s, h.2.2.2 _ (by omega), mOf5 hc (by omega)]
  by_cases g : vw us c (6 * k + 5) = 1
  · rw [it g, g]
    exact Or.inr ⟨if_ (by decide), rfl⟩
  · rw [if_ g]
    exact Or.inl ⟨g, it rfl, rfl⟩
theorem mKeyAt_2 {us : Nat → Int32} {c n : Nat} (hc : c < 4) (hn : us (97 * c) = nI n) (h16 : n ≤ 16) (fr : Int32) : ∀ (m N i : Nat), i + m = n → m < N → (∃ k, k < n ∧ vw us c (6 * k) = fr ∧ F_X4_keyAt_2 us (nI c) fr N (nI i) = some (nI k)) ∨ ((∀ k, i ≤ k → k < n → vw us c (6 * k) ≠ fr) ∧ F_X4_keyAt_2 us (nI c) fr N (nI i) = some (-1)) := by
  intro m
  induction m with
  | zero =>
    intro N i hi hN
    obtain ⟨N, rfl⟩ : ∃ z, N = z + 1 := ⟨N - 1, by omega⟩
    rw [F_X4_keyAt_2, mMany hc, bd_s, hn, it (by rw [n_le (by omega) (by omega)]; omega)]
    exact Or.inr ⟨fun k h1 h2 => absurd h2 (by omega), rfl⟩
  | succ m ih =>
    intro N i hi hN
    obtain ⟨N, rfl⟩ : ∃ z, N = z + 1 := ⟨N - 1, by omega⟩
    rw [F_X4_keyAt_2, mMany hc, bd_s, hn, if_ (by rw [n_le (by omega) (by omega)]; omega), mOf0 hc (by omega), bd_s]
    by_cases g : vw us c (6 * i) = fr
    · rw [it g]
      exact Or.inl ⟨i, by omega, g, rfl⟩
    · rw [if_ g, vlet_e, nI_1]
      rcases ih N (i + 1) (by omega) (by omega) with q | ⟨q1, q2⟩
      · exact Or.inl q
      · refine Or.inr ⟨fun k h1 h2 => ?_, q2⟩
        rcases Nat.lt_or_ge i k with z | z
        · exact q1 k z h2
        · have : k = i := by omega
          subst this
          exact g
theorem kAt {us cn : Nat → Int32} {cf : Nat → Nat → Int32} {c n : Nat} (hc : c < 4) (h : Rc us cn cf c n) (fr : Int32) : (∃ k, k < n ∧ vw us c (6 * k) = fr ∧ F_X0_numberAtFrame (cn c) (cf c) fr = some (nI k) ∧ F_X4_keyAt us (nI c) fr = some (nI k)) ∨ (NoF n (vw us c) fr ∧ F_X0_numberAtFrame (cn c) (cf c) fr = some (-1) ∧ F_X4_keyAt us (nI c) fr = some (-1)) := by
  obtain ⟨hn, hcn, hC, hA⟩ := h
  have h16 := hC.1
  obtain ⟨-, -, g3, g4⟩ := cntS_spec (vw us c) fr n 0
  have hp := cnt_le (n := n) (F := vw us c) (fr := fr)
  have lo : ∀ k, k < n → vw us c (6 * k) = fr → k + 1 = cnt n (vw us c) fr := by
    intro k hk e
    rcases Nat.lt_trichotomy (k + 1) (cnt n (vw us c) fr) with q | q | q
    · have a := g3 (k + 1) (Nat.zero_le _) q
      have b := hC.2.2 k (k + 1) (by omega) (by omega)
      rw [fa_le] at a
      rw [e] at b
      omega
    · exact q
    · have a := g4 (by show cnt n (vw us c) fr < 0 + n; omega)
      rw [fa_lt] at a
      rcases Nat.lt_or_ge (cnt n (vw us c) fr) k with z | z
      · have b := hC.2.2 _ k z hk
        rw [e] at b
        exact absurd (Int.lt_trans a b) (by omega)
      · have : k = cnt n (vw us c) fr := by omega
        rw [this] at e
        rw [e] at a
        omega
  have e1 : F_X0_numberAtFrame (cn c) (cf c) fr = if cnt n (vw us c) fr = 0 then some (-1) else if vw us c (6 * (cnt n (vw us c) fr - 1)) = fr then some (nI (cnt n (vw us c) fr - 1)) else some (-1) := by
    unfold F_X0_numberAtFrame
    rw [hcn, cCountUpTo h16, bd_s, hA.cnt, vlet_e]
    by_cases q : cnt n (vw us c) fr = 0
    · rw [q, it (show nI 0 - 1 < 0 from by decide), it rfl]
    · rw [n_s1 (by omega), if_ (n_nn (by omega)), if_ q, cCell0 h16 (by omega), bd_s, hA _ (by omega)]
  unfold F_X4_keyAt
  rcases mKeyAt_2 hc hn h16 fr n 2000 0 (by omega) (by omega) with ⟨k, k1, k2, k3⟩ | ⟨k1, k2⟩
  · refine Or.inl ⟨k, k1, k2, ?_, k3⟩
    have e := lo k k1 k2
    rw [e1, if_ (by omega), show cnt n (vw us c) fr - 1 = k by omega, it k2]
  · refine Or.inr ⟨fun k hk => k1 k (Nat.zero_le _) hk, ?_, k2⟩
    rw [e1]
    by_cases q : cnt n (vw us c) fr = 0
    · rw [it q]
    · rw [if_ q, if_ (k1 _ (Nat.zero_le _) (by omega))]
theorem thr_b {α β : Type} (x : Option α) (k : α → Option (Sum Nat β)) (r : Option (Sum Nat β)) (h : x.bind k = r) : x.bind k = r := h
theorem u_rfl (a b : Int32) : F_X4_fails a b = some (0, b) := rfl
theorem t_rfl (a b : Int32) : F_X4_tells a b = some (b, 0) := rfl
/-! ===== the methods that change keys ===== -/
theorem R_addKey {un sc uw : Int32} {up us ua cn : Nat → Int32} {cf : Nat → Nat → Int32} {sn : Nat → Nat → Int32} {sf : Nat → Nat → Nat → Int32} (bd : Nat → Nat → Nat) (hS : St un sc up sn sf) (hR : Rs us cn cf) (p1 p2 p3 p4 : Int32) : (∃ t, t < 4 ∧ 0 < t ∧ F_X3_addKey bd sc cn cf sn sf p1 p2 p3 p4 = some (.inl t) ∧ F_X4_addKey un uw us up ua p1 p2 p3 p4 = some (0, un, nI t, us, up, ua)) ∨ (∃ a bd' sc' cn' cf' sn' sf' un' us' up' ua', F_X3_addKey bd sc cn cf sn sf p1 p2 p3 p4 = some (.inr (a, bd', sc', cn', cf', sn', sf')) ∧ F_X4_addKey un uw us up ua p1 p2 p3 p4 = some (a, un', 0, us', up', ua') ∧ St un' sc' up' sn' sf' ∧ Rs us' cn' cf') := by
  unfold F_X3_addKey F_X4_addKey
  simp only [u_rfl, bd_s]
  rcases (kCurve p1).symm with ⟨e1, e2⟩ | ⟨c, hc, rfl, e1, e2⟩
  · rw [e1, e2, thr_l, bd_s, it rfl]
    exact Or.inl ⟨1, by omega, by omega, rfl, rfl⟩
  rw [e1, e2, thr_r, bd_s, if_ (show ¬ (1 : Int32) = 0 by decide)]
  obtain ⟨n, hn⟩ := hR c hc
  have h16 := hn.2.2.1.1
  rcases (kFrame p2).symm with ⟨-, e1, e2⟩ | ⟨f1, f2, e1, e2⟩
  · rw [e1, e2, thr_l, bd_s, it rfl]
    exact Or.inl ⟨2, by omega, by omega, rfl, rfl⟩
  rw [e1, e2, thr_r, bd_s, if_ (show ¬ (1 : Int32) = 0 by decide)]
  rcases (kValue p3).symm with ⟨-, e1, e2⟩ | ⟨v1, v2, e1, e2⟩
  · rw [e1, e2, thr_l, bd_s, it rfl]
    exact Or.inl ⟨2, by omega, by omega, rfl, rfl⟩
  rw [e1, e2, thr_r, bd_s, if_ (show ¬ (1 : Int32) = 0 by decide)]
  rcases (kRange p4 0 5).symm with ⟨-, e1, e2⟩ | ⟨s1, s2, e1, e2⟩
  · rw [e1, e2, thr_l, bd_s, it rfl]
    exact Or.inl ⟨2, by omega, by omega, rfl, rfl⟩
  rw [e1, e2, thr_r, bd_s, if_ (show ¬ (1 : Int32) = 0 by decide), mMany hc, bd_s, hn.1]
  by_cases h15 : n = 16
  · rw [hn.2.1, if_ (show ¬ nI n < 16 by rw [h15]; decide), it (show nI n = 16 by rw [h15]; rfl)]
    exact Or.inl ⟨3, by omega, by omega, rfl, rfl⟩
  rw [it (show cn c < 16 by rw [hn.2.1]; exact (n_lt (b := 16) (by omega) (by omega)).mpr (by omega)), if_ (show ¬ nI n = 16 from fun q => h15 ((n_eq (b := 16) (by omega) (by omega)).mp q))]
  rcases kAt hc hn p2 with ⟨k, k1, k2, e1, e2⟩ | ⟨k1, e1, e2⟩
  · have kn : ¬ nI k = -1 := fun q => by
      have := n_T (n := k) (by omega)
      rw [q] at this
      exact absurd this (by rw [show (-1 : Int32).toInt = -1 from rfl]; omega)
    rw [e1, e2, bd_s, bd_s, if_ kn, if_ kn]
    exact Or.inl ⟨3, by omega, by omega, rfl, rfl⟩
  obtain ⟨y, hy, hy2⟩ := mHold us ua
  obtain ⟨bd', sc', sn', sf', un', e3, e4⟩ := kSave (uw := uw) bd hS hR hy2
  obtain ⟨f', i1, i2⟩ := cInsert (n := n) (by omega) hn.2.2.2 p2 p3 p4 0 0 0
  obtain ⟨us', j1, j2, j3, j4⟩ := mComes hc hn.1 (by omega) hn.2.2.1 p2 p3 p4
  obtain ⟨up', e5, e6⟩ := e4 (nI (cnt n (vw us c) p2))
  have hC' := (hn.2.2.1.ins (fr := p2) (v := p3) (e := p4) (m := 0) (s := 0) (l := 0) (by omega) ⟨f1, f2⟩ ⟨v1, v2⟩ ⟨s1, s2⟩ (by decide) (by decide) (Or.inl rfl) k1).ag j4
  rw [e1, e2, bd_s, bd_s, it rfl, it rfl, hy, bd_s, e3, bd_s, hn.2.1, i1, bd_s, vlet_e, vlet_e, j1, bd_s, e5, bd_s]
  exact Or.inr ⟨_, _, _, _, _, _, _, _, _, _, _, rfl, rfl, e6, hR.put j3 j2 rfl hC' (j4.sy.tr i2)⟩

/-! ===== parse ===== -/
theorem simParse {un uw : Int32} {up ua : Nat → Int32} {T c : Nat} {ut tb us0 : Nat → Int32} {lk : Int32} (hT : TxN T ut tb) (hc : c < 4) : ∀ (m N N' a n : Nat) (uz : Int32) (us f : Nat → Int32), T ≤ a + m → a ≤ T → m + 1 < N → m + 2 < N' → n ≤ 16 → us (97 * c) = nI n → Out c us0 us → Cv n (vw us c) → Ag n (vw us c) f → ∃ uq' uz' us' n' f', us' (97 * c) = nI n' ∧ Out c us0 us' ∧ Cv n' (vw us' c) ∧ Ag n' (vw us' c) f' ∧ ((∃ ta, F_X1_readInto_12 (nI T) tb N (nI a) (nI n) f (nI n) = some (-1, ta, nI n', f') ∧ F_X4_parse_40 un (nI T) uw up ua ut (nI c) lk N' (nI a) uz us 1 = F_X4_parse_64 un (nI T) uw uq' uz' us' up ua ut (nI c) lk 1) ∨ (∃ b, b < 700 ∧ uq' = nI b ∧ F_X1_readInto_12 (nI T) tb N (nI a) (nI n) f (nI n) = some (nI b, nI b, nI n', f') ∧ F_X4_parse_40 un (nI T) uw up ua ut (nI c) lk N' (nI a) uz us 1 = F_X4_parse_64 un (nI T) uw uq' uz' us' up ua ut (nI c) lk 0)) := by
  have h1 := hT.1
  have p0 : ∀ (N : Nat) (uq uz : Int32) (us : Nat → Int32), 0 < N → F_X4_parse_40 un (nI T) uw up ua ut (nI c) lk N uq uz us 0 = F_X4_parse_64 un (nI T) uw uq uz us up ua ut (nI c) lk 0 := by
    intro N uq uz us hN
    obtain ⟨N, rfl⟩ : ∃ z, N = z + 1 := ⟨N - 1, by omega⟩
    rw [F_X4_parse_40]
    by_cases g : nI T ≤ uq
    · rw [it g]
    · rw [if_ g, it rfl]
  intro m
  induction m with
  | zero =>
    intro N N' a n uz us f hm ha hN hN' h16 h0 hO hC hA
    obtain ⟨N, rfl⟩ : ∃ z, N = z + 1 := ⟨N - 1, by omega⟩
    obtain ⟨N', rfl⟩ : ∃ z, N' = z + 1 := ⟨N' - 1, by omega⟩
    refine ⟨nI a, uz, us, n, f, h0, hO, hC, hA, Or.inl ⟨nI a, ?_, ?_⟩⟩
    · rw [F_X1_readInto_12, if_ (show ¬ (16 : Int32) < nI n from fun q => absurd ((n_lt (a := 16) (by omega) (by omega)).mp q) (by omega)), if_ (by rw [n_lt (by omega) (by omega)]; omega)]
    · rw [F_X4_parse_40, it (by rw [n_le (by omega) (by omega)]; omega)]
  | succ m ih =>
    intro N N' a n uz us f hm ha hN hN' h16 h0 hO hC hA
    obtain ⟨N, rfl⟩ : ∃ z, N = z + 1 := ⟨N - 1, by omega⟩
    obtain ⟨N', rfl⟩ : ∃ z, N' = z + 1 := ⟨N' - 1, by omega⟩
    rw [F_X1_readInto_12, F_X4_parse_40, if_ (show ¬ (16 : Int32) < nI n from fun q => absurd ((n_lt (a := 16) (by omega) (by omega)).mp q) (by omega))]
    by_cases g : a < T
    · rw [it (show nI a < nI T from (n_lt (by omega) (by omega)).mpr g), if_ (show ¬ nI T ≤ nI a from fun q => absurd ((n_le (by omega) (by omega)).mp q) (by omega)), if_ (show ¬ (1 : Int32) = 0 by decide)]
      by_cases q16 : n = 16
      · subst q16
        have e : F_X4_isItem (nI T) (nI a) uz us ut (nI c) = some (0, nI a, uz, us) := by
          unfold F_X4_isItem
          rw [mMany hc, bd_s, h0, it (show nI 16 = 16 from rfl)]
        rw [it (show nI 16 = 16 from rfl), e, bd_s]
        exact ⟨nI a, uz, us, 16, f, h0, hO, hC, hA, Or.inr ⟨a, by omega, rfl, rfl, p0 N' _ _ _ (by omega)⟩⟩
      · rw [if_ (show ¬ nI n = 16 from fun q => q16 ((n_eq (b := 16) (by omega) (by omega)).mp q))]
        obtain ⟨ok, a', uz', us', n', f', k1, k2, k3, k4, k5, k6, k7, k8⟩ := simItem hT hc h0 hC hA (by omega) (a := a) (by omega) uz
        rw [k1, k2, bd_s, bd_s]
        cases ok
        · obtain ⟨rfl, h700⟩ := k8 rfl
          rw [it b1f]
          exact ⟨nI a', uz', us', n', f', k3, hO.tr k4, k5, k6, Or.inr ⟨a', h700, rfl, rfl, p0 N' _ _ _ (by omega)⟩⟩
        · obtain ⟨rfl, h2, h3⟩ := k7 rfl
          rw [if_ b1t, vlet_e, nI_1]
          exact ih N N' a' (n + 1) uz' us' f' (by omega) h3 (by omega) (by omega) (by omega) k3 (hO.tr k4) k5 k6
    · rw [if_ (show ¬ nI a < nI T from fun q => g ((n_lt (by omega) (by omega)).mp q)), it (show nI T ≤ nI a from (n_le (by omega) (by omega)).mpr (by omega))]
      exact ⟨nI a, uz, us, n, f, h0, hO, hC, hA, Or.inl ⟨nI a, rfl, rfl⟩⟩
theorem mParse_82 {un uy uw uq uz v : Int32} {up ua ut us0 : Nat → Int32} (h : ∀ j, j < 388 → ua j = us0 j) : ∀ (m N k : Nat) (us : Nat → Int32), k + m = 388 → m < N → (∀ j, j < k → us j = us0 j) → ∃ us', F_X4_parse_82 un uy uw uq uz up ua ut v N us (nI k) = (if v = 0 then some (-10 - uq, un, 0, uq, uz, us', up, ua) else some (0, un, 2, uq, uz, us', up, ua)) ∧ ∀ j, j < 388 → us' j = us0 j := by
  intro m
  induction m with
  | zero =>
    intro N k us hk hN h1
    obtain ⟨N, rfl⟩ : ∃ z, N = z + 1 := ⟨N - 1, by omega⟩
    rw [F_X4_parse_82, it (show (388 : Int32) ≤ nI k from (n_le (a := 388) (by omega) (by omega)).mpr (by omega)), u_rfl, t_rfl, bd_s, bd_s]
    exact ⟨us, rfl, fun j hj => h1 j (by omega)⟩
  | succ m ih =>
    intro N k us hk hN h1
    obtain ⟨N, rfl⟩ : ∃ z, N = z + 1 := ⟨N - 1, by omega⟩
    rw [F_X4_parse_82, if_ (show ¬ (388 : Int32) ≤ nI k from fun h => absurd ((n_le (a := 388) (by omega) (by omega)).mp h) (by omega)), vgd_t (n_ix (by omega) (by omega)), vgd_t (n_ix (by omega) (by omega)), vlet_e, vlet_e, nI_1, n_C (by omega)]
    refine ih N (k + 1) _ (by omega) (by omega) (fun j hj => ?_)
    by_cases q : j = k
    · subst q
      rw [upd_s]
      exact h j (by omega)
    · rw [upd_n q]
      exact h1 j (by omega)
theorem Cv_0 (F : Nat → Int32) : Cv 0 F := ⟨by omega, fun k hk => absurd hk (by omega), fun j k _ hk => absurd hk (by omega)⟩
theorem R_parse {un sc uw uq uz uy tl tat tn : Int32} {up us ua ut tb cn tf : Nat → Int32} {cf : Nat → Nat → Int32} {sn : Nat → Nat → Int32} {sf : Nat → Nat → Nat → Int32} (bd : Nat → Nat → Nat) (hS : St un sc up sn sf) (hR : Rs us cn cf) (hX : Tx uy tl ut tb) (p1 : Int32) : (∃ t t' uq' uz' us' ua', (t = 1 ∧ t' = 1 ∨ t = 3 ∧ t' = 2) ∧ F_X3_parse bd sc tl tat tb cn cf sn sf tn tf p1 = some (.inl t) ∧ F_X4_parse un uy uw uq uz us up ua ut p1 = some (0, un, nI t', uq', uz', us', up, ua') ∧ Rs us' cn cf) ∨ (∃ a bd' sc' tat' cn' cf' sn' sf' tn' tf' un' uq' uz' us' up' ua', F_X3_parse bd sc tl tat tb cn cf sn sf tn tf p1 = some (.inr (a, bd', sc', tat', cn', cf', sn', sf', tn', tf')) ∧ F_X4_parse un uy uw uq uz us up ua ut p1 = some (a, un', 0, uq', uz', us', up', ua') ∧ St un' sc' up' sn' sf' ∧ Rs us' cn' cf') := by
  obtain ⟨T, hT1, rfl, rfl, hT2⟩ := hX
  have hT : TxN T ut tb := ⟨hT1, hT2⟩
  unfold F_X3_parse F_X4_parse F_X1_readInto F_X3_requireNoLock
  simp only [u_rfl, bd_s]
  rcases (kCurve p1).symm with ⟨e1, e2⟩ | ⟨c, hc, rfl, e1, e2⟩
  · rw [e1, e2, thr_l, bd_s, it rfl]
    exact Or.inl ⟨1, 1, _, _, _, _, Or.inl ⟨rfl, rfl⟩, rfl, rfl, hR⟩
  obtain ⟨n, hn⟩ := hR c hc
  have h16 := hn.2.2.1.1
  obtain ⟨l1, l2⟩ := kHas hc hn
  obtain ⟨y, hy, hy2⟩ := mHold us ua
  rw [e1, e2, thr_r, bd_s, if_ (show ¬ (1 : Int32) = 0 by decide), hy, bd_s, l2, bd_s, n_w, vgd_t (n_ix (by omega) (by omega)), vlet_e, n_C (by omega)]
  obtain ⟨uq', uz', us', n', f', k1, k2, k3, k4, k5⟩ := simParse (un := un) (uw := uw) (up := up) (ua := y) (us0 := us) (lk := b1 (lkR (vw us c) n 0)) hT hc T 2000 2000 0 0 uz (upd us (97 * c) 0) tf (by omega) (by omega) (by omega) (by omega) (by omega) upd_s (Out.up (by omega) (by omega)) (Cv_0 _) (fun j hj => absurd hj (by omega))
  rw [show nI 0 = 0 from rfl] at k5
  rcases k5 with ⟨ta, i1, i2⟩ | ⟨b, hb, rfl, i1, i2⟩
  · rw [i1, i2, bd_s, it rfl]
    unfold F_X4_parse_64 F_X4_parse_79
    rw [mMany hc, bd_s, if_ (show ¬ (1 : Int32) = 0 by decide), l1, bd_s]
    cases hl : lkR (vw us c) n 0
    · rw [it b1f, it b1f, thr_r]
      obtain ⟨bd', sc', sn', sf', un', e3, e4⟩ := kSave (uw := uw) bd hS hR hy2
      obtain ⟨up', e5, e6⟩ := e4 (nI n')
      obtain ⟨f2, g1, g2⟩ := cBecome (f := f') k3.1 (cn c) (cf c)
      rw [e3, bd_s, g1, bd_s, vlet_e, vlet_e, vu_s, k1, e5, bd_s]
      exact Or.inr ⟨_, _, _, _, _, _, _, _, _, _, _, _, _, _, _, _, rfl, rfl, e6, hR.put k2 k1 rfl k3 (k4.tr g2)⟩
    · rw [if_ b1t, if_ b1t, thr_l]
      obtain ⟨u2, j1, j2⟩ := mParse_82 (un := un) (uy := nI T) (uw := uw) (uq := uq') (uz := uz') (v := 1) (up := up) (ut := ut) hy2 388 2000 0 us' (by omega) (by omega) (fun j hj => absurd hj (by omega))
      rw [show nI 0 = 0 from rfl, if_ (show ¬ (1 : Int32) = 0 by decide)] at j1
      rw [j1]
      exact Or.inl ⟨3, 2, _, _, _, _, Or.inr ⟨rfl, rfl⟩, rfl, rfl, hR.cg j2⟩
  · rw [i1, i2, bd_s, if_ (nI_ne (by omega))]
    unfold F_X4_parse_64 F_X4_parse_79
    obtain ⟨u2, j1, j2⟩ := mParse_82 (un := un) (uy := nI T) (uw := uw) (uq := nI b) (uz := uz') (v := 0) (up := up) (ut := ut) hy2 388 2000 0 us' (by omega) (by omega) (fun j hj => absurd hj (by omega))
    rw [show nI 0 = 0 from rfl, it rfl] at j1
    rw [mMany hc, bd_s, it rfl, j1]
    exact Or.inr ⟨_, _, _, _, _, _, _, _, _, _, _, _, _, _, _, _, rfl, rfl, hS, hR.cg j2⟩

/-! ===== stretch, greatestStretch ===== -/
theorem kSpan (p1 p2 : Int32) : (∃ x y, x < y ∧ y ≤ 999 ∧ p1 = nI x ∧ p2 = nI y ∧ F_X3_requireSpan p1 p2 = some (.inr ()) ∧ F_X4_isSpan p1 p2 = some 1) ∨ (F_X3_requireSpan p1 p2 = some (.inl 2) ∧ F_X4_isSpan p1 p2 = some 0) := by
  unfold F_X3_requireSpan F_X4_isSpan
  rcases kRange p1 0 998 with ⟨h1, h2, h3, h4⟩ | ⟨h1, h3, h4⟩
  · obtain ⟨x, hx, rfl⟩ := n_of' (n := 999) h1 (by have : (998 : Int32).toInt = 998 := rfl; omega)
    rw [h3, h4, thr_r, bd_s, if_ (show ¬ (1 : Int32) = 0 by decide), nI_1]
    rcases kRange p2 (nI (x + 1)) 999 with ⟨g1, g2, g3, g4⟩ | ⟨g1, g3, g4⟩
    · have e9 : (999 : Int32).toInt = 999 := rfl
      rw [n_T (by omega)] at g1
      obtain ⟨y, hy, rfl⟩ := n_of' (x := p2) (n := 1000) (by omega) (by omega)
      rw [n_T (by omega)] at g1
      rw [g3, g4, thr_r, bd_s, if_ (show ¬ (1 : Int32) = 0 by decide)]
      exact Or.inl ⟨x, y, by omega, by omega, rfl, rfl, rfl, rfl⟩
    · rw [g3, g4, thr_l, bd_s, it rfl]
      exact Or.inr ⟨rfl, rfl⟩
  · rw [h3, h4, thr_l, bd_s, it rfl]
    exact Or.inr ⟨rfl, rfl⟩
theorem kFrames (p1 p2 : Int32) : (∃ x y, x ≤ y ∧ y ≤ 999 ∧ p1 = nI x ∧ p2 = nI y ∧ F_X3_requireFrames p1 p2 = some (.inr ()) ∧ F_X4_areFrames p1 p2 = some 1) ∨ (F_X3_requireFrames p1 p2 = some (.inl 2) ∧ F_X4_areFrames p1 p2 = some 0) := by
  unfold F_X3_requireFrames F_X4_areFrames
  have e9 : (999 : Int32).toInt = 999 := rfl
  rcases kFrame p1 with ⟨h1, h2, h3, h4⟩ | ⟨h1, h3, h4⟩
  · obtain ⟨x, hx, rfl⟩ := n_of' (n := 1000) h1 (by omega)
    rw [h3, h4, thr_r, bd_s, if_ (show ¬ (1 : Int32) = 0 by decide)]
    rcases kRange p2 (nI x) 999 with ⟨g1, g2, g3, g4⟩ | ⟨g1, g3, g4⟩
    · rw [n_T (by omega)] at g1
      obtain ⟨y, hy, rfl⟩ := n_of' (x := p2) (n := 1000) (by omega) (by omega)
      rw [n_T (by omega)] at g1
      rw [g3, g4, thr_r, bd_s, if_ (show ¬ (1 : Int32) = 0 by decide)]
      exact Or.inl ⟨x, y, by omega, by omega, rfl, rfl, rfl, rfl⟩
    · rw [g3, g4, thr_l, bd_s, it rfl]
      exact Or.inr ⟨rfl, rfl⟩
  · rw [h3, h4, thr_l, bd_s, it rfl]
    exact Or.inr ⟨rfl, rfl⟩
theorem ad0 (v : Int32) : v + 0 = v := Int32.add_zero v
theorem ix_sp {c k : Nat} (hc : c < 4) (hk : k < 16) : ix (nI (97 * c + 1 + 6 * k)) 388 := n_ix (by omega) (by omega)
theorem simStretch {un uw : Int32} {up ua : Nat → Int32} {n c : Nat} {us0 : Nat → Int32} (hc : c < 4) (h16 : n ≤ 16) (x y p : Int32) : ∀ (m N N' i : Nat) (us f : Nat → Int32) (v : Int32), i + m = n → m < N → m < N' → us (97 * c) = nI n → Out c us0 us → (∀ j, j < i → vw us c (6 * j) = strS (vw us0 c (6 * j)) x y p) → (∀ j, i ≤ j → j < n → vw us c (6 * j) = vw us0 c (6 * j)) → (∀ j w, j < n → 0 < w → w < 6 → vw us c (6 * j + w) = vw us0 c (6 * j + w)) → Ag n (vw us c) f → ∃ us' f' v', F_X4_stretch_68 un uw up ua (nI c) x y p N us v (nI i) = (F_X4_ends un uw up ua v').bind (fun o15 => some (o15.1, o15.2.1, o15.2.2.1, us', o15.2.2.2, ua)) ∧ F_X0_stretchSpan_6 (nI n) x y p N' f v (nI i) = some (v', f') ∧ us' (97 * c) = nI n ∧ Out c us0 us' ∧ (∀ j, j < n → vw us' c (6 * j) = strS (vw us0 c (6 * j)) x y p) ∧ (∀ j w, j < n → 0 < w → w < 6 → vw us' c (6 * j + w) = vw us0 c (6 * j + w)) ∧ Ag n (vw us' c) f' := by
  intro m
  induction m with
  | zero =>
    intro N N' i us f v hi hN hN' h0 hO h1 h2 h3 hA
    obtain ⟨N, rfl⟩ : ∃ z, N = z + 1 := ⟨N - 1, by omega⟩
    obtain ⟨N', rfl⟩ : ∃ z, N' = z + 1 := ⟨N' - 1, by omega⟩
    rw [F_X4_stretch_68, F_X0_stretchSpan_6, mMany hc, bd_s, h0, it (by rw [n_le (by omega) (by omega)]; omega), it (by rw [n_le (by omega) (by omega)]; omega)]
    exact ⟨us, f, v, rfl, rfl, h0, hO, fun j hj => h1 j (by omega), h3, hA⟩
  | succ m ih =>
    intro N N' i us f v hi hN hN' h0 hO h1 h2 h3 hA
    obtain ⟨N, rfl⟩ : ∃ z, N = z + 1 := ⟨N - 1, by omega⟩
    obtain ⟨N', rfl⟩ : ∃ z, N' = z + 1 := ⟨N' - 1, by omega⟩
    rw [F_X4_stretch_68, F_X0_stretchSpan_6, mMany hc, bd_s, h0, if_ (by rw [n_le (by omega) (by omega)]; omega), if_ (by rw [n_le (by omega) (by omega)]; omega), mOf0 hc (by omega), bd_s, mStr, bd_s, bd_s, cCell0 h16 (by omega), bd_s, cStr, bd_s, hA _ (by omega), cPut0 h16 (by omega), mSpot]
    simp only [vlet_e, bd_s]
    rw [vgd_t (ix_sp hc (by omega)), vgd_t (ix_sp hc (by omega)), n_C (by omega), ad0]
    simp only [nI_1]
    have go := fun v' => ih N N' (i + 1) (upd us (97 * c + 1 + 6 * i) (strS (vw us c (6 * i)) x y p)) (upd f (6 * i) (strS (vw us c (6 * i)) x y p)) v' (by omega) (by omega) (by omega) (by rw [upd_n (by omega)]; exact h0) (hO.tr (Out.up (by omega) (by omega))) (fun j hj => by
        rw [vw_upd]
        by_cases q : j = i
        · subst q
          rw [upd_s, h2 j (by omega) (by omega)]
        · rw [upd_n (by omega)]
          exact h1 j (by omega)) (fun j hj hj2 => by
        rw [vw_upd, upd_n (by omega)]
        exact h2 j (by omega) hj2) (fun j w hj hw hw6 => by
        rw [vw_upd, upd_n (by omega)]
        exact h3 j w hj hw hw6) (by rw [vw_updE]; exact Ag_upd hA _ _)
    by_cases g : strS (vw us c (6 * i)) x y p = vw us c (6 * i)
    · rw [it g, it g]
      exact go v
    · rw [if_ g, if_ g]
      exact go (v + 1)
theorem stretch_Cv {n x y p : Nat} {F G : Nat → Int32} (h : Cv n F) (hxy : x < y) (hy : y ≤ 999) (hp : p ≤ 500) (h1 : ∀ j, j < n → G (6 * j) = strS (F (6 * j)) (nI x) (nI y) (nI p)) (h2 : ∀ j w, j < n → 0 < w → w < 6 → G (6 * j + w) = F (6 * j + w)) (hm : mayR F (nI x) (nI y) (nI p) n 0 (-1) = true) : Cv n G := by
  obtain ⟨m1, m2⟩ := mayR_spec n 0 _ hm
  have fr : ∀ j, j < n → ∃ a, a ≤ 999 ∧ F (6 * j) = nI a := by
    intro j hj
    obtain ⟨g1, g2, -⟩ := h.2.1 j hj
    obtain ⟨a, ha, e⟩ := n_of' (n := 1000) g1 (by omega)
    exact ⟨a, by omega, e⟩
  have e9 : (999 : Int32).toInt = 999 := rfl
  refine ⟨h.1, fun j hj => ?_, fun i j hij hj => ?_⟩
  · obtain ⟨-, -, g⟩ := h.2.1 j hj
    rw [h1 j hj, h2 j 1 hj (by omega) (by omega), h2 j 2 hj (by omega) (by omega), h2 j 3 hj (by omega) (by omega), h2 j 4 hj (by omega) (by omega), h2 j 5 hj (by omega) (by omega)]
    refine ⟨?_, ?_, g⟩
    · obtain ⟨a, ha, e⟩ := fr j hj
      have := strN_sm (p := p) ha hxy hy hp
      rw [e, strS_N ha hxy hy hp, n_T (by omega)]
      omega
    · have := m1 j (Nat.zero_le _) (by omega)
      rw [fa_le] at this
      omega
  · obtain ⟨a, ha, ea⟩ := fr i (by omega)
    obtain ⟨b, hb, eb⟩ := fr (j - 1) (by omega)
    obtain ⟨d, hd, ed⟩ := fr j hj
    have q1 : a ≤ b := by
      rcases Nat.lt_or_ge i (j - 1) with q | q
      · have := h.2.2 i (j - 1) q (by omega)
        rw [ea, eb, n_T (by omega), n_T (by omega)] at this
        omega
      · have : i = j - 1 := by omega
        subst this
        have e : nI a = nI b := ea.symm.trans eb
        rw [n_eq (by omega) (by omega)] at e
        omega
    have q2 : b ≤ d := by
      have := h.2.2 (j - 1) j (by omega) hj
      rw [eb, ed, n_T (by omega), n_T (by omega)] at this
      omega
    have s1 := strN_le (p := p) q1 hxy
    have s2 := strN_le (p := p) q2 hxy
    have ne := m2 (j - 1) (Nat.zero_le _) (by omega)
    rw [show j - 1 + 1 = j by omega, eb, ed, strS_N hb hxy hy hp, strS_N hd hxy hy hp] at ne
    have b1 := strN_sm (p := p) ha hxy hy hp
    have b2 := strN_sm (p := p) hb hxy hy hp
    have b3 := strN_sm (p := p) hd hxy hy hp
    have ne2 : strN d x y p ≠ strN b x y p := fun q => ne (by rw [q])
    rw [h1 i (by omega), h1 j hj, ea, ed, strS_N ha hxy hy hp, strS_N hd hxy hy hp, n_T (by omega), n_T (by omega)]
    omega
theorem R_stretch {un sc uw : Int32} {up us ua cn : Nat → Int32} {cf : Nat → Nat → Int32} {sn : Nat → Nat → Int32} {sf : Nat → Nat → Nat → Int32} (bd : Nat → Nat → Nat) (hS : St un sc up sn sf) (hR : Rs us cn cf) (p1 p2 p3 p4 : Int32) : (∃ t t', (t < 4 ∧ 0 < t ∧ t' = t) ∧ F_X3_stretch bd sc cn cf sn sf p1 p2 p3 p4 = some (.inl t) ∧ F_X4_stretch un uw us up ua p1 p2 p3 p4 = some (0, un, nI t', us, up, ua)) ∨ (∃ a bd' sc' cf' sn' sf' un' us' up' ua', F_X3_stretch bd sc cn cf sn sf p1 p2 p3 p4 = some (.inr (a, bd', sc', cf', sn', sf')) ∧ F_X4_stretch un uw us up ua p1 p2 p3 p4 = some (a, un', 0, us', up', ua') ∧ St un' sc' up' sn' sf' ∧ Rs us' cn cf') := by
  unfold F_X3_stretch F_X4_stretch
  simp only [u_rfl, bd_s]
  rcases (kCurve p1).symm with ⟨e1, e2⟩ | ⟨c, hc, rfl, e1, e2⟩
  · rw [e1, e2, thr_l, bd_s, it rfl]
    exact Or.inl ⟨1, 1, ⟨by omega, by omega, rfl⟩, rfl, rfl⟩
  rw [e1, e2, thr_r, bd_s, if_ (show ¬ (1 : Int32) = 0 by decide)]
  obtain ⟨n, hn⟩ := hR c hc
  have h16 := hn.2.2.1.1
  rcases (kSpan p2 p3).symm with ⟨e1, e2⟩ | ⟨x, y, hxy, hy, rfl, rfl, e1, e2⟩
  · rw [e1, e2, thr_l, bd_s, it rfl]
    exact Or.inl ⟨2, 2, ⟨by omega, by omega, rfl⟩, rfl, rfl⟩
  rw [e1, e2, thr_r, bd_s, if_ (show ¬ (1 : Int32) = 0 by decide)]
  rcases (kRange p4 10 500).symm with ⟨-, e1, e2⟩ | ⟨r1, r2, e1, e2⟩
  · rw [e1, e2, thr_l, bd_s, it rfl]
    exact Or.inl ⟨2, 2, ⟨by omega, by omega, rfl⟩, rfl, rfl⟩
  rw [show (10 : Int32).toInt = 10 from rfl] at r1
  rw [show (500 : Int32).toInt = 500 from rfl] at r2
  obtain ⟨p, hp, rfl⟩ := n_of' (x := p4) (n := 501) (by omega) (by omega)
  obtain ⟨m1, m2⟩ := kMay hc hn (nI x) (nI y) (nI p)
  rw [e1, e2, thr_r, bd_s, if_ (show ¬ (1 : Int32) = 0 by decide), m1, m2, bd_s, bd_s]
  cases hm : mayR (vw us c) (nI x) (nI y) (nI p) n 0 (-1)
  · rw [it (show b1 false = 0 from rfl), it (show b1 false = 0 from rfl)]
    exact Or.inl ⟨3, 3, ⟨by omega, by omega, rfl⟩, rfl, rfl⟩
  rw [if_ (show ¬ b1 true = 0 by decide), if_ (show ¬ b1 true = 0 by decide)]
  obtain ⟨yy, hy1, hy2⟩ := mHold us ua
  obtain ⟨bd', sc', sn', sf', un', e3, e4⟩ := kSave (uw := uw) bd hS hR hy2
  obtain ⟨us', f', v', i1, i2, i3, i4, i5, i6, i7⟩ := simStretch (un := un) (uw := uw) (up := up) (ua := yy) (us0 := us) hc h16 (nI x) (nI y) (nI p) n 2000 2000 0 us (cf c) 0 (by omega) (by omega) (by omega) hn.1 Out.rf (fun j hj => absurd hj (by omega)) (fun _ _ _ => rfl) (fun _ _ _ _ _ => rfl) hn.2.2.2
  obtain ⟨up', e5, e6⟩ := e4 v'
  unfold F_X0_stretchSpan
  rw [show nI 0 = 0 from rfl] at i1 i2
  rw [e3, bd_s, hn.2.1, i2, bd_s, vlet_e, hy1, bd_s, i1, e5, bd_s]
  exact Or.inr ⟨_, _, _, _, _, _, _, _, _, _, rfl, rfl, e6, hR.putf i4 i3 hn.2.1 (stretch_Cv hn.2.2.1 hxy hy (by omega) i5 i6 hm) i7⟩
theorem mayR_100 {n x y : Nat} {F : Nat → Int32} (h : Cv n F) (hxy : x < y) (hy : y ≤ 999) : ∀ (m i : Nat) (b : Int32), i + m = n → (∀ k, i ≤ k → k < n → b.toInt < (F (6 * k)).toInt) → mayR F (nI x) (nI y) 100 m i b = true := by
  intro m
  induction m with
  | zero => intro i b _ _; rfl
  | succ m ih =>
    intro i b hi hb
    obtain ⟨g1, g2, -⟩ := h.2.1 i (by omega)
    obtain ⟨a, ha, e⟩ := n_of' (n := 1000) g1 (by omega)
    have es : strS (F (6 * i)) (nI x) (nI y) 100 = F (6 * i) := by
      rw [e, show (100 : Int32) = nI 100 from rfl, strS_N (by omega) hxy hy (by omega), strN_100 hxy]
    rw [mayR_s, es, ih (i + 1) (F (6 * i)) (by omega) (fun k h1 h2 => h.2.2 i k (by omega) h2)]
    have h1 : F (6 * i) ≤ 999 := (fa_le _ _).mpr (by rw [show (999 : Int32).toInt = 999 from rfl]; exact g2)
    have h2 : F (6 * i) ≠ b := fun q => by
      have := hb i (Nat.le_refl _) (by omega)
      rw [q] at this
      omega
    simp [h1, h2]
theorem simGreatest {us cn : Nat → Int32} {cf : Nat → Nat → Int32} {c n x y : Nat} {uw : Int32} (hc : c < 4) (hn : Rc us cn cf c n) (hxy : x < y) (hy : y ≤ 999) : ∀ (m N N' : Nat), m ≤ 40 → m < N → m < N' → ∃ a, F_X3_greatestStretch_17 cn cf (nI x) (nI y) c N (nI (100 + 10 * m)) = some (.inr a) ∧ F_X4_greatestStretch_32 uw us (nI c) (nI x) (nI y) N' (nI (100 + 10 * m)) = some (a, 0) := by
  intro m
  induction m with
  | zero =>
    intro N N' hm hN hN'
    obtain ⟨N, rfl⟩ : ∃ z, N = z + 1 := ⟨N - 1, by omega⟩
    obtain ⟨N', rfl⟩ : ∃ z, N' = z + 1 := ⟨N' - 1, by omega⟩
    have e := (kMay hc hn (nI x) (nI y) 100).2
    rw [mayR_100 hn.2.2.1 hxy hy n 0 (-1) (by omega) (fun k _ hk => by
      obtain ⟨g1, -⟩ := hn.2.2.1.2.1 k hk
      rw [show (-1 : Int32).toInt = -1 from rfl]
      omega)] at e
    refine ⟨100, ?_, ?_⟩
    · rw [F_X3_greatestStretch_17, show nI (100 + 10 * 0) = 100 from rfl, it (by decide)]
    · rw [F_X4_greatestStretch_32, show nI (100 + 10 * 0) = 100 from rfl, if_ (by decide), e, bd_s, if_ (show ¬ b1 true = 0 by decide), it (by decide)]
      rfl
  | succ m ih =>
    intro N N' hm hN hN'
    obtain ⟨N, rfl⟩ : ∃ z, N = z + 1 := ⟨N - 1, by omega⟩
    obtain ⟨N', rfl⟩ : ∃ z, N' = z + 1 := ⟨N' - 1, by omega⟩
    obtain ⟨e1, e2⟩ := kMay hc hn (nI x) (nI y) (nI (100 + 10 * (m + 1)))
    have d : nI (100 + 10 * (m + 1)) + (-10) = nI (100 + 10 * m) := by
      have := pk_sub (a := 100 + 10 * (m + 1)) (b := 10) (by omega)
      rw [Int32.sub_eq_add_neg] at this
      rw [show (-10 : Int32) = -nI 10 from rfl, this]
      congr 1
    rw [F_X3_greatestStretch_17, F_X4_greatestStretch_32, if_ (show ¬ nI (100 + 10 * (m + 1)) ≤ 100 from fun h => absurd ((n_le (b := 100) (by omega) (by omega)).mp h) (by omega)), if_ (show ¬ nI (100 + 10 * (m + 1)) < 10 from fun h => absurd ((n_lt (b := 10) (by omega) (by omega)).mp h) (by omega)), e1, e2, bd_s, bd_s]
    cases hm : mayR (vw us c) (nI x) (nI y) (nI (100 + 10 * (m + 1))) n 0 (-1)
    · rw [it (show b1 false = 0 from rfl), it (show b1 false = 0 from rfl), vlet_e, vlet_e, d]
      exact ih N N' (by omega) (by omega) (by omega)
    · rw [if_ (show ¬ b1 true = 0 by decide), if_ (show ¬ b1 true = 0 by decide), it (show (10 : Int32) ≤ nI (100 + 10 * (m + 1)) from (n_le (a := 10) (by omega) (by omega)).mpr (by omega))]
      exact ⟨_, rfl, rfl⟩
theorem R_greatestStretch {uw : Int32} {us cn : Nat → Int32} {cf : Nat → Nat → Int32} (hR : Rs us cn cf) (p1 p2 p3 : Int32) : (∃ t t', (t < 3 ∧ 0 < t ∧ t' = t) ∧ F_X3_greatestStretch cn cf p1 p2 p3 = some (.inl t) ∧ F_X4_greatestStretch uw us p1 p2 p3 = some (0, nI t')) ∨ (∃ a, F_X3_greatestStretch cn cf p1 p2 p3 = some (.inr a) ∧ F_X4_greatestStretch uw us p1 p2 p3 = some (a, 0)) := by
  unfold F_X3_greatestStretch F_X4_greatestStretch
  simp only [u_rfl, bd_s]
  rcases (kCurve p1).symm with ⟨e1, e2⟩ | ⟨c, hc, rfl, e1, e2⟩
  · rw [e1, e2, thr_l, bd_s, it rfl]
    exact Or.inl ⟨1, 1, ⟨by omega, by omega, rfl⟩, rfl, rfl⟩
  rw [e1, e2, thr_r, bd_s, if_ (show ¬ (1 : Int32) = 0 by decide)]
  obtain ⟨n, hn⟩ := hR c hc
  rcases (kSpan p2 p3).symm with ⟨e1, e2⟩ | ⟨x, y, hxy, hy, rfl, rfl, e1, e2⟩
  · rw [e1, e2, thr_l, bd_s, it rfl]
    exact Or.inl ⟨2, 2, ⟨by omega, by omega, rfl⟩, rfl, rfl⟩
  rw [e1, e2, thr_r, bd_s, if_ (show ¬ (1 : Int32) = 0 by decide)]
  exact Or.inr (simGreatest hc hn hxy hy 40 2000 2000 (by omega) (by omega) (by omega))

/-! ===== reduce ===== -/
theorem simLeft {us0 cn vv ub : Nat → Int32} {cf : Nat → Nat → Int32} {c n T : Nat} (hc : c < 4) (hn : Rc us0 cn cf c n) (hv : ∀ j, j < 1000 → vv j = vS n (vw us0 c) j) (hu : ∀ j, j < 1000 → ub j = vS n (vw us0 c) j) (hT : T ≤ 9999) : ∀ (m N N' i : Nat) (us uk ov tf : Nat → Int32) (tn b l l' : Int32), i + m = n → m < N → m < N' → (∀ j, j < 388 → us j = us0 j) → (b = -1 ∧ l = nI (T + 1) ∨ (∃ k, 0 < k ∧ k + 1 < n ∧ b = nI k) ∧ l = l' ∧ l ≤ nI T) → ∃ r us' uk' ov' tn' tf', F_X3_keyToLeaveOut_22 vv (nI n) (cf c) N ov tn tf b l (nI i) = some (r, vv, ov', tn', tf') ∧ F_X4_leftOut_13 ub (nI c) (nI T) N' us uk b l' (nI i) = some (r, us', uk', ub) ∧ (∀ j, j < 388 → us' j = us0 j) ∧ (r = -1 ∨ ∃ k, 0 < k ∧ k + 1 < n ∧ r = nI k) := by
  have h16 := hn.2.2.1.1
  intro m
  induction m with
  | zero =>
    intro N N' i us uk ov tf tn b l l' hi hN hN' hu0 hb
    obtain ⟨N, rfl⟩ : ∃ z, N = z + 1 := ⟨N - 1, by omega⟩
    obtain ⟨N', rfl⟩ : ∃ z, N' = z + 1 := ⟨N' - 1, by omega⟩
    have e0 : us (97 * c) = nI n := (hu0 _ (by omega)).trans hn.1
    have e1 : nI n ≤ nI i := by rw [n_le (by omega) (by omega)]; omega
    rw [F_X3_keyToLeaveOut_22, F_X4_leftOut_13, it e1, mMany hc, bd_s, e0, it e1]
    refine ⟨_, _, _, _, _, _, rfl, rfl, hu0, ?_⟩
    rcases hb with ⟨q, -⟩ | ⟨q, -⟩
    · exact Or.inl q
    · exact Or.inr q
  | succ m ih =>
    intro N N' i us uk ov tf tn b l l' hi hN hN' hu0 hb
    obtain ⟨N, rfl⟩ : ∃ z, N = z + 1 := ⟨N - 1, by omega⟩
    obtain ⟨N', rfl⟩ : ∃ z, N' = z + 1 := ⟨N' - 1, by omega⟩
    have hs : Rc us cn cf c n := hn.cg (hu0 _ (by omega)) (fun j hj => hu0 _ (by omega)) rfl (fun _ _ => rfl)
    have ev : ∀ j, j < 96 → vw us c j = vw us0 c j := fun j hj => hu0 _ (by omega)
    have eA : Ag n (vw us0 c) (vw us c) := fun j hj => ev j (by omega)
    have e1 : ¬ nI n ≤ nI i := by rw [n_le (by omega) (by omega)]; omega
    rw [F_X3_keyToLeaveOut_22, F_X4_leftOut_13, if_ e1, cMay h16 (show i < n by omega), bd_s, hn.2.2.2 (6 * i + 5) (by omega), mMany hc, bd_s, hs.1, if_ e1]
    by_cases g : 0 < i ∧ i + 1 < n ∧ vw us0 c (6 * i + 5) ≠ 1
    · obtain ⟨ov1, tn1, tf1, d1⟩ := cDw (ov := ov) (tf := tf) (tn := tn) hn.2.2.1 hn.2.2.2 g.1 g.2.1 hv
      obtain ⟨us1, uk1, m1, m2⟩ := mErrD (uk := uk) (ub := ub) hc hs.1 hs.2.2.1 g.1 g.2.1 (by rw [ev _ (by omega)]; exact g.2.2) (fun j hj => by rw [hu j hj, vS_cg eA])
      rw [errD_cg eA (by omega)] at m1
      rw [it g, if_ (show ¬ (1 : Int32) = 0 by decide), d1, bd_s, m1, bd_s]
      have hd := errD_nn n (vw us0 c) i
      generalize errD n (vw us0 c) i = d at hd ⊢
      rw [fa_lt, show (0 : Int32).toInt = 0 from rfl] at hd
      have hd1 : ¬ d = -1 := fun q => by
        rw [q, show (-1 : Int32).toInt = -1 from rfl] at hd
        omega
      have t1 := n_T (n := T) (by omega)
      have t2 := n_T (n := T + 1) (by omega)
      simp only [vlet_e, nI_1]
      have go := fun b' l1 l2 z => ih N N' (i + 1) us1 uk1 ov1 tf1 tn1 b' l1 l2 (by omega) (by omega) (by omega) (fun j hj => (m2 j hj).trans (hu0 j hj)) z
      rw [if_ hd1]
      rcases hb with ⟨hb1, hb2⟩ | ⟨hk, hll, hl⟩
      · subst hb1
        subst hb2
        by_cases q : nI (T + 1) ≤ d
        · rw [it q, it (show nI T < d by rw [fa_le] at q; rw [fa_lt]; omega)]
          exact go _ _ _ (Or.inl ⟨rfl, rfl⟩)
        · rw [if_ q, if_ (show ¬ nI T < d by rw [fa_le] at q; rw [fa_lt]; omega), it rfl]
          exact go _ _ _ (Or.inr ⟨⟨i, g.1, g.2.1, rfl⟩, rfl, by rw [fa_le] at q ⊢; omega⟩)
      · subst hll
        have hb1 : ¬ b = -1 := by
          obtain ⟨k, -, k2, rfl⟩ := hk
          exact nI_ne (by omega)
        by_cases q : l ≤ d
        · rw [it q]
          by_cases q2 : nI T < d
          · rw [it q2]
            exact go _ _ _ (Or.inr ⟨hk, rfl, hl⟩)
          · rw [if_ q2, if_ hb1, it q]
            exact go _ _ _ (Or.inr ⟨hk, rfl, hl⟩)
        · rw [if_ q, if_ (show ¬ nI T < d by rw [fa_le] at q hl; rw [fa_lt]; omega), if_ hb1, if_ q]
          exact go _ _ _ (Or.inr ⟨⟨i, g.1, g.2.1, rfl⟩, rfl, by rw [fa_le] at q hl ⊢; omega⟩)
    · rw [if_ g, it rfl, mErrN hc hs.1 h16 (by omega) (by rw [ev _ (by omega)]; exact g), bd_s]
      simp only [vlet_e, nI_1]
      rw [it trivial]
      exact ih N N' (i + 1) us uk ov tf tn b l l' (by omega) (by omega) (by omega) hu0 hb
theorem kLeft {us uk ub cn vv ov tf : Nat → Int32} {cf : Nat → Nat → Int32} {tn : Int32} {c n T : Nat} (hc : c < 4) (hn : Rc us cn cf c n) (hT : T ≤ 9999) : ∃ r us' uk' ub' vv' ov' tn' tf', F_X3_keyToLeaveOut vv ov (cn c) (cf c) tn tf (nI T) = some (r, vv', ov', tn', tf') ∧ F_X4_leftOut us uk ub (nI c) (nI T) = some (r, us', uk', ub') ∧ (∀ j, j < 388 → us' j = us j) ∧ (r = -1 ∨ ∃ k, 0 < k ∧ k + 1 < n ∧ r = nI k) := by
  have h16 := hn.2.2.1.1
  obtain ⟨r, us', uk', ov', tn', tf', e1, e2, e3, e4⟩ := simLeft (vv := bk n (vw us c) vv 0 1000) (ub := bk n (vw us c) ub 0 1000) hc hn (fun j hj => bk_in (Nat.zero_le _) hj) (fun j hj => bk_in (Nat.zero_le _) hj) hT n 2000 2000 0 us uk ov tf tn (-1) (nI (T + 1)) 0 (by omega) (by omega) (by omega) (fun _ _ => rfl) (Or.inl ⟨rfl, rfl⟩)
  rw [show nI 0 = 0 from rfl] at e1 e2
  unfold F_X3_keyToLeaveOut F_X4_leftOut
  rw [kBake9 hn, bd_s, nI_1, vlet_e, mBakes hc hn.1 hn.2.2.1, bd_s, hn.2.1, e1, e2]
  exact ⟨r, us', uk', _, _, ov', tn', tf', rfl, rfl, e3, e4⟩
theorem simReduce {un uw sc : Int32} {up ua : Nat → Int32} {bd : Nat → Nat → Nat} {sn : Nat → Nat → Int32} {sf : Nat → Nat → Nat → Int32} {c T : Nat} (hc : c < 4) (hT : T ≤ 9999) : ∀ (n N N' i : Nat) (us uk ub cn tf vv ov : Nat → Int32) (cf : Nat → Nat → Int32) (tn v : Int32), n + i ≤ 16 → n < N → n < N' → Rs us cn cf → Rc us cn cf c n → ∃ a us' uk' ub' cn' cf' tn' tf' vv' ov', F_X3_reduce_24 bd sc sn sf (nI T) c N cn cf tn tf vv ov v (nI i) = some (.inr (a, bd, sc, cn', cf', sn, sf, tn', tf', vv', ov')) ∧ ((F_X4_leftOut us uk ub (nI c) (nI T)).bind fun o20 => F_X4_reduce_44 un uw up ua (nI c) (nI T) N' o20.2.1 o20.2.2.1 o20.2.2.2 v o20.1) = ((F_X4_ends un uw up ua a).bind fun o11 => some (o11.1, o11.2.1, o11.2.2.1, us', o11.2.2.2, ua, uk', ub')) ∧ Rs us' cn' cf' := by
  intro n
  induction n with
  | zero =>
    intro N N' i us uk ub cn tf vv ov cf tn v hi hN hN' hR hn
    obtain ⟨N, rfl⟩ : ∃ z, N = z + 1 := ⟨N - 1, by omega⟩
    obtain ⟨N', rfl⟩ : ∃ z, N' = z + 1 := ⟨N' - 1, by omega⟩
    obtain ⟨r, us', uk', ub', vv', ov', tn', tf', e1, e2, e3, e4⟩ := kLeft (uk := uk) (ub := ub) (vv := vv) (ov := ov) (tf := tf) (tn := tn) hc hn hT
    rcases e4 with rfl | ⟨k, -, k2, -⟩
    · rw [F_X3_reduce_24, e2, bd_s, F_X4_reduce_44, it rfl]
      by_cases q : i = 16
      · subst q
        rw [it (show (16 : Int32) ≤ nI 16 from by decide)]
        exact ⟨_, _, _, _, _, _, _, _, _, _, rfl, rfl, hR.cg e3⟩
      · rw [if_ (show ¬ (16 : Int32) ≤ nI i from fun z => absurd ((n_le (a := 16) (by omega) (by omega)).mp z) (by omega)), e1, bd_s, it rfl]
        exact ⟨_, _, _, _, _, _, _, _, _, _, rfl, rfl, hR.cg e3⟩
    · exact absurd k2 (by omega)
  | succ n ih =>
    intro N N' i us uk ub cn tf vv ov cf tn v hi hN hN' hR hn
    have h16 := hn.2.2.1.1
    obtain ⟨N, rfl⟩ : ∃ z, N = z + 1 := ⟨N - 1, by omega⟩
    obtain ⟨N', rfl⟩ : ∃ z, N' = z + 1 := ⟨N' - 1, by omega⟩
    obtain ⟨r, us', uk', ub', vv', ov', tn', tf', e1, e2, e3, e4⟩ := kLeft (uk := uk) (ub := ub) (vv := vv) (ov := ov) (tf := tf) (tn := tn) hc hn hT
    rw [F_X3_reduce_24, e2, bd_s, F_X4_reduce_44, if_ (show ¬ (16 : Int32) ≤ nI i from fun z => absurd ((n_le (a := 16) (by omega) (by omega)).mp z) (by omega)), e1, bd_s]
    rcases e4 with rfl | ⟨k, k1, k2, rfl⟩
    · rw [it rfl, it rfl]
      exact ⟨_, _, _, _, _, _, _, _, _, _, rfl, rfl, hR.cg e3⟩
    · have hn' : Rc us' cn cf c (n + 1) := hn.cg (e3 _ (by omega)) (fun j hj => e3 _ (by omega)) rfl (fun _ _ => rfl)
      have hne : ¬ nI k = -1 := nI_ne (by omega)
      obtain ⟨f', i1, i2⟩ := cTakeOut h16 hn'.2.2.2 (show k < n + 1 by omega)
      obtain ⟨us2, j1, j2, j3, j4⟩ := mGoes hc hn'.1 h16 (show k < n + 1 by omega)
      have hC2 := (hn'.2.2.1.del (show k < n + 1 by omega)).ag j4
      have hA2 := j4.sy.tr i2
      rw [show n + 1 - 1 = n from rfl] at i1 i2 j2 j4 hC2 hA2
      have hR2 : Rs us2 (vu cn c (nI n)) (vu cf c f') := (hR.cg e3).put j3 j2 rfl hC2 hA2
      have hn2 : Rc us2 (vu cn c (nI n)) (vu cf c f') c n := ⟨j2, vu_s, hC2, by rw [vu_s]; exact hA2⟩
      rw [if_ hne, if_ hne, hn.2.1, i1, bd_s, vlet_e, vlet_e, vlet_e, vlet_e, nI_1, j1, bd_s, vlet_e]
      exact ih N N' (i + 1) us2 uk' ub' _ tf' vv' ov' _ tn' (v + 1) (by omega) (by omega) (by omega) hR2 hn2
theorem R_reduce {un sc uw tn : Int32} {up us ua uk ub cn tf vv ov : Nat → Int32} {cf : Nat → Nat → Int32} {sn : Nat → Nat → Int32} {sf : Nat → Nat → Nat → Int32} (bd : Nat → Nat → Nat) (hS : St un sc up sn sf) (hR : Rs us cn cf) (p1 p2 : Int32) : (∃ t t', (t < 3 ∧ 0 < t ∧ t' = t) ∧ F_X3_reduce bd sc cn cf sn sf tn tf vv ov p1 p2 = some (.inl t) ∧ F_X4_reduce un uw us up ua uk ub p1 p2 = some (0, un, nI t', us, up, ua, uk, ub)) ∨ (∃ a bd' sc' cn' cf' sn' sf' tn' tf' vv' ov' un' us' up' ua' uk' ub', F_X3_reduce bd sc cn cf sn sf tn tf vv ov p1 p2 = some (.inr (a, bd', sc', cn', cf', sn', sf', tn', tf', vv', ov')) ∧ F_X4_reduce un uw us up ua uk ub p1 p2 = some (a, un', 0, us', up', ua', uk', ub') ∧ St un' sc' up' sn' sf' ∧ Rs us' cn' cf') := by
  unfold F_X3_reduce F_X4_reduce
  simp only [u_rfl, bd_s]
  rcases (kCurve p1).symm with ⟨e1, e2⟩ | ⟨c, hc, rfl, e1, e2⟩
  · rw [e1, e2, thr_l, bd_s, it rfl]
    exact Or.inl ⟨1, 1, ⟨by omega, by omega, rfl⟩, rfl, rfl⟩
  rw [e1, e2, thr_r, bd_s, if_ (show ¬ (1 : Int32) = 0 by decide)]
  obtain ⟨n, hn⟩ := hR c hc
  have h16 := hn.2.2.1.1
  rcases (kRange p2 0 9999).symm with ⟨-, e1, e2⟩ | ⟨f1, f2, e1, e2⟩
  · rw [e1, e2, thr_l, bd_s, it rfl]
    exact Or.inl ⟨2, 2, ⟨by omega, by omega, rfl⟩, rfl, rfl⟩
  rw [show (9999 : Int32).toInt = 9999 from rfl] at f2
  obtain ⟨T, hT, rfl⟩ := n_of' (x := p2) (n := 10000) f1 (by omega)
  rw [e1, e2, thr_r, bd_s, if_ (show ¬ (1 : Int32) = 0 by decide)]
  obtain ⟨y, hy, hy2⟩ := mHold us ua
  obtain ⟨bd', sc', sn', sf', un', e3, e4⟩ := kSave (uw := uw) bd hS hR hy2
  obtain ⟨a, us', uk', ub', cn', cf', tn', tf', vv', ov', g1, g2, g3⟩ := simReduce (un := un) (uw := uw) (sc := sc') (up := up) (ua := y) (bd := bd') (sn := sn') (sf := sf') hc (show T ≤ 9999 by omega) n 2000 2000 0 us uk ub cn tf vv ov cf tn 0 (by omega) (by omega) (by omega) hR hn
  rw [show nI 0 = 0 from rfl] at g1
  obtain ⟨up', e5, e6⟩ := e4 a
  rw [e3, bd_s, hy, bd_s, g1, g2, e5, bd_s]
  exact Or.inr ⟨_, _, _, _, _, _, _, _, _, _, _, _, _, _, _, _, _, rfl, rfl, e6, g3⟩

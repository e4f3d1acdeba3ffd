/-! ===== error ===== -/
theorem gdR_a (g : Nat → Int32) (b : Nat) : ∀ (a f : Nat) (s : Int32), gdR g (a + b) f s = gdR g b (f + a) (gdR g a f s) := by
  intro a
  induction a with
  | zero => intro f s; rw [Nat.zero_add]; rfl
  | succ a ih =>
    intro f s
    rw [show a + 1 + b = a + b + 1 by omega, gdR_s, gdR_s, ih, show f + 1 + a = f + (a + 1) by omega]
theorem gdR_z {g : Nat → Int32} : ∀ (m f : Nat) (s : Int32), ¬ s < 0 → (∀ j, f ≤ j → j < f + m → g j = 0) → gdR g m f s = s := by
  intro m
  induction m with
  | zero => intro f s _ _; rfl
  | succ m ih =>
    intro f s h0 h
    rw [gdR_s, h f (Nat.le_refl _) (by omega), if_ h0]
    exact ih (f + 1) s h0 (fun j h1 h2 => h j (by omega) (by omega))
theorem gdR_nn {g : Nat → Int32} : ∀ (m f : Nat) (s : Int32), ¬ s < 0 → ¬ gdR g m f s < 0 := by
  intro m
  induction m with
  | zero => intro f s h; exact h
  | succ m ih =>
    intro f s h
    rw [gdR_s]
    refine ih (f + 1) _ ?_
    by_cases q : s < g f
    · rw [it q]
      rw [fa_lt] at h q ⊢
      omega
    · rw [if_ q]
      exact h
theorem gdR_mid {g : Nat → Int32} {a b : Nat} (hab : a ≤ b) (hb : b ≤ 999) (h1 : ∀ j, j < a → g j = 0) (h2 : ∀ j, b < j → j < 1000 → g j = 0) : gdR g 1000 0 0 = gdR g (b + 1 - a) a 0 := by
  have e : (1000 : Nat) = a + ((b + 1 - a) + (999 - b)) := by omega
  rw [e, gdR_a, gdR_a, gdR_z a 0 0 (by decide) (fun j _ hj => h1 j (by omega)), Nat.zero_add]
  exact gdR_z _ _ _ (gdR_nn _ _ _ (by decide)) (fun j h3 h4 => h2 j (by omega) (by omega))
theorem apS_self (a : Int32) : apS a a = 0 := by
  unfold apS
  split <;> simp
theorem cGd2 {vv ov : Nat → Int32} {a b : Nat} (hb : b ≤ 999) (h1 : ∀ j, a ≤ j → j ≤ b → B32 (vv j) 300000000) (h2 : ∀ j, a ≤ j → j ≤ b → B32 (ov j) 300000000) : ∀ (m N f : Nat) (s : Int32), f + m = b + 1 → a ≤ f → m < N → F_X3_greatestDifference_5 vv ov (nI b) N s (nI f) = some (gdR (fun j => apS (vv j) (ov j)) m f s) := by
  intro m
  induction m with
  | zero =>
    intro N f s hf ha hN
    obtain ⟨N, rfl⟩ : ∃ z, N = z + 1 := ⟨N - 1, by omega⟩
    rw [F_X3_greatestDifference_5, it ((n_lt (by omega) (by omega)).mpr (by omega))]
    rfl
  | succ m ih =>
    intro N f s hf ha hN
    obtain ⟨N, rfl⟩ : ∃ z, N = z + 1 := ⟨N - 1, by omega⟩
    rw [F_X3_greatestDifference_5, if_ (fun q => absurd ((n_lt (by omega) (by omega)).mp q) (by omega)), vgd_t (n_ix (by omega) (by omega)), vgd_t (n_ix (by omega) (by omega)), n_C (by omega), cApart (h1 f ha (by omega)) (h2 f ha (by omega)), vlet_e, vlet_e, vlet_e, nI_1, ih N (f + 1) _ (by omega) (by omega) (by omega)]
    rfl
/-- the error of a key -/
def errD (n : Nat) (F : Nat → Int32) (k : Nat) : Int32 := gdR (fun j => apS (vS n F j) (vS (n - 1) (delS k F) j)) 1000 0 0
theorem errD_nn (n : Nat) (F : Nat → Int32) (k : Nat) : ¬ errD n F k < 0 := gdR_nn _ _ _ (by decide)
theorem errD_cg {n k : Nat} {F f : Nat → Int32} (h : Ag n F f) (hk : k < n) : errD n f k = errD n F k := by
  unfold errD
  rw [vS_cg h, vS_cg (delS_cg h hk)]
theorem mErr_119 {c : Nat} {us0 uk ub : Nat → Int32} (hc : c < 4) (hk : ∀ j, j < 97 → uk j = us0 (97 * c + j)) (v : Int32) : ∀ (m N k : Nat) (us : Nat → Int32), k + m = 97 → m < N → Out c us0 us → (∀ j, j < k → us (97 * c + j) = us0 (97 * c + j)) → ∃ us', F_X4_errorOf_119 uk ub (nI c) v N us (nI k) = some (v, us', uk) ∧ ∀ j, j < 388 → us' j = us0 j := by
  intro m
  induction m with
  | zero =>
    intro N k us hk1 hN hO h1
    obtain ⟨N, rfl⟩ : ∃ z, N = z + 1 := ⟨N - 1, by omega⟩
    rw [F_X4_errorOf_119, it (show (97 : Int32) ≤ nI k from (n_le (a := 97) (by omega) (by omega)).mpr (by omega))]
    refine ⟨us, rfl, fun j hj => ?_⟩
    by_cases g : j < 97 * c ∨ 97 * c + 97 ≤ j
    · exact hO j g
    · have := h1 (j - 97 * c) (by omega)
      rw [show 97 * c + (j - 97 * c) = j by omega] at this
      exact this
  | succ m ih =>
    intro N k us hk1 hN hO h1
    obtain ⟨N, rfl⟩ : ∃ z, N = z + 1 := ⟨N - 1, by omega⟩
    rw [F_X4_errorOf_119, if_ (show ¬ (97 : Int32) ≤ nI k from fun h => absurd ((n_le (a := 97) (by omega) (by omega)).mp h) (by omega)), n_w, nI_add, vgd_t (n_ix (by omega) (by omega)), vgd_t (n_ix (by omega) (by omega)), vlet_e, vlet_e, nI_1, n_C (by omega), n_C (by omega), hk k (by omega)]
    refine ih N (k + 1) _ (by omega) (by omega) (hO.tr (Out.up (by omega) (by omega))) (fun j hj => ?_)
    by_cases q : j = k
    · subst q
      exact upd_s
    · rw [upd_n (by omega)]
      exact h1 j (by omega)
theorem mErr_70 {c n : Nat} {us uk ub : Nat → Int32} (hc : c < 4) (hn : us (97 * c) = nI n) (hC : Cv n (vw us c)) : ∀ (m N f : Nat) (s : Int32), f + m = 1000 → m < N → F_X4_errorOf_70 us uk ub (nI c) N s (nI f) = F_X4_errorOf_119 uk ub (nI c) (gdR (fun j => apS (vS n (vw us c) j) (ub j)) m f s) 2000 us 0 := by
  intro m
  induction m with
  | zero =>
    intro N f s hf hN
    obtain ⟨N, rfl⟩ : ∃ z, N = z + 1 := ⟨N - 1, by omega⟩
    rw [F_X4_errorOf_70, it (show (999 : Int32) < nI f from (n_lt (a := 999) (by omega) (by omega)).mpr (by omega))]
    rfl
  | succ m ih =>
    intro N f s hf hN
    obtain ⟨N, rfl⟩ : ∃ z, N = z + 1 := ⟨N - 1, by omega⟩
    rw [F_X4_errorOf_70, if_ (show ¬ (999 : Int32) < nI f from fun h => absurd ((n_lt (a := 999) (by omega) (by omega)).mp h) (by omega)), mValueAt hc hn hC, bd_s, vgd_t (n_ix (by omega) (by omega)), n_C (by omega), mApart, bd_s, vlet_e, vlet_e, nI_1, mx_sw, ih N (f + 1) _ (by omega) (by omega), ih N (f + 1) _ (by omega) (by omega), gdR_s]
    split <;> rfl
theorem mErr_30 {c : Nat} {us ub : Nat → Int32} (hc : c < 4) (v : Int32) : ∀ (m N k : Nat) (uk : Nat → Int32), k + m = 97 → m < N → (∀ j, j < k → uk j = us (97 * c + j)) → ∃ uk', F_X4_errorOf_30 us ub (nI c) v N uk (nI k) = ((F_X4_goes us (nI c) v).bind fun y5 => F_X4_errorOf_70 y5 uk' ub (nI c) 2000 0 0) ∧ ∀ j, j < 97 → uk' j = us (97 * c + j) := by
  intro m
  induction m with
  | zero =>
    intro N k uk hk1 hN h1
    obtain ⟨N, rfl⟩ : ∃ z, N = z + 1 := ⟨N - 1, by omega⟩
    rw [F_X4_errorOf_30, it (show (97 : Int32) ≤ nI k from (n_le (a := 97) (by omega) (by omega)).mpr (by omega))]
    exact ⟨uk, rfl, fun j hj => h1 j (by omega)⟩
  | succ m ih =>
    intro N k uk hk1 hN h1
    obtain ⟨N, rfl⟩ : ∃ z, N = z + 1 := ⟨N - 1, by omega⟩
    rw [F_X4_errorOf_30, if_ (show ¬ (97 : Int32) ≤ nI k from fun h => absurd ((n_le (a := 97) (by omega) (by omega)).mp h) (by omega)), n_w, nI_add, vgd_t (n_ix (by omega) (by omega)), vgd_t (n_ix (by omega) (by omega)), vlet_e, vlet_e, nI_1, n_C (by omega), n_C (by omega)]
    refine ih N (k + 1) _ (by omega) (by omega) (fun j hj => ?_)
    by_cases q : j = k
    · subst q
      exact upd_s
    · rw [upd_n (by omega)]
      exact h1 j (by omega)
theorem mErrD {c n k : Nat} {us uk ub : Nat → Int32} (hc : c < 4) (hn : us (97 * c) = nI n) (hC : Cv n (vw us c)) (h0 : 0 < k) (hk : k + 1 < n) (hl : vw us c (6 * k + 5) ≠ 1) (hu : ∀ j, j < 1000 → ub j = vS n (vw us c) j) : ∃ us' uk', F_X4_errorOf us uk ub (nI c) (nI k) = some (errD n (vw us c) k, us', uk') ∧ ∀ j, j < 388 → us' j = us j := by
  have h16 := hC.1
  obtain ⟨us1, j1, j2, j3, j4⟩ := mGoes hc hn h16 (show k < n by omega)
  obtain ⟨uk1, i1, i2⟩ := mErr_30 (us := us) (ub := ub) hc (nI k) 97 2000 0 uk (by omega) (by omega) (fun j hj => absurd hj (by omega))
  have i3 := mErr_70 (uk := uk1) (ub := ub) hc j2 ((hC.del (show k < n by omega)).ag j4) 1000 2000 0 0 (by omega) (by omega)
  have i4 := gdR_cg (g := fun j => apS (vS (n - 1) (vw us1 c) j) (ub j)) (h := fun j => apS (vS n (vw us c) j) (vS (n - 1) (delS k (vw us c)) j)) 1000 0 0 (fun j _ hj => by
    show apS _ _ = apS _ _
    rw [hu j (by omega), vS_cg j4, apS_cm])
  rw [i4] at i3
  obtain ⟨us2, i5, i6⟩ := mErr_119 (ub := ub) (us0 := us) hc i2 (errD n (vw us c) k) 97 2000 0 us1 (by omega) (by omega) j3 (fun j hj => absurd hj (by omega))
  rw [show nI 0 = 0 from rfl] at i1 i3 i5
  unfold F_X4_errorOf
  rw [mOf5 hc (by omega), bd_s, if_ hl, if_ (show ¬ nI k = 0 from fun q => absurd ((n_eq (b := 0) (by omega) (by omega)).mp q) (by omega)), mMany hc, bd_s, hn, n_s1 (by omega), if_ (show ¬ nI k = nI (n - 1) from fun q => absurd ((n_eq (by omega) (by omega)).mp q) (by omega)), i1, j1, bd_s, i3]
  exact ⟨us2, uk1, i5, i6⟩
theorem mErrN {c n k : Nat} {us uk ub : Nat → Int32} (hc : c < 4) (hn : us (97 * c) = nI n) (h16 : n ≤ 16) (hk : k < n) (h : ¬ (0 < k ∧ k + 1 < n ∧ vw us c (6 * k + 5) ≠ 1)) : F_X4_errorOf us uk ub (nI c) (nI k) = some (-1, us, uk) := by
  unfold F_X4_errorOf
  rw [mOf5 hc (by omega), bd_s]
  by_cases h1 : vw us c (6 * k + 5) = 1
  · rw [it h1]
  · rw [if_ h1]
    by_cases h2 : k = 0
    · subst h2
      rw [it (show nI 0 = 0 from rfl)]
    · rw [if_ (show ¬ nI k = 0 from fun q => absurd ((n_eq (b := 0) (by omega) (by omega)).mp q) h2), mMany hc, bd_s, hn, n_s1 (by omega)]
      by_cases h3 : k + 1 = n
      · rw [it (show nI k = nI (n - 1) by rw [show k = n - 1 by omega])]
      · exact absurd ⟨by omega, by omega, h1⟩ h
theorem cMay {n k : Nat} {f : Nat → Int32} (hn : n ≤ 16) (hk : k < n) : F_X0_mayLeaveOut (nI n) f (nI k) = some (if 0 < k ∧ k + 1 < n ∧ f (6 * k + 5) ≠ 1 then 1 else 0) := by
  unfold F_X0_mayLeaveOut
  by_cases h0 : k = 0
  · subst h0
    rw [it (show nI 0 ≤ 0 from by decide), if_ (fun q => absurd q.1 (Nat.lt_irrefl 0))]
  · rw [if_ (show ¬ nI k ≤ 0 from by rw [show (0 : Int32) = nI 0 from rfl, n_le (by omega) (by omega)]; omega), n_s1 (by omega)]
    by_cases h1 : k + 1 = n
    · rw [it (show nI (n - 1) ≤ nI k by rw [n_le (by omega) (by omega)]; omega), if_ (fun q => absurd q.2.1 (by omega))]
    · rw [if_ (show ¬ nI (n - 1) ≤ nI k by rw [n_le (by omega) (by omega)]; omega), cIsLocked hn hk, bd_s]
      by_cases h2 : f (6 * k + 5) = 1
      · rw [it h2, if_ (show ¬ (1 : Int32) = 0 by decide), if_ (fun q => q.2.2 h2)]
      · rw [if_ h2, it rfl, it ⟨by omega, by omega, h2⟩]
theorem cDw {n k : Nat} {F f vv ov tf : Nat → Int32} {tn : Int32} (hC : Cv n F) (hA : Ag n F f) (h0 : 0 < k) (hk : k + 1 < n) (hv : ∀ j, j < 1000 → vv j = vS n F j) : ∃ ov' tn' tf', F_X3_differenceWithout vv ov (nI n) f tn tf (nI k) = some (errD n F k, ov', tn', tf') := by
  have h16 := hC.1
  obtain ⟨q, hq⟩ : ∃ q, q = if n - 1 < k + 2 then n - 1 else k + 2 := ⟨_, rfl⟩
  have hq1 : k + 1 ≤ q := by rw [hq]; split <;> omega
  have hq2 : q < n := by rw [hq]; split <;> omega
  obtain ⟨g1, g2, -⟩ := hC.2.1 (k - 2) (by omega)
  obtain ⟨g3, g4, -⟩ := hC.2.1 q hq2
  have g5 := hC.2.2 (k - 2) q (by omega) hq2
  obtain ⟨a, ha, ea⟩ := n_of' (n := 1000) g1 (by omega)
  obtain ⟨b, hb, eb⟩ := n_of' (n := 1000) g3 (by omega)
  rw [ea, eb, n_T (by omega), n_T (by omega)] at g5
  obtain ⟨f1, j1, j2⟩ := cBecome (f := f) h16 tn tf
  obtain ⟨f2, i1, i2⟩ := cTakeOut h16 (hA.tr j2) (show k < n by omega)
  have hD0 := hC.del (show k < n by omega)
  have hD := hD0.ag i2
  have e1 : (if nI k - 2 < 0 then (0 : Int32) else nI k - 2) = nI (k - 2) := by
    by_cases z : k = 1
    · subst z
      decide
    · rw [show nI k - 2 = nI (k - 2) from pk_sub (b := 2) (by omega), if_ (n_nn (by omega))]
  have e4 : (if nI n - 1 < nI k + 2 then nI n - 1 else nI k + 2) = nI q := by
    rw [n_s1 (by omega), n_a2, hq]
    by_cases z : n - 1 < k + 2
    · rw [it z, it ((n_lt (by omega) (by omega)).mpr z)]
    · rw [if_ z, if_ (fun y => z ((n_lt (by omega) (by omega)).mp y))]
  have kb := cBake (rv := ov) hD (a := a) (b := b) (by omega) (by omega)
  rw [bk_cg i2] at kb
  have hw : ∀ j, a ≤ j → j ≤ b → bk (n - 1) (delS k F) ov a (b + 1) j = vS (n - 1) (delS k F) j := fun j z1 z2 => bk_in z1 (by omega)
  have d1 := cGd2 (vv := vv) (ov := bk (n - 1) (delS k F) ov a (b + 1)) (a := a) (b := b) (by omega) (fun j _ z2 => by rw [hv j (by omega)]; exact valS_b hC _) (fun j z1 z2 => by rw [hw j z1 z2]; exact valS_b hD0 _) (b + 1 - a) 2000 a 0 (by omega) (Nat.le_refl _) (by omega)
  rw [gdR_cg (h := fun j => apS (vS n F j) (vS (n - 1) (delS k F) j)) (b + 1 - a) a 0 (fun j z1 z2 => by
    show apS _ _ = apS _ _
    rw [hv j (by omega), hw j z1 (by omega)]), ← gdR_mid (a := a) (b := b) (by omega) (by omega) (fun j hj => by
    have := val_lo hC h0 hk (fr := nI j) (by rw [ea, n_lt (by omega) (by omega)]; exact hj)
    show apS _ (valS (n - 1) (delS k F) (nI j)) = 0
    rw [this, apS_self]) (fun j hj hj2 => by
    have := val_hi hC h0 hk hq (fr := nI j) (by rw [eb, n_le (by omega) (by omega)]; omega)
    show apS _ (valS (n - 1) (delS k F) (nI j)) = 0
    rw [this, apS_self])] at d1
  unfold F_X3_differenceWithout F_X3_greatestDifference
  rw [e1, vlet_e, cCell0 h16 (by omega), bd_s, e4, vlet_e, cCell0 h16 hq2, bd_s, j1, bd_s, i1, bd_s, hA (6 * (k - 2)) (by omega), hA (6 * q) (by omega), ea, eb, kb, bd_s, d1, bd_s]
  exact ⟨_, _, _, rfl⟩
theorem R_error {uw tn : Int32} {us uk ub cn tf vv ov : Nat → Int32} {cf : Nat → Nat → Int32} (hR : Rs us cn cf) (p1 p2 : Int32) : (∃ t t', (t = 1 ∧ t' = 1) ∧ F_X3_error cn cf tn tf vv ov p1 p2 = some (.inl t) ∧ F_X4_error uw us uk ub p1 p2 = some (0, nI t', us, uk, ub)) ∨ (∃ a tn' tf' vv' ov' us' uk' ub', F_X3_error cn cf tn tf vv ov p1 p2 = some (.inr (a, tn', tf', vv', ov')) ∧ F_X4_error uw us uk ub p1 p2 = some (a, 0, us', uk', ub') ∧ Rs us' cn cf) := by
  unfold F_X3_error F_X4_error
  simp only [u_rfl, t_rfl, bd_s]
  rcases (kCurve p1).symm with ⟨e1, e2⟩ | ⟨c, hc, rfl, e1, e2⟩
  · have e3 : F_X4_isKey us p1 p2 = some 0 := by unfold F_X4_isKey; rw [e2, bd_s, it rfl]
    rw [e1, e3, thr_l, bd_s, it rfl]
    exact Or.inl ⟨1, 1, ⟨rfl, rfl⟩, rfl, rfl⟩
  rw [e1, thr_r]
  obtain ⟨n, hn⟩ := hR c hc
  have h16 := hn.2.2.1.1
  rcases (kKey hc hn p2).symm with ⟨e1, e2⟩ | ⟨k, hk, rfl, e1, e2⟩
  · rw [e1, e2, thr_l, bd_s, it rfl]
    exact Or.inl ⟨1, 1, ⟨rfl, rfl⟩, rfl, rfl⟩
  rw [e1, e2, thr_r, bd_s, if_ (show ¬ (1 : Int32) = 0 by decide), hn.2.1, cMay h16 hk, bd_s, hn.2.2.2 (6 * k + 5) (by omega), mBakes hc hn.1 hn.2.2.1, bd_s]
  by_cases g : 0 < k ∧ k + 1 < n ∧ vw us c (6 * k + 5) ≠ 1
  · rw [it g, if_ (show ¬ (1 : Int32) = 0 by decide)]
    have kb := kBake9 hn vv
    rw [hn.2.1] at kb
    obtain ⟨ov', tn', tf', d1⟩ := cDw (vv := bk n (vw us c) vv 0 1000) (ov := ov) (tf := tf) (tn := tn) hn.2.2.1 hn.2.2.2 g.1 g.2.1 (fun j hj => bk_in (Nat.zero_le _) hj)
    obtain ⟨us', uk', m1, m2⟩ := mErrD (uk := uk) (ub := bk n (vw us c) ub 0 1000) hc hn.1 hn.2.2.1 g.1 g.2.1 g.2.2 (fun j hj => bk_in (Nat.zero_le _) hj)
    rw [kb, bd_s, d1, bd_s, m1, bd_s]
    exact Or.inr ⟨_, _, _, _, _, _, _, _, rfl, rfl, hR.cg m2⟩
  · rw [if_ g, it rfl, mErrN hc hn.1 h16 hk g, bd_s]
    exact Or.inr ⟨_, _, _, _, _, _, _, _, rfl, rfl, hR⟩

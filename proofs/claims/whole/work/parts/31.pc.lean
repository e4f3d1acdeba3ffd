/-! ===== locks, copy ===== -/
def lkR (F : Nat → Int32) : Nat → Nat → Bool
  | 0, _ => false
  | m + 1, i => decide (F (6 * i + 5) = 1) || lkR F m (i + 1)
theorem lkR_s (F : Nat → Int32) (m i : Nat) : lkR F (m + 1) i = (decide (F (6 * i + 5) = 1) || lkR F m (i + 1)) := rfl
theorem cHas_2 {n : Nat} {F f : Nat → Int32} (h16 : n ≤ 16) (hA : Ag n F f) : ∀ (m N i : Nat), i + m = n → m < N → F_X0_hasLock_2 (nI n) f N (nI i) = some (b1 (lkR F m i)) := by
  intro m
  induction m with
  | zero =>
    intro N i hi hN
    obtain ⟨N, rfl⟩ : ∃ z, N = z + 1 := ⟨N - 1, by omega⟩
    rw [F_X0_hasLock_2, it (by rw [n_le (by omega) (by omega)]; omega)]
    rfl
  | succ m ih =>
    intro N i hi hN
    obtain ⟨N, rfl⟩ : ∃ z, N = z + 1 := ⟨N - 1, by omega⟩
    rw [F_X0_hasLock_2, if_ (by rw [n_le (by omega) (by omega)]; omega), cIsLocked h16 (by omega), bd_s, hA _ (by omega), vlet_e, nI_1, ih N (i + 1) (by omega) (by omega), lkR_s]
    by_cases g : F (6 * i + 5) = 1
    · rw [it g, if_ (by decide)]
      simp [g, b1]
    · rw [if_ g, it rfl]
      simp [g]
theorem mHas_4 {n c : Nat} {us : Nat → Int32} (hc : c < 4) (hn : us (97 * c) = nI n) (h16 : n ≤ 16) : ∀ (m N i : Nat) (fl : Bool), i + m = n → m < N → F_X4_hasLock_4 us (nI c) N (b1 fl) (nI i) = some (b1 (fl || lkR (vw us c) m i)) := by
  intro m
  induction m with
  | zero =>
    intro N i fl hi hN
    obtain ⟨N, rfl⟩ : ∃ z, N = z + 1 := ⟨N - 1, by omega⟩
    rw [F_X4_hasLock_4, mMany hc, bd_s, hn, it (by rw [n_le (by omega) (by omega)]; omega)]
    cases fl
    · rfl
    · rfl
  | succ m ih =>
    intro N i fl hi hN
    obtain ⟨N, rfl⟩ : ∃ z, N = z + 1 := ⟨N - 1, by omega⟩
    have i0 : F_X4_hasLock_4 us (nI c) N 0 (nI (i + 1)) = some (b1 (lkR (vw us c) m (i + 1))) := by
      have := ih N (i + 1) false (by omega) (by omega)
      rw [Bool.false_or] at this
      exact this
    have i1 : F_X4_hasLock_4 us (nI c) N 1 (nI (i + 1)) = some 1 := by
      have := ih N (i + 1) true (by omega) (by omega)
      rw [Bool.true_or] at this
      exact this
    rw [F_X4_hasLock_4, mMany hc, bd_s, hn, if_ (by rw [n_le (by omega) (by omega)]; omega), mOf5 hc (by omega), bd_s, lkR_s]
    simp only [vlet_e, nI_1, i0, i1]
    cases fl
    · rw [it (show b1 false = 0 from rfl), Bool.false_or]
      by_cases g : vw us c (6 * i + 5) = 1
      · rw [it g]
        simp [g, b1]
      · rw [if_ g]
        simp [g]
    · rw [if_ (show ¬ b1 true = 0 by decide), Bool.true_or]
      rfl
theorem kHas {us cn : Nat → Int32} {cf : Nat → Nat → Int32} {c n : Nat} (hc : c < 4) (h : Rc us cn cf c n) : F_X0_hasLock (cn c) (cf c) = some (b1 (lkR (vw us c) n 0)) ∧ F_X4_hasLock us (nI c) = some (b1 (lkR (vw us c) n 0)) := by
  have h16 := h.2.2.1.1
  unfold F_X0_hasLock F_X4_hasLock
  refine ⟨?_, ?_⟩
  · rw [h.2.1]
    exact cHas_2 h16 h.2.2.2 n 2000 0 (by omega) (by omega)
  · have := mHas_4 hc h.1 h16 n 2000 0 false (by omega) (by omega)
    rw [Bool.false_or] at this
    exact this
def okV (s : Int32) : Bool := decide (-9999 ≤ s.toInt) && decide (s.toInt ≤ 9999)
def raR (F : Nat → Int32) (o : Int32) : Nat → Nat → Bool
  | 0, _ => true
  | m + 1, i => okV (F (6 * i + 1) + o) && raR F o m (i + 1)
theorem raR_s (F : Nat → Int32) (o : Int32) (m i : Nat) : raR F o (m + 1) i = (okV (F (6 * i + 1) + o) && raR F o m (i + 1)) := rfl
theorem okV_abs {s : Int32} (h1 : -19998 ≤ s.toInt) (h2 : s.toInt ≤ 19998) : (if (0 : Int32) ≤ s then s else 0 - s) ≤ 9999 ↔ okV s = true := by
  have e9 : (9999 : Int32).toInt = 9999 := rfl
  have e0 : (0 : Int32).toInt = 0 := rfl
  unfold okV
  rw [Bool.and_eq_true, decide_eq_true_eq, decide_eq_true_eq, fa_le]
  by_cases g : (0 : Int32) ≤ s
  · rw [it g]
    rw [fa_le] at g
    omega
  · rw [if_ g, fb_subI (by omega) (by omega)]
    rw [fa_le] at g
    omega
theorem cRaise_2 {n : Nat} {F f : Nat → Int32} (hC : Cv n F) (hA : Ag n F f) {o : Int32} (ho : -9999 ≤ o.toInt ∧ o.toInt ≤ 9999) : ∀ (m N i : Nat), i + m = n → m < N → F_X0_canRaise_2 (nI n) f o N (nI i) = some (b1 (raR F o m i)) := by
  have h16 := hC.1
  intro m
  induction m with
  | zero =>
    intro N i hi hN
    obtain ⟨N, rfl⟩ : ∃ z, N = z + 1 := ⟨N - 1, by omega⟩
    rw [F_X0_canRaise_2, it (by rw [n_le (by omega) (by omega)]; omega)]
    rfl
  | succ m ih =>
    intro N i hi hN
    obtain ⟨N, rfl⟩ : ∃ z, N = z + 1 := ⟨N - 1, by omega⟩
    obtain ⟨-, -, g3, g4, -⟩ := hC.2.1 i (by omega)
    have es := fb_addI (x := F (6 * i + 1)) (y := o) (by omega) (by omega)
    have k := okV_abs (s := F (6 * i + 1) + o) (by omega) (by omega)
    rw [F_X0_canRaise_2, if_ (by rw [n_le (by omega) (by omega)]; omega), cCell1 h16 (by omega), bd_s, hA _ (by omega), vlet_e, vlet_e, nI_1, ih N (i + 1) (by omega) (by omega), raR_s]
    cases h : okV (F (6 * i + 1) + o)
    · rw [if_ (fun q => by rw [k.mp q] at h; cases h)]
      rfl
    · rw [it (k.mpr h), Bool.true_and]
theorem mIsV (s : Int32) : F_X4_isValue s = some (b1 (okV s)) := by
  have em : (-9999 : Int32).toInt = -9999 := rfl
  have e9 : (9999 : Int32).toInt = 9999 := rfl
  rcases kValue s with ⟨h1, h2, -, e⟩ | ⟨h, -, e⟩
  · rw [e, show okV s = true from by unfold okV; simp [h1, h2]]
    rfl
  · rw [e, show okV s = false from by unfold okV; rw [← Bool.not_eq_true, Bool.and_eq_true, decide_eq_true_eq, decide_eq_true_eq]; exact h]
    rfl
theorem mCopy_51 {un uw : Int32} {up ua : Nat → Int32} {n d c : Nat} {us : Nat → Int32} (hc : c < 4) (hn : us (97 * c) = nI n) (h16 : n ≤ 16) (o : Int32) : ∀ (m N i : Nat) (fl : Bool), i + m = n → m < N → F_X4_copy_51 un uw us up ua (nI d) (nI c) o N (b1 fl) (nI i) = if (fl && raR (vw us c) o m i) = true then (F_X4_hold us ua).bind (fun y10 => F_X4_copy_113 un uw up y10 (nI d) (nI c) o 2000 us 0) else some (0, un, 3, us, up, ua) := by
  intro m
  induction m with
  | zero =>
    intro N i fl hi hN
    obtain ⟨N, rfl⟩ : ∃ z, N = z + 1 := ⟨N - 1, by omega⟩
    rw [F_X4_copy_51, mMany hc, bd_s, hn, it (by rw [n_le (by omega) (by omega)]; omega)]
    cases fl
    · rfl
    · rfl
  | succ m ih =>
    intro N i fl hi hN
    obtain ⟨N, rfl⟩ : ∃ z, N = z + 1 := ⟨N - 1, by omega⟩
    have i0 : F_X4_copy_51 un uw us up ua (nI d) (nI c) o N 0 (nI (i + 1)) = some (0, un, 3, us, up, ua) := ih N (i + 1) false (by omega) (by omega)
    have i1 := ih N (i + 1) true (by omega) (by omega)
    rw [Bool.true_and, show b1 true = 1 from rfl] at i1
    rw [F_X4_copy_51, mMany hc, bd_s, hn, if_ (by rw [n_le (by omega) (by omega)]; omega), mOf1 hc (by omega), bd_s, mIsV, bd_s, raR_s]
    simp only [vlet_e, nI_1, i0, i1]
    cases fl
    · rw [it (show b1 false = 0 from rfl), Bool.false_and, if_ (by decide)]
    · rw [if_ (show ¬ b1 true = 0 by decide), Bool.true_and]
      cases h : okV (vw us c (6 * i + 1) + o)
      · rw [it (show b1 false = 0 from rfl), Bool.false_and, if_ (by decide)]
      · rw [if_ (show ¬ b1 true = 0 by decide), Bool.true_and]
theorem mCopy_113 {un uw : Int32} {up ua : Nat → Int32} {d c : Nat} {us0 : Nat → Int32} (hd : d < 4) (hc : c < 4) (o : Int32) : ∀ (m N k : Nat) (us : Nat → Int32), k + m = 97 → m < N → Out d us0 us → (∀ j, j < k → us (97 * d + j) = us0 (97 * c + j)) → (∀ j, k ≤ j → us (97 * d + j) = us0 (97 * d + j)) → ∃ us', F_X4_copy_113 un uw up ua (nI d) (nI c) o N us (nI k) = F_X4_copy_153 un uw up ua (nI d) o 2000 us' 0 ∧ Out d us0 us' ∧ ∀ j, j < 97 → us' (97 * d + j) = us0 (97 * c + j) := by
  intro m
  induction m with
  | zero =>
    intro N k us hk hN hO h1 h2
    obtain ⟨N, rfl⟩ : ∃ z, N = z + 1 := ⟨N - 1, by omega⟩
    rw [F_X4_copy_113, it (show (97 : Int32) ≤ nI k from (n_le (a := 97) (by omega) (by omega)).mpr (by omega))]
    exact ⟨us, rfl, hO, fun j hj => h1 j (by omega)⟩
  | succ m ih =>
    intro N k us hk hN hO h1 h2
    obtain ⟨N, rfl⟩ : ∃ z, N = z + 1 := ⟨N - 1, by omega⟩
    rw [F_X4_copy_113, if_ (show ¬ (97 : Int32) ≤ nI k from fun h => absurd ((n_le (a := 97) (by omega) (by omega)).mp h) (by omega)), n_w, n_w, nI_add, nI_add, vgd_t (n_ix (by omega) (by omega)), vgd_t (n_ix (by omega) (by omega)), vlet_e, vlet_e, nI_1, n_C (by omega), n_C (by omega)]
    have er : us (97 * c + k) = us0 (97 * c + k) := by
      by_cases q : c = d
      · subst q
        exact h2 k (Nat.le_refl _)
      · refine hO _ ?_
        rcases Nat.lt_or_gt_of_ne q with z | z <;> omega
    rw [er]
    refine ih N (k + 1) _ (by omega) (by omega) (hO.tr (Out.up (by omega) (by omega))) (fun j hj => ?_) (fun j hj => ?_)
    · by_cases q : j = k
      · subst q
        exact upd_s
      · rw [upd_n (by omega)]
        exact h1 j (by omega)
    · rw [upd_n (by omega)]
      exact h2 j (by omega)
theorem simRaise {un uw : Int32} {up ua : Nat → Int32} {n c : Nat} {us0 : Nat → Int32} (hc : c < 4) (h16 : n ≤ 16) (o : Int32) : ∀ (m N N' i : Nat) (us f : Nat → Int32), i + m = n → m < N → m < N' → us (97 * c) = nI n → Out c us0 us → (∀ j, j < i → vw us c (6 * j + 1) = vw us0 c (6 * j + 1) + o) → (∀ j, i ≤ j → j < n → vw us c (6 * j + 1) = vw us0 c (6 * j + 1)) → (∀ j w, j < n → w ≠ 1 → w < 6 → vw us c (6 * j + w) = vw us0 c (6 * j + w)) → Ag n (vw us c) f → ∃ us' f', F_X4_copy_153 un uw up ua (nI c) o N us (nI i) = (F_X4_ends un uw up ua (nI n)).bind (fun o14 => some (o14.1, o14.2.1, o14.2.2.1, us', o14.2.2.2, ua)) ∧ F_X0_raise_2 (nI n) o N' f (nI i) = some f' ∧ us' (97 * c) = nI n ∧ Out c us0 us' ∧ (∀ j, j < n → vw us' c (6 * j + 1) = vw us0 c (6 * j + 1) + o) ∧ (∀ j w, j < n → w ≠ 1 → w < 6 → vw us' c (6 * j + w) = vw us0 c (6 * j + w)) ∧ Ag n (vw us' c) f' := by
  intro m
  induction m with
  | zero =>
    intro N N' i us f hi hN hN' h0 hO h1 h2 h3 hA
    obtain ⟨N, rfl⟩ : ∃ z, N = z + 1 := ⟨N - 1, by omega⟩
    obtain ⟨N', rfl⟩ : ∃ z, N' = z + 1 := ⟨N' - 1, by omega⟩
    rw [F_X4_copy_153, F_X0_raise_2, mMany hc, bd_s, h0, it (by rw [n_le (by omega) (by omega)]; omega), it (by rw [n_le (by omega) (by omega)]; omega), bd_s]
    exact ⟨us, f, rfl, rfl, h0, hO, fun j hj => h1 j (by omega), h3, hA⟩
  | succ m ih =>
    intro N N' i us f hi hN hN' h0 hO h1 h2 h3 hA
    obtain ⟨N, rfl⟩ : ∃ z, N = z + 1 := ⟨N - 1, by omega⟩
    obtain ⟨N', rfl⟩ : ∃ z, N' = z + 1 := ⟨N' - 1, by omega⟩
    rw [F_X4_copy_153, F_X0_raise_2, mMany hc, bd_s, h0, if_ (by rw [n_le (by omega) (by omega)]; omega), if_ (by rw [n_le (by omega) (by omega)]; omega), mSpot, bd_s, cCell1 h16 (by omega), bd_s, cPut1 h16 (by omega), bd_s, vlet_e, vlet_e, n_w1, vgd_t (of_sp hc (by omega) (by omega)), vgd_t (of_sp hc (by omega) (by omega)), vlet_e, vlet_e, nI_1, cl_sp hc (by omega) (by omega), hA _ (by omega)]
    have e : us (97 * c + 1 + (6 * i + 1)) = vw us c (6 * i + 1) := rfl
    rw [e]
    exact ih N N' (i + 1) _ _ (by omega) (by omega) (by omega) (by rw [upd_n (by omega)]; exact h0) (hO.tr (Out.up (by omega) (by omega))) (fun j hj => by
        rw [vw_upd]
        by_cases q : j = i
        · subst q
          rw [upd_s, h2 j (by omega) (by omega)]
        · rw [upd_n (by omega)]
          exact h1 j (by omega)) (fun j hj hj2 => by
        rw [vw_upd, upd_n (by omega)]
        exact h2 j (by omega) hj2) (fun j w hj hw hw6 => by
        rw [vw_upd, upd_n (by omega)]
        exact h3 j w hj hw hw6) (by rw [vw_updE]; exact Ag_upd hA _ _)
theorem raR_spec {F : Nat → Int32} {o : Int32} : ∀ (m i : Nat), raR F o m i = true → ∀ k, i ≤ k → k < i + m → okV (F (6 * k + 1) + o) = true := by
  intro m
  induction m with
  | zero => intro i _ k h1 h2; exact absurd h2 (by omega)
  | succ m ih =>
    intro i h k h1 h2
    rw [raR_s, Bool.and_eq_true] at h
    rcases Nat.lt_or_ge i k with q | q
    · exact ih (i + 1) h.2 k q (by omega)
    · have : k = i := by omega
      subst this
      exact h.1
theorem raise_Cv {n : Nat} {F G : Nat → Int32} {o : Int32} (h : Cv n F) (h1 : ∀ j, j < n → G (6 * j + 1) = F (6 * j + 1) + o) (h2 : ∀ j w, j < n → w ≠ 1 → w < 6 → G (6 * j + w) = F (6 * j + w)) (hm : raR F o n 0 = true) : Cv n G := by
  have e0 : ∀ j, j < n → G (6 * j) = F (6 * j) := fun j hj => h2 j 0 hj (by omega) (by omega)
  refine ⟨h.1, fun j hj => ?_, fun i j hij hj => ?_⟩
  · obtain ⟨g1, g2, -, -, g⟩ := h.2.1 j hj
    have k := raR_spec n 0 hm j (Nat.zero_le _) (by omega)
    unfold okV at k
    rw [Bool.and_eq_true, decide_eq_true_eq, decide_eq_true_eq] at k
    rw [e0 j hj, h1 j hj, h2 j 2 hj (by omega) (by omega), h2 j 3 hj (by omega) (by omega), h2 j 4 hj (by omega) (by omega), h2 j 5 hj (by omega) (by omega)]
    exact ⟨g1, g2, k.1, k.2, g⟩
  · rw [e0 i (by omega), e0 j hj]
    exact h.2.2 i j hij hj
theorem cBecomeS {n : Nat} {f : Nat → Int32} (hn : n ≤ 16) : ∃ f', F_X0_becomeS (nI n) f = some (nI n, f') ∧ Ag n f f' := cBecome hn (nI n) f
theorem vu_vu {α : Type} {f : Nat → α} {k : Nat} {a b : α} : vu (vu f k a) k b = vu f k b := by
  funext j
  by_cases q : j = k
  · subst q
    rw [vu_s, vu_s]
  · rw [vu_n q, vu_n q, vu_n q]
theorem R_copy {un sc uw : Int32} {up us ua cn : Nat → Int32} {cf : Nat → Nat → Int32} {sn : Nat → Nat → Int32} {sf : Nat → Nat → Nat → Int32} (bd : Nat → Nat → Nat) (hS : St un sc up sn sf) (hR : Rs us cn cf) (p1 p2 p3 : Int32) : (∃ t t', (t < 4 ∧ 0 < t ∧ t' = t) ∧ F_X3_copy bd sc cn cf sn sf p1 p2 p3 = some (.inl t) ∧ F_X4_copy un uw us up ua p1 p2 p3 = some (0, un, nI t', us, up, ua)) ∨ (∃ a bd' sc' cn' cf' sn' sf' un' us' up' ua', F_X3_copy bd sc cn cf sn sf p1 p2 p3 = some (.inr (a, bd', sc', cn', cf', sn', sf')) ∧ F_X4_copy un uw us up ua p1 p2 p3 = some (a, un', 0, us', up', ua') ∧ St un' sc' up' sn' sf' ∧ Rs us' cn' cf') := by
  unfold F_X3_copy F_X4_copy F_X4_copy_46
  simp only [u_rfl, bd_s]
  rcases (kCurve p1).symm with ⟨e1, e2⟩ | ⟨d, hd, rfl, e1, e2⟩
  · rw [e1, e2, thr_l, bd_s, it rfl]
    exact Or.inl ⟨1, 1, ⟨by omega, by omega, rfl⟩, rfl, rfl⟩
  rw [e1, e2, thr_r, bd_s, if_ (show ¬ (1 : Int32) = 0 by decide)]
  obtain ⟨nd, hnd⟩ := hR d hd
  rcases (kCurve p2).symm with ⟨e1, e2⟩ | ⟨c, hc, rfl, e1, e2⟩
  · rw [e1, e2, thr_l, bd_s, it rfl]
    exact Or.inl ⟨1, 1, ⟨by omega, by omega, rfl⟩, rfl, rfl⟩
  rw [e1, e2, thr_r, bd_s, if_ (show ¬ (1 : Int32) = 0 by decide)]
  obtain ⟨n, hn⟩ := hR c hc
  have h16 := hn.2.2.1.1
  rcases (kValue p3).symm with ⟨-, e1, e2⟩ | ⟨v1, v2, e1, e2⟩
  · rw [e1, e2, thr_l, bd_s, it rfl]
    exact Or.inl ⟨2, 2, ⟨by omega, by omega, rfl⟩, rfl, rfl⟩
  rw [e1, e2, thr_r, bd_s, if_ (show ¬ (1 : Int32) = 0 by decide)]
  obtain ⟨l1, l2⟩ := kHas hd hnd
  have r1 : F_X0_canRaise (cn c) (cf c) p3 = some (b1 (raR (vw us c) p3 n 0)) := by
    unfold F_X0_canRaise
    rw [hn.2.1]
    exact cRaise_2 hn.2.2.1 hn.2.2.2 ⟨v1, v2⟩ n 2000 0 (by omega) (by omega)
  have c51 := fun fl => mCopy_51 (un := un) (uw := uw) (up := up) (ua := ua) (d := d) hc hn.1 h16 p3 n 2000 0 fl (by omega) (by omega)
  have c0 := c51 false
  have c1 := c51 true
  rw [Bool.false_and, if_ (by decide), show b1 false = 0 from rfl, show nI 0 = 0 from rfl] at c0
  rw [Bool.true_and, show b1 true = 1 from rfl, show nI 0 = 0 from rfl] at c1
  unfold F_X3_requireNoLock
  rw [l1, l2, bd_s, bd_s, c0, c1, r1, bd_s]
  by_cases hl : lkR (vw us d) nd 0 = true
  · rw [hl, if_ (show ¬ b1 true = 0 by decide), if_ (show ¬ b1 true = 0 by decide), thr_l]
    exact Or.inl ⟨3, 3, ⟨by omega, by omega, rfl⟩, rfl, rfl⟩
  rw [Bool.not_eq_true] at hl
  rw [hl, it (show b1 false = 0 from rfl), it (show b1 false = 0 from rfl), thr_r]
  by_cases hm : raR (vw us c) p3 n 0 = true
  · rw [hm, if_ (show ¬ b1 true = 0 by decide), it rfl]
    obtain ⟨yy, hy1, hy2⟩ := mHold us ua
    obtain ⟨bd', sc', sn', sf', un', e3, e4⟩ := kSave (uw := uw) bd hS hR hy2
    obtain ⟨up', e5, e6⟩ := e4 (nI n)
    obtain ⟨us1, i1, i2, i3⟩ := mCopy_113 (un := un) (uw := uw) (up := up) (ua := yy) (us0 := us) hd hc p3 97 2000 0 us (by omega) (by omega) Out.rf (fun j hj => absurd hj (by omega)) (fun _ _ => rfl)
    have ev : ∀ j, j < 96 → vw us1 d j = vw us c j := fun j hj => by
      have := i3 (1 + j) (by omega)
      rw [← Nat.add_assoc, ← Nat.add_assoc] at this
      exact this
    have e0 : us1 (97 * d) = nI n := by
      have := i3 0 (by omega)
      rw [Nat.add_zero, Nat.add_zero] at this
      rw [this, hn.1]
    have hA1 : Ag n (vw us c) (vw us1 d) := fun j hj => ev j (by omega)
    have fin : ∀ f1, Ag n (cf c) f1 → ∃ us' f', F_X4_copy_153 un uw up yy (nI d) p3 2000 us1 0 = (F_X4_ends un uw up yy (nI n)).bind (fun o14 => some (o14.1, o14.2.1, o14.2.2.1, us', o14.2.2.2, yy)) ∧ F_X0_raise (nI n) f1 p3 = some f' ∧ us' (97 * d) = nI n ∧ Out d us us' ∧ Cv n (vw us' d) ∧ Ag n (vw us' d) f' := by
      intro f1 hf1
      obtain ⟨us', f', j1, j2, j3, j4, j5, j6, j7⟩ := simRaise (un := un) (uw := uw) (up := up) (ua := yy) (us0 := us1) hd h16 p3 n 2000 2000 0 us1 f1 (by omega) (by omega) (by omega) e0 Out.rf (fun j hj => absurd hj (by omega)) (fun _ _ _ => rfl) (fun _ _ _ _ _ => rfl) (hA1.sy.tr (hn.2.2.2.tr hf1))
      refine ⟨us', f', j1, j2, j3, i2.tr j4, raise_Cv (o := p3) hn.2.2.1 (fun j hj => ?_) (fun j w hj h1 h2 => ?_) hm, j7⟩
      · rw [j5 j hj, ev _ (by omega)]
      · rw [j6 j w hj h1 h2, ev _ (by omega)]
    rw [show nI 0 = 0 from rfl] at i1
    rw [e3, bd_s, hy1, bd_s, i1]
    by_cases q : d = c
    · subst q
      obtain ⟨f1, g1, g2⟩ := cBecomeS (f := cf d) h16
      obtain ⟨us', f', j1, j2, j3, j4, j5, j6⟩ := fin f1 g2
      rw [it rfl, hn.2.1, g1, bd_s, vlet_e, vlet_e, vu_s, vu_s, j2, bd_s, vlet_e, vu_vu, j1, e5, bd_s]
      exact Or.inr ⟨_, _, _, _, _, _, _, _, _, _, _, rfl, rfl, e6, hR.put j4 j3 rfl j5 j6⟩
    · obtain ⟨f1, g1, g2⟩ := cBecome (f := cf c) h16 (cn d) (cf d)
      obtain ⟨us', f', j1, j2, j3, j4, j5, j6⟩ := fin f1 g2
      rw [if_ q, hn.2.1, g1, bd_s, vlet_e, vlet_e, vu_s, vu_s, j2, bd_s, vlet_e, vu_vu, j1, e5, bd_s]
      exact Or.inr ⟨_, _, _, _, _, _, _, _, _, _, _, rfl, rfl, e6, hR.put j4 j3 rfl j5 j6⟩
  · rw [Bool.not_eq_true] at hm
    rw [hm, it (show b1 false = 0 from rfl), if_ (by decide)]
    exact Or.inl ⟨3, 3, ⟨by omega, by omega, rfl⟩, rfl, rfl⟩

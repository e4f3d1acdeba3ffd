/-! ===== a key comes, by the reference ===== -/
theorem n_a0 (a : Nat) : nI a + 0 = nI a := nI_add a 0
theorem n_a2 (a : Nat) : nI a + 2 = nI (a + 2) := nI_add a 2
theorem n_a3 (a : Nat) : nI a + 3 = nI (a + 3) := nI_add a 3
theorem n_a4 (a : Nat) : nI a + 4 = nI (a + 4) := nI_add a 4
theorem n_a5 (a : Nat) : nI a + 5 = nI (a + 5) := nI_add a 5
theorem n_m1 (a : Nat) : nI (a + 1) + (-1) = nI a := by rw [← Int32.sub_eq_add_neg]; exact nI_pred a
theorem n_w (c : Nat) : (97 : Int32) * nI c = nI (97 * c) := pk_mul 97 c
theorem mComes_73 {n c k : Nat} {us : Nat → Int32} (hc : c < 4) (hn : us (97 * c) = nI n) (h15 : n < 16) (hk : k ≤ n) (fr v e : Int32) : ∃ us', F_X4_comes_73 us (nI c) fr v e (nI k) = some (nI k, us') ∧ us' (97 * c) = nI (n + 1) ∧ Out c us us' ∧ (∀ i, i < 6 * k → vw us' c i = vw us c i) ∧ (∀ i, i < 6 → vw us' c (6 * k + i) = r6 fr v e 0 0 0 i) ∧ (∀ i, 6 * k + 6 ≤ i → i < 96 → vw us' c i = vw us c i) := by
  unfold F_X4_comes_73
  rw [mSpot, bd_s, n_a0, nI_1, n_a2, n_a3, n_a4, n_a5, n_w]
  rw [vgd_t (n_ix (by omega) (by omega)), vlet_e, vgd_t (n_ix (by omega) (by omega)), vlet_e, vgd_t (n_ix (by omega) (by omega)), vlet_e, vgd_t (n_ix (by omega) (by omega)), vlet_e, vgd_t (n_ix (by omega) (by omega)), vlet_e, vgd_t (n_ix (by omega) (by omega)), vlet_e, vlet_e, vgd_t (n_ix (by omega) (by omega)), vgd_t (n_ix (by omega) (by omega)), vlet_e]
  rw [n_C (by omega), n_C (by omega), n_C (by omega), n_C (by omega), n_C (by omega), n_C (by omega), n_C (by omega)]
  refine ⟨_, rfl, ?_, ?_, fun i hi => ?_, fun i hi => ?_, fun i hi hi2 => ?_⟩
  · rw [upd_s, upd_n (by omega), upd_n (by omega), upd_n (by omega), upd_n (by omega), upd_n (by omega), upd_n (by omega), hn, nI_1]
  · exact (((((Out.up (by omega) (by omega)).tr (Out.up (by omega) (by omega))).tr (Out.up (by omega) (by omega))).tr (Out.up (by omega) (by omega))).tr (Out.up (by omega) (by omega))).tr (Out.up (by omega) (by omega)) |>.tr (Out.up (by omega) (by omega))
  · show upd _ _ _ (97 * c + 1 + i) = _
    rw [upd_n (by omega), upd_n (by omega), upd_n (by omega), upd_n (by omega), upd_n (by omega), upd_n (by omega), upd_n (by omega)]
  · show upd _ _ _ (97 * c + 1 + (6 * k + i)) = _
    rw [upd_n (by omega)]
    rcases (by omega : i = 0 ∨ i = 1 ∨ i = 2 ∨ i = 3 ∨ i = 4 ∨ i = 5) with rfl | rfl | rfl | rfl | rfl | rfl
    · rw [upd_n (by omega), upd_n (by omega), upd_n (by omega), upd_n (by omega), upd_n (by omega)]; exact it rfl
    · rw [upd_n (by omega), upd_n (by omega), upd_n (by omega), upd_n (by omega)]; exact it rfl
    · rw [upd_n (by omega), upd_n (by omega), upd_n (by omega)]; exact it rfl
    · rw [upd_n (by omega), upd_n (by omega)]; exact it rfl
    · rw [upd_n (by omega)]; exact it rfl
    · exact it rfl
  · show upd _ _ _ (97 * c + 1 + i) = _
    rw [upd_n (by omega), upd_n (by omega), upd_n (by omega), upd_n (by omega), upd_n (by omega), upd_n (by omega), upd_n (by omega)]
theorem mComes_7 {n c : Nat} {us0 : Nat → Int32} (hc : c < 4) (h15 : n < 16) (hC : Cv n (vw us0 c)) (fr v e : Int32) : ∀ (k N : Nat) (us : Nat → Int32), k ≤ n → k < N → us (97 * c) = nI n → Out c us0 us → (∀ i, i < 6 * k → vw us c i = vw us0 c i) → (∀ i, 6 * k + 6 ≤ i → i < 6 * n + 6 → vw us c i = vw us0 c (i - 6)) → (∀ j, k ≤ j → j < n → fr < vw us0 c (6 * j)) → ∃ us', F_X4_comes_7 (nI c) fr v e N us (nI k) = some (nI (cnt n (vw us0 c) fr), us') ∧ us' (97 * c) = nI (n + 1) ∧ Out c us0 us' ∧ Ag (n + 1) (insS (cnt n (vw us0 c) fr) (vw us0 c) (r6 fr v e 0 0 0)) (vw us' c) := by
  have last : ∀ (k : Nat) (us : Nat → Int32), k ≤ n → us (97 * c) = nI n → Out c us0 us → (∀ i, i < 6 * k → vw us c i = vw us0 c i) → (∀ i, 6 * k + 6 ≤ i → i < 6 * n + 6 → vw us c i = vw us0 c (i - 6)) → (∀ j, k ≤ j → j < n → fr < vw us0 c (6 * j)) → (∀ j, j < k → vw us0 c (6 * j) ≤ fr) → ∃ us', F_X4_comes_73 us (nI c) fr v e (nI k) = some (nI (cnt n (vw us0 c) fr), us') ∧ us' (97 * c) = nI (n + 1) ∧ Out c us0 us' ∧ Ag (n + 1) (insS (cnt n (vw us0 c) fr) (vw us0 c) (r6 fr v e 0 0 0)) (vw us' c) := by
    intro k us hk h0 hO h1 h2 h3 h4
    have ec : cnt n (vw us0 c) fr = k := cnt_uq hk h4 (fun q => h3 k (Nat.le_refl _) q)
    rw [ec]
    obtain ⟨us', e1, e2, e3, e4, e5, e6⟩ := mComes_73 hc h0 h15 hk fr v e
    refine ⟨us', e1, e2, hO.tr e3, fun j hj => ?_⟩
    unfold insS
    by_cases g1 : j < 6 * k
    · rw [it g1, e4 j g1, h1 j g1]
    · rw [if_ g1]
      by_cases g2 : j < 6 * k + 6
      · rw [it g2, show j = 6 * k + (j - 6 * k) by omega, e5 (j - 6 * k) (by omega)]
        congr 1
        omega
      · rw [if_ g2, e6 j (by omega) (by omega), h2 j (by omega) (by omega)]
  intro k
  induction k with
  | zero =>
    intro N us hk hN h0 hO h1 h2 h3
    obtain ⟨N, rfl⟩ : ∃ z, N = z + 1 := ⟨N - 1, by omega⟩
    rw [F_X4_comes_7, it (show nI 0 ≤ 0 from by decide)]
    exact last 0 us hk h0 hO h1 h2 h3 (fun j hj => absurd hj (by omega))
  | succ k ih =>
    intro N us hk hN h0 hO h1 h2 h3
    obtain ⟨N, rfl⟩ : ∃ z, N = z + 1 := ⟨N - 1, by omega⟩
    rw [F_X4_comes_7, if_ (show ¬ nI (k + 1) ≤ 0 from fun h => absurd ((n_le (b := 0) (by omega) (by omega)).mp h) (by omega)), nI_pred, mOf0 hc (by omega), bd_s, h1 _ (by omega)]
    by_cases g : vw us0 c (6 * k) ≤ fr
    · rw [it g]
      refine last (k + 1) us hk h0 hO h1 h2 h3 (fun j hj => ?_)
      rcases Nat.lt_or_ge j k with q | q
      · have := hC.2.2 j k q (by omega)
        rw [fa_le] at g ⊢
        omega
      · have : j = k := by omega
        subst this
        exact g
    · obtain ⟨us', e1, e2, e3, e4, e5, e6⟩ := mComes_29 (us0 := us) hc (show k < 15 by omega) fr v e 6 2000 0 us (by omega) (by omega) Out.rf (fun _ _ => rfl) rfl (fun i hi => absurd hi (by omega)) (fun _ _ => rfl)
      rw [if_ g, show (0 : Int32) = nI 0 from rfl, e1, bd_s, vlet_e, n_m1]
      refine ih N us' (by omega) (by omega) (e2.trans h0) (hO.tr e3) (fun i hi => ?_) (fun i hi hi2 => ?_) (fun j hj hj2 => ?_)
      · rw [e4 i (by omega), h1 i (by omega)]
      · rcases Nat.lt_or_ge i (6 * k + 12) with q | q
        · have := e5 (i - (6 * k + 6)) (by omega)
          rw [show 6 * k + 6 + (i - (6 * k + 6)) = i by omega, show 6 * k + (i - (6 * k + 6)) = i - 6 by omega] at this
          rw [this, h1 _ (by omega)]
        · rw [e6 i q, h2 i (by omega) hi2]
      · rcases Nat.lt_or_ge k j with q | q
        · exact h3 j (by omega) hj2
        · have : j = k := by omega
          subst this
          rw [fa_le] at g
          rw [fa_lt]
          omega
theorem mComes {n c : Nat} {us : Nat → Int32} (hc : c < 4) (hn : us (97 * c) = nI n) (h15 : n < 16) (hC : Cv n (vw us c)) (fr v e : Int32) : ∃ us', F_X4_comes us (nI c) fr v e = some (nI (cnt n (vw us c) fr), us') ∧ us' (97 * c) = nI (n + 1) ∧ Out c us us' ∧ Ag (n + 1) (insS (cnt n (vw us c) fr) (vw us c) (r6 fr v e 0 0 0)) (vw us' c) := by
  unfold F_X4_comes
  rw [mMany hc, bd_s, hn]
  exact mComes_7 hc h15 hC fr v e n 2000 us (Nat.le_refl _) (by omega) hn Out.rf (fun _ _ => rfl) (fun i h1 h2 => absurd h1 (by omega)) (fun j h1 h2 => absurd h1 (by omega))
/-! what stays true of a curve -/
theorem Cv_upd {n k w : Nat} {F : Nat → Int32} {v : Int32} (h : Cv n F) (hw : 0 < w) (hw6 : w < 6) (h1 : w = 1 → -9999 ≤ v.toInt ∧ v.toInt ≤ 9999) (h2 : w = 2 → 0 ≤ v.toInt ∧ v.toInt ≤ 5) (h3 : w = 3 → 0 ≤ v.toInt ∧ v.toInt ≤ 2) (h4 : w = 4 → -99999 ≤ v.toInt ∧ v.toInt ≤ 99999) (h5 : w = 5 → v = 0 ∨ v = 1) : Cv n (upd F (6 * k + w) v) := by
  refine ⟨h.1, fun j hj => ?_, fun i j hij hj => ?_⟩
  · obtain ⟨a1, a2, a3, a4, a5, a6, a7, a8, a9, a10, a11⟩ := h.2.1 j hj
    rw [upd_n (j := 6 * j) (by omega)]
    have e1 : -9999 ≤ (upd F (6 * k + w) v (6 * j + 1)).toInt ∧ (upd F (6 * k + w) v (6 * j + 1)).toInt ≤ 9999 := by
      by_cases q : 6 * j + 1 = 6 * k + w
      · rw [q, upd_s]; exact h1 (by omega)
      · rw [upd_n q]; exact ⟨a3, a4⟩
    have e2 : 0 ≤ (upd F (6 * k + w) v (6 * j + 2)).toInt ∧ (upd F (6 * k + w) v (6 * j + 2)).toInt ≤ 5 := by
      by_cases q : 6 * j + 2 = 6 * k + w
      · rw [q, upd_s]; exact h2 (by omega)
      · rw [upd_n q]; exact ⟨a5, a6⟩
    have e3 : 0 ≤ (upd F (6 * k + w) v (6 * j + 3)).toInt ∧ (upd F (6 * k + w) v (6 * j + 3)).toInt ≤ 2 := by
      by_cases q : 6 * j + 3 = 6 * k + w
      · rw [q, upd_s]; exact h3 (by omega)
      · rw [upd_n q]; exact ⟨a7, a8⟩
    have e4 : -99999 ≤ (upd F (6 * k + w) v (6 * j + 4)).toInt ∧ (upd F (6 * k + w) v (6 * j + 4)).toInt ≤ 99999 := by
      by_cases q : 6 * j + 4 = 6 * k + w
      · rw [q, upd_s]; exact h4 (by omega)
      · rw [upd_n q]; exact ⟨a9, a10⟩
    have e5 : upd F (6 * k + w) v (6 * j + 5) = 0 ∨ upd F (6 * k + w) v (6 * j + 5) = 1 := by
      by_cases q : 6 * j + 5 = 6 * k + w
      · rw [q, upd_s]; exact h5 (by omega)
      · rw [upd_n q]; exact a11
    exact ⟨a1, a2, e1.1, e1.2, e2.1, e2.2, e3.1, e3.2, e4.1, e4.2, e5⟩
  · rw [upd_n (by omega), upd_n (by omega)]
    exact h.2.2 i j hij hj
theorem delS_key {k j w : Nat} {F : Nat → Int32} (hw : w < 6) : delS k F (6 * j + w) = F (6 * (if j < k then j else j + 1) + w) := by
  unfold delS
  by_cases h : j < k
  · rw [it (by omega), it h]
  · rw [if_ (by omega), if_ h]
    congr 1
    omega
theorem Cv.del {n k : Nat} {F : Nat → Int32} (h : Cv n F) (hk : k < n) : Cv (n - 1) (delS k F) := by
  refine ⟨by have := h.1; omega, fun j hj => ?_, fun i j hij hj => ?_⟩
  · have e0 := delS_key (k := k) (j := j) (F := F) (w := 0) (by omega)
    rw [show 6 * j + 0 = 6 * j from rfl] at e0
    rw [e0, delS_key (by omega), delS_key (by omega), delS_key (by omega), delS_key (by omega), delS_key (by omega)]
    exact h.2.1 _ (by split <;> omega)
  · have e0 := delS_key (k := k) (j := j) (F := F) (w := 0) (by omega)
    have e1 := delS_key (k := k) (j := i) (F := F) (w := 0) (by omega)
    rw [show 6 * j + 0 = 6 * j from rfl] at e0
    rw [show 6 * i + 0 = 6 * i from rfl] at e1
    rw [e0, e1]
    exact h.2.2 _ _ (by split <;> split <;> omega) (by split <;> omega)
theorem insS_lo {p j w : Nat} {F r : Nat → Int32} (hw : w < 6) (h : j < p) : insS p F r (6 * j + w) = F (6 * j + w) := it (by omega)
theorem insS_at {p w : Nat} {F r : Nat → Int32} (hw : w < 6) : insS p F r (6 * p + w) = r w := by
  unfold insS
  rw [if_ (by omega), it (by omega), show 6 * p + w - 6 * p = w by omega]
theorem insS_hi {p j w : Nat} {F r : Nat → Int32} (h : p < j) : insS p F r (6 * j + w) = F (6 * (j - 1) + w) := by
  unfold insS
  rw [if_ (by omega), if_ (by omega), show 6 * j + w - 6 = 6 * (j - 1) + w by omega]
theorem insS_key {p j w : Nat} {F r : Nat → Int32} (hw : w < 6) : insS p F r (6 * j + w) = if j = p then r w else F (6 * (if j < p then j else j - 1) + w) := by
  rcases Nat.lt_trichotomy j p with h | h | h
  · rw [insS_lo hw h, if_ (by omega), it h]
  · subst h
    rw [insS_at hw, it rfl]
  · rw [insS_hi h, if_ (by omega), if_ (by omega)]
/-- no key has the frame -/
def NoF (n : Nat) (F : Nat → Int32) (fr : Int32) : Prop := ∀ k, k < n → F (6 * k) ≠ fr
theorem Cv.ins {n : Nat} {F : Nat → Int32} {fr v e m s l : Int32} (h : Cv n F) (h15 : n < 16) (hf : 0 ≤ fr.toInt ∧ fr.toInt ≤ 999) (hv : -9999 ≤ v.toInt ∧ v.toInt ≤ 9999) (he : 0 ≤ e.toInt ∧ e.toInt ≤ 5) (hm : 0 ≤ m.toInt ∧ m.toInt ≤ 2) (hs : -99999 ≤ s.toInt ∧ s.toInt ≤ 99999) (hl : l = 0 ∨ l = 1) (hno : NoF n F fr) : Cv (n + 1) (insS (cnt n F fr) F (r6 fr v e m s l)) := by
  obtain ⟨-, -, g3, g4⟩ := cntS_spec F fr n 0
  have hp := cnt_le (n := n) (F := F) (fr := fr)
  have g3' : ∀ k, k < cnt n F fr → (F (6 * k)).toInt < fr.toInt := by
    intro k hk
    have a := g3 k (Nat.zero_le _) hk
    have b := hno k (by omega)
    rw [fa_le] at a
    rw [Ne, fa_eq] at b
    omega
  have g4' : ∀ k, cnt n F fr ≤ k → k < n → fr.toInt < (F (6 * k)).toInt := by
    intro k hk hkn
    have a := g4 (by show cnt n F fr < 0 + n; omega)
    rw [fa_lt] at a
    rcases Nat.lt_or_ge (cnt n F fr) k with q | q
    · have := h.2.2 _ _ q hkn
      exact Int.lt_trans a this
    · have : k = cnt n F fr := by omega
      rw [this]
      exact a
  generalize cnt n F fr = p at hp g3' g4' ⊢
  have e0 : ∀ j, insS p F (r6 fr v e m s l) (6 * j) = if j = p then fr else F (6 * (if j < p then j else j - 1)) := fun j => insS_key (w := 0) (by omega)
  refine ⟨by omega, fun j hj => ?_, fun i j hij hj => ?_⟩
  · rw [e0, insS_key (by omega), insS_key (by omega), insS_key (by omega), insS_key (by omega), insS_key (by omega)]
    by_cases q : j = p
    · rw [it q, it q, it q, it q, it q, it q]
      exact ⟨hf.1, hf.2, hv.1, hv.2, he.1, he.2, hm.1, hm.2, hs.1, hs.2, hl⟩
    · rw [if_ q, if_ q, if_ q, if_ q, if_ q, if_ q]
      exact h.2.1 _ (by split <;> omega)
  · rw [e0, e0]
    by_cases q : i = p
    · subst q
      rw [it rfl, if_ (show ¬ j = i by omega), if_ (show ¬ j < i by omega)]
      exact g4' _ (by omega) (by omega)
    · rw [if_ q]
      by_cases q2 : j = p
      · subst q2
        rw [it rfl, it hij]
        exact g3' _ hij
      · rw [if_ q2]
        exact h.2.2 _ _ (by split <;> split <;> omega) (by split <;> omega)

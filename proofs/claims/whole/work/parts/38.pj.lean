/-! ===== an item of the text ===== -/
theorem sg_no {T a : Nat} {ut : Nat → Int32} (h : sg T ut a 48 57 = true) : sg T ut a 44 44 = false := by
  unfold sg at h ⊢
  rw [Bool.and_eq_true, Bool.and_eq_true, decide_eq_true_eq, decide_eq_true_eq, decide_eq_true_eq, fa_le, fa_le] at h
  obtain ⟨-, h1, h2⟩ := h
  rw [show (48 : Int32).toInt = 48 from rfl] at h1
  have : ¬ ut a ≤ 44 := by rw [fa_le, show (44 : Int32).toInt = 44 from rfl]; omega
  simp [this]
theorem sg_lt {T a : Nat} {ut : Nat → Int32} {lo hi : Int32} (h : sg T ut a lo hi = true) : a < T := by
  unfold sg at h
  rw [Bool.and_eq_true, decide_eq_true_eq] at h
  exact h.1
theorem sg_b {T a : Nat} {ut : Nat → Int32} (h : sg T ut a 48 53 = true) : sg T ut a 48 57 = true ∧ 0 ≤ (ut a - 48).toInt ∧ (ut a - 48).toInt ≤ 5 := by
  unfold sg at h ⊢
  rw [Bool.and_eq_true, Bool.and_eq_true, decide_eq_true_eq, decide_eq_true_eq, decide_eq_true_eq, fa_le, fa_le] at h
  obtain ⟨h0, h1, h2⟩ := h
  rw [show (48 : Int32).toInt = 48 from rfl] at h1
  rw [show (53 : Int32).toInt = 53 from rfl] at h2
  have e : (ut a - 48).toInt = (ut a).toInt - 48 := fb_subI (by rw [show (48 : Int32).toInt = 48 from rfl]; omega) (by rw [show (48 : Int32).toInt = 48 from rfl]; omega)
  refine ⟨?_, by omega, by omega⟩
  rw [Bool.and_eq_true, Bool.and_eq_true, decide_eq_true_eq, decide_eq_true_eq, decide_eq_true_eq, fa_le, fa_le]
  exact ⟨h0, by rw [show (48 : Int32).toInt = 48 from rfl]; omega, by rw [show (57 : Int32).toInt = 57 from rfl]; omega⟩
theorem nx_t {T a : Nat} {ut : Nat → Int32} {ch : Int32} (h : sg T ut a ch ch = true) : nx T ut a ch = a + 1 := it h
theorem ins_upd2 {p : Nat} {D : Nat → Int32} {fr v e m s l : Int32} : upd (upd (insS p D (r6 fr v e 0 s 0)) (6 * p + 3) m) (6 * p + 5) l = insS p D (r6 fr v e m s l) := by
  funext j
  by_cases h1 : j < 6 * p
  · rw [upd_n (by omega), upd_n (by omega)]
    unfold insS
    rw [it h1, it h1]
  · by_cases h2 : j < 6 * p + 6
    · obtain ⟨w, hw, rfl⟩ : ∃ w, w < 6 ∧ j = 6 * p + w := ⟨j - 6 * p, by omega, by omega⟩
      rw [insS_at hw]
      rcases (by omega : w = 0 ∨ w = 1 ∨ w = 2 ∨ w = 3 ∨ w = 4 ∨ w = 5) with rfl | rfl | rfl | rfl | rfl | rfl
      · rw [upd_n (by omega), upd_n (by omega), insS_at hw]; rfl
      · rw [upd_n (by omega), upd_n (by omega), insS_at hw]; rfl
      · rw [upd_n (by omega), upd_n (by omega), insS_at hw]; rfl
      · rw [upd_n (by omega), upd_s]; rfl
      · rw [upd_n (by omega), upd_n (by omega), insS_at hw]; rfl
      · rw [upd_s]; rfl
    · rw [upd_n (by omega), upd_n (by omega)]
      unfold insS
      rw [if_ h1, if_ h2, if_ h1, if_ h2]
/-- the end of an item: the mode, the semicolon, the key -/
theorem simTail {T a c n : Nat} {ut tb us f : Nat → Int32} (hT : TxN T ut tb) (hc : c < 4) (hn : us (97 * c) = nI n) (hC : Cv n (vw us c)) (hA : Ag n (vw us c) f) (h15 : n < 16) (ha : a < 600) {fr v sz e l neg : Int32} (uz : Int32) (hf : 0 ≤ fr.toInt ∧ fr.toInt ≤ 999) (hno : NoF n (vw us c) fr) (hv : -9999 ≤ v.toInt ∧ v.toInt ≤ 9999) (he : 0 ≤ e.toInt ∧ e.toInt ≤ 5) (hl : l = 0 ∨ l = 1) (hz : (if neg = 0 then sz else -sz) = v) : ∃ ok a' us' n' f', F_X1_readKey_127 (nI T) (nI a) tb (nI n) f fr neg sz e l = some (b1 ok, nI a', nI n', f') ∧ F_X4_isItem_166 (nI T) (nI a) uz us ut (nI c) fr v e l = some (b1 ok, nI a', uz, us') ∧ us' (97 * c) = nI n' ∧ Out c us us' ∧ Cv n' (vw us' c) ∧ Ag n' (vw us' c) f' ∧ (ok = true → n' = n + 1 ∧ a < a' ∧ a' ≤ T) ∧ (ok = false → n' = n ∧ a' < 700) := by
  have h1 := hT.1
  have core : ∀ (b : Nat) (mo : Int32), b < 650 → a ≤ b → 0 ≤ mo.toInt ∧ mo.toInt ≤ 2 → ∃ ok a' us' n' f', ((F_X1_skip (nI T) (nI b) tb 59).bind fun o13 => if o13.1 = 0 then (some (0, o13.2, nI n, f)) else (if neg = 0 then ((F_X0_insert (nI n) f fr sz e mo 0 l).bind fun o20 => some (1, o13.2, o20.2.1, o20.2.2)) else ((F_X0_insert (nI n) f fr (-sz) e mo 0 l).bind fun o25 => some (1, o13.2, o25.2.1, o25.2.2)))) = some (b1 ok, nI a', nI n', f') ∧ F_X4_isItem_195 (nI T) (nI b) uz us ut (nI c) fr v e l mo = some (b1 ok, nI a', uz, us') ∧ us' (97 * c) = nI n' ∧ Out c us us' ∧ Cv n' (vw us' c) ∧ Ag n' (vw us' c) f' ∧ (ok = true → n' = n + 1 ∧ a < a' ∧ a' ≤ T) ∧ (ok = false → n' = n ∧ a' < 700) := by
    intro b mo hb hab hmo
    unfold F_X4_isItem_195
    rw [cSkip hT (by omega), mTakes h1 (by omega), bd_s, bd_s]
    by_cases hs : sg T ut b 59 59 = true
    · have hlt := sg_lt hs
      have q1 : ¬ b1 true = 0 := by decide
      obtain ⟨f2, i1, i2⟩ := cInsert (n := n) h15 hA fr v e mo 0 l
      obtain ⟨us1, j1, j2, j3, j4⟩ := mComes hc hn h15 hC fr v e
      have hC1 := (hC.ins (m := 0) (s := 0) (l := 0) h15 hf hv he (by decide) (by decide) (Or.inl rfl) hno).ag j4
      have hp := cnt_le (n := n) (F := vw us c) (fr := fr)
      have ei : (if neg = 0 then ((F_X0_insert (nI n) f fr sz e mo 0 l).bind fun o20 => some (((1 : Int32)), nI (b + 1), o20.2.1, o20.2.2)) else ((F_X0_insert (nI n) f fr (-sz) e mo 0 l).bind fun o25 => some (((1 : Int32)), nI (b + 1), o25.2.1, o25.2.2))) = some ((1 : Int32), nI (b + 1), nI (n + 1), f2) := by
        by_cases q : neg = 0
        · rw [it q] at hz
          rw [it q, hz, i1, bd_s]
        · rw [if_ q] at hz
          rw [if_ q, hz, i1, bd_s]
      rw [hs, if_ q1, if_ q1, nx_t hs]
      rw [ei]
      generalize cnt n (vw us c) fr = p at hp j1 j4 i2 hC1 ⊢
      rw [j1, bd_s, mSpot, bd_s, n_w3, vgd_t (of_sp hc (by omega) (by omega)), vlet_e, bd_s, n_w5, vgd_t (of_sp hc (by omega) (by omega)), vlet_e, cl_sp hc (by omega) (by omega), cl_sp hc (by omega) (by omega)]
      refine ⟨true, b + 1, _, n + 1, f2, rfl, rfl, by rw [upd_n (by omega), upd_n (by omega)]; exact j2, (j3.tr (Out.up (by omega) (by omega))).tr (Out.up (by omega) (by omega)), ?_, ?_, fun _ => ⟨rfl, by omega, by omega⟩, fun q => by cases q⟩
      · rw [vw_updE, vw_updE]
        exact Cv_upd (Cv_upd hC1 (by omega) (by omega) (fun q => absurd q (by omega)) (fun q => absurd q (by omega)) (fun _ => hmo) (fun q => absurd q (by omega)) (fun q => absurd q (by omega))) (by omega) (by omega) (fun q => absurd q (by omega)) (fun q => absurd q (by omega)) (fun q => absurd q (by omega)) (fun q => absurd q (by omega)) (fun _ => hl)
      · rw [vw_updE, vw_updE]
        have a2 := Ag_upd (Ag_upd j4 (6 * p + 3) mo) (6 * p + 5) l
        rw [ins_upd2] at a2
        exact a2.sy.tr i2
    · rw [Bool.not_eq_true] at hs
      rw [hs, it (show b1 false = 0 from rfl), it (show b1 false = 0 from rfl)]
      refine ⟨false, b, us, n, f, ?_, ?_, hn, Out.rf, hC, hA, (fun q => by cases q), fun _ => ⟨rfl, by omega⟩⟩
      · unfold nx; rw [hs]; rfl
      · unfold nx; rw [hs]; rfl
  unfold F_X1_readKey_127 F_X1_readMode F_X4_isItem_166
  rw [cSkip hT (by omega), mTakes h1 (by omega)]
  simp only [bd_s]
  by_cases hs : sg T ut a 115 115 = true
  · rw [hs, if_ (show ¬ b1 true = 0 by decide), if_ (show ¬ b1 true = 0 by decide), nx_t hs, bd_s]
    exact core (a + 1) 1 (by omega) (by omega) (by decide)
  · rw [Bool.not_eq_true] at hs
    have e1 : nx T ut a 115 = a := by unfold nx; rw [hs]; rfl
    rw [hs, it (show b1 false = 0 from rfl), it (show b1 false = 0 from rfl), e1, cSkip hT (by omega), mTakes h1 (by omega)]
    simp only [bd_s]
    by_cases hs2 : sg T ut a 118 118 = true
    · rw [hs2, if_ (show ¬ b1 true = 0 by decide), if_ (show ¬ b1 true = 0 by decide), nx_t hs2, bd_s]
      exact core (a + 1) 2 (by omega) (by omega) (by decide)
    · rw [Bool.not_eq_true] at hs2
      have e2 : nx T ut a 118 = a := by unfold nx; rw [hs2]; rfl
      rw [hs2, it (show b1 false = 0 from rfl), it (show b1 false = 0 from rfl), e2, bd_s]
      exact core a 0 (by omega) (by omega) (by decide)

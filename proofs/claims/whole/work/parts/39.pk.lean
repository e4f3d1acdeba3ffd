/-! ===== an item ===== -/
theorem b1t : ¬ b1 true = 0 := by decide
theorem b1f : b1 false = 0 := rfl
theorem nmV_b {T : Nat} {ut : Nat → Int32} {m a : Nat} (hm : bnd m 0 ≤ 100000000) : 0 ≤ (nmV T ut m a).toInt ∧ (nmV T ut m a).toInt ≤ bnd m 0 := nmR_b T ut m a 0 0 (by decide) (by decide) hm
theorem nmV_ne {T : Nat} {ut : Nat → Int32} {m a : Nat} (hm : bnd m 0 ≤ 100000000) : ¬ nmV T ut m a = -1 := fun q => by
  have := (nmV_b (T := T) (ut := ut) (a := a) hm).1
  rw [q, show (-1 : Int32).toInt = -1 from rfl] at this
  omega
theorem one_mul32 (x : Int32) : 1 * x = x := Int32.one_mul x
theorem simItem {T a c n : Nat} {ut tb us f : Nat → Int32} (hT : TxN T ut tb) (hc : c < 4) (hn : us (97 * c) = nI n) (hC : Cv n (vw us c)) (hA : Ag n (vw us c) f) (h15 : n < 16) (ha : a < 300) (uz : Int32) : ∃ ok a' uz' us' n' f', F_X1_readKey (nI T) (nI a) tb (nI n) f = some (b1 ok, nI a', nI n', f') ∧ F_X4_isItem (nI T) (nI a) uz us ut (nI c) = some (b1 ok, nI a', uz', us') ∧ us' (97 * c) = nI n' ∧ Out c us us' ∧ Cv n' (vw us' c) ∧ Ag n' (vw us' c) f' ∧ (ok = true → n' = n + 1 ∧ a < a' ∧ a' ≤ T) ∧ (ok = false → n' = n ∧ a' < 700) := by
  have h1 := hT.1
  have fail : ∀ (b : Nat) (z : Int32), b < 700 → ∃ ok a' uz' us' n' f', some ((0 : Int32), nI b, nI n, f) = some (b1 ok, nI a', nI n', f') ∧ some ((0 : Int32), nI b, z, us) = some (b1 ok, nI a', uz', us') ∧ us' (97 * c) = nI n' ∧ Out c us us' ∧ Cv n' (vw us' c) ∧ Ag n' (vw us' c) f' ∧ (ok = true → n' = n + 1 ∧ a < a' ∧ a' ≤ T) ∧ (ok = false → n' = n ∧ a' < 700) := fun b z hb => ⟨false, b, z, us, n, f, rfl, rfl, hn, Out.rf, hC, hA, (fun q => by cases q), fun _ => ⟨rfl, hb⟩⟩
  unfold F_X1_readKey F_X4_isItem
  rw [mMany hc, bd_s, hn, if_ (show ¬ nI n = 16 from fun q => absurd ((n_eq (b := 16) (by omega) (by omega)).mp q) (by omega))]
  have d3 := cDigits hT (a := a) (by omega) (m := 3) (by omega)
  have m3 := mNumber (ut := ut) h1 (a := a) (by omega) (m := 3) (by omega) uz
  rw [show nI 3 = 3 from rfl] at d3 m3
  obtain ⟨l1, l2⟩ := nmR_le T ut 3 a 0
  obtain ⟨v1, v2⟩ := nmV_b (T := T) (ut := ut) (m := 3) (a := a) (by decide)
  have v2' : (nmV T ut 3 a).toInt ≤ 999 := v2
  have g3 := nmE_gt (T := T) (ut := ut) (a := a) (m := 3) (by omega)
  rw [d3, m3, bd_s]
  rcases (Classical.em (sg T ut a 48 57 = true)).symm with s0 | s0
  · rw [if_ s0, bd_s, it rfl, nmE_0 s0]
    rw [show decide (a < a) = false from by simp, Bool.false_and, it b1f]
    exact fail a _ (by omega)
  rw [it s0, bd_s, if_ (nmV_ne (by decide)), cSign hT (show nmE T ut 3 a < 1000 by show (nmR T ut 3 a 0).1 < 1000; omega), bd_s, show decide (a < nmE T ut 3 a) = true from decide_eq_true (g3.mpr s0), Bool.true_and]
  have le1 : nmE T ut 3 a ≤ a + 3 := l2
  have ge1 : a ≤ nmE T ut 3 a := l1
  generalize nmE T ut 3 a = a1 at le1 ge1 ⊢
  generalize nmV T ut 3 a = fr at v1 v2' ⊢
  rcases (Bool.eq_false_or_eq_true (sg T ut a1 48 57)) with s1 | s1
  · rw [s1, if_ b1t, it (show b1 (!true) = 0 from rfl)]
    exact fail a1 _ (by omega)
  rw [s1, it b1f, if_ (show ¬ b1 (!false) = 0 by decide)]
  -- the frame against the last one
  have lf : F_X0_lastFrame (nI n) f = some (if n = 0 then -1 else vw us c (6 * (n - 1))) := by
    unfold F_X0_lastFrame
    by_cases q : n = 0
    · subst q
      rw [it (show nI 0 = 0 from rfl), it rfl]
    · rw [if_ (show ¬ nI n = 0 from fun z => q ((n_eq (b := 0) (by omega) (by omega)).mp z)), if_ q, n_s1 (by omega), cCell0 (by omega) (by omega), bd_s, hA _ (by omega)]
  rw [lf, bd_s]
  have key : ((if n = 0 then -1 else vw us c (6 * (n - 1))) < fr ∧ (if nI n ≤ 0 then (F_X4_isItem_54 (nI T) (nI a1) fr us ut (nI c)) else ((F_X4_of us (nI c) (nI n - 1) 0).bind fun r11 => if r11 < fr then (F_X4_isItem_54 (nI T) (nI a1) fr us ut (nI c)) else (some (0, nI a, fr, us)))) = F_X4_isItem_54 (nI T) (nI a1) fr us ut (nI c) ∧ NoF n (vw us c) fr) ∨ (¬ (if n = 0 then -1 else vw us c (6 * (n - 1))) < fr ∧ (if nI n ≤ 0 then (F_X4_isItem_54 (nI T) (nI a1) fr us ut (nI c)) else ((F_X4_of us (nI c) (nI n - 1) 0).bind fun r11 => if r11 < fr then (F_X4_isItem_54 (nI T) (nI a1) fr us ut (nI c)) else (some (0, nI a, fr, us)))) = some (0, nI a, fr, us)) := by
    by_cases q : n = 0
    · subst q
      refine Or.inl ⟨?_, it (by decide), fun k hk => absurd hk (by omega)⟩
      rw [it rfl, fa_lt, show (-1 : Int32).toInt = -1 from rfl]
      omega
    · rw [if_ q, if_ (show ¬ nI n ≤ 0 from fun z => absurd ((n_le (b := 0) (by omega) (by omega)).mp z) (by omega)), n_s1 (by omega), mOf0 hc (by omega), bd_s]
      by_cases g : vw us c (6 * (n - 1)) < fr
      · refine Or.inl ⟨g, it g, fun k hk e => ?_⟩
        rw [fa_lt] at g
        rcases Nat.lt_or_ge k (n - 1) with z | z
        · have := hC.2.2 k (n - 1) z (by omega)
          rw [e] at this
          omega
        · have : k = n - 1 := by omega
          rw [this] at e
          rw [e] at g
          omega
      · exact Or.inr ⟨g, if_ g⟩
  rcases key.symm with ⟨q1, q2⟩ | ⟨q1, q2, hno⟩
  · rw [if_ q1, q2]
    exact fail a _ (by omega)
  rw [it q1, q2]
  unfold F_X4_isItem_54
  rw [cSkip hT (by omega), mTakes h1 (by omega), bd_s, bd_s]
  rcases (Bool.eq_false_or_eq_true (sg T ut a1 44 44)).symm with s2 | s2
  · have e : nx T ut a1 44 = a1 := by unfold nx; rw [s2]; rfl
    rw [s2, it b1f, it b1f, e]
    exact fail a1 _ (by omega)
  rw [s2, if_ b1t, if_ b1t, nx_t s2, cSkip hT (by omega), mTakes h1 (by omega), bd_s, bd_s]
  have hx := nx_le (T := T) (a := a1 + 1) (ut := ut) (ch := 45)
  have hx0 : a1 + 1 ≤ nx T ut (a1 + 1) 45 := by unfold nx; split <;> omega
  generalize nx T ut (a1 + 1) 45 = a3 at hx hx0 ⊢
  generalize sg T ut (a1 + 1) 45 45 = neg
  have sgn : (if b1 neg = 0 then F_X4_isItem_85 (nI T) (nI a3) fr us ut (nI c) fr 1 else F_X4_isItem_85 (nI T) (nI a3) fr us ut (nI c) fr (-1)) = F_X4_isItem_85 (nI T) (nI a3) fr us ut (nI c) fr (if b1 neg = 0 then 1 else -1) := by
    cases neg
    · rw [it b1f, it b1f]
    · rw [if_ b1t, if_ b1t]
  rw [sgn]
  unfold F_X4_isItem_85
  have d4 := cDigits hT (a := a3) (by omega) (m := 4) (by omega)
  have m4 := mNumber (ut := ut) h1 (a := a3) (by omega) (m := 4) (by omega) fr
  rw [show nI 4 = 4 from rfl] at d4 m4
  obtain ⟨l5, l4⟩ := nmR_le T ut 4 a3 0
  obtain ⟨w1, w2⟩ := nmV_b (T := T) (ut := ut) (m := 4) (a := a3) (by decide)
  have w2' : (nmV T ut 4 a3).toInt ≤ 9999 := w2
  have g4 := nmE_gt (T := T) (ut := ut) (a := a3) (m := 4) (by omega)
  rw [d4, m4, bd_s]
  rcases (Classical.em (sg T ut a3 48 57 = true)).symm with s3 | s3
  · rw [if_ s3, bd_s, it rfl, nmE_0 s3]
    rw [show decide (a3 < a3) = false from by simp, Bool.false_and, it b1f]
    exact fail a3 _ (by omega)
  rw [it s3, bd_s, if_ (nmV_ne (by decide)), show decide (a3 < nmE T ut 4 a3) = true from decide_eq_true (g4.mpr s3), Bool.true_and]
  have le4 : nmE T ut 4 a3 ≤ a3 + 4 := l4
  have ge4 : a3 ≤ nmE T ut 4 a3 := l5
  generalize nmE T ut 4 a3 = a4 at le4 ge4 ⊢
  generalize nmV T ut 4 a3 = sz at w1 w2' ⊢
  rw [cSkip hT (by omega), bd_s]
  rcases (Bool.eq_false_or_eq_true (sg T ut a4 48 57)) with s4 | s4
  · have e5 := sg_no s4
    have e : nx T ut a4 44 = a4 := by unfold nx; rw [e5]; rfl
    rw [s4, it (show b1 (!true) = 0 from rfl), e5, it b1f, e]
    exact fail a4 _ (by omega)
  rw [s4, if_ (show ¬ b1 (!false) = 0 by decide), mTakes h1 (by omega), bd_s]
  rcases (Bool.eq_false_or_eq_true (sg T ut a4 44 44)).symm with s5 | s5
  · have e : nx T ut a4 44 = a4 := by unfold nx; rw [s5]; rfl
    rw [s5, it b1f, it b1f, e]
    exact fail a4 _ (by omega)
  rw [s5, if_ b1t, if_ b1t, nx_t s5, vlet_e, cSign hT (by omega), mIsAt h1 (by omega), bd_s, bd_s]
  rcases (Bool.eq_false_or_eq_true (sg T ut (a4 + 1) 48 53)).symm with s6 | s6
  · rw [s6, it b1f, it b1f]
    exact fail (a4 + 1) _ (by omega)
  obtain ⟨s7, x1, x2⟩ := sg_b s6
  have lt := sg_lt s6
  have d1 := cDigits hT (a := a4 + 1) (by omega) (m := 1) (by omega)
  have en : nmR T ut 1 (a4 + 1) 0 = (a4 + 2, ut (a4 + 1) - 48) := by
    rw [nmR_s, it s7]
    show (a4 + 1 + 1, 0 * 10 + ut (a4 + 1) - 48) = _
    rw [Int32.zero_mul, Int32.zero_add]
  unfold nmV nmE at d1
  rw [it s7, en, show nI 1 = 1 from rfl] at d1
  rw [s6, if_ b1t, if_ b1t, d1, bd_s, vgd_t (n_ix (by omega) (by omega)), vlet_e, vlet_e, n_C (by omega), nI_1, cSkip hT (by omega), mTakes h1 (by omega), bd_s, bd_s]
  have hx2 := nx_le (T := T) (a := a4 + 1 + 1) (ut := ut) (ch := 108)
  have hx3 : a4 + 1 + 1 ≤ nx T ut (a4 + 1 + 1) 108 := by unfold nx; split <;> omega
  generalize nx T ut (a4 + 1 + 1) 108 = a7 at hx2 hx3 ⊢
  have tail : ∀ l : Int32, l = 0 ∨ l = 1 → ∃ ok a' uz' us' n' f', F_X1_readKey_127 (nI T) (nI a7) tb (nI n) f fr (b1 neg) sz (ut (a4 + 1) - 48) l = some (b1 ok, nI a', nI n', f') ∧ F_X4_isItem_166 (nI T) (nI a7) sz us ut (nI c) fr ((if b1 neg = 0 then 1 else -1) * sz) (ut (a4 + 1) - 48) l = some (b1 ok, nI a', uz', us') ∧ us' (97 * c) = nI n' ∧ Out c us us' ∧ Cv n' (vw us' c) ∧ Ag n' (vw us' c) f' ∧ (ok = true → n' = n + 1 ∧ a < a' ∧ a' ≤ T) ∧ (ok = false → n' = n ∧ a' < 700) := by
    intro l hl
    have hz : (if b1 neg = 0 then sz else -sz) = (if b1 neg = 0 then 1 else -1) * sz := by
      cases neg
      · rw [it b1f, it b1f, Int32.one_mul]
      · rw [if_ b1t, if_ b1t, Int32.neg_mul, Int32.one_mul]
    have hv : -9999 ≤ ((if b1 neg = 0 then (1 : Int32) else -1) * sz).toInt ∧ ((if b1 neg = 0 then (1 : Int32) else -1) * sz).toInt ≤ 9999 := by
      rw [← hz]
      cases neg
      · rw [it b1f]; omega
      · rw [if_ b1t, fb_negI (by omega)]; omega
    obtain ⟨ok, a', us', n', f', k1, k2, k3, k4, k5, k6, k7, k8⟩ := simTail hT hc hn hC hA h15 (a := a7) (by omega) (fr := fr) (sz := sz) (e := ut (a4 + 1) - 48) (l := l) (neg := b1 neg) sz ⟨v1, v2'⟩ hno hv ⟨x1, x2⟩ hl hz
    exact ⟨ok, a', sz, us', n', f', k1, k2, k3, k4, k5, k6, (fun q => by have := k7 q; omega), k8⟩
  cases hs : sg T ut (a4 + 1 + 1) 108 108
  · rw [it b1f, it b1f]
    exact tail 0 (Or.inl rfl)
  · rw [if_ b1t, if_ b1t]
    exact tail 1 (Or.inr rfl)

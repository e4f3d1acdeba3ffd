/-! ===== stretching ===== -/
def strN (a x y p : Nat) : Nat := if x ≤ a then (if y < a then a + (y - x) * p / 100 - (y - x) else x + (a - x) * p / 100) else a
def strS (f x y p : Int32) : Int32 := if x ≤ f then (if y < f then (f + (((y - x) * p) / 100)) - (y - x) else x + (((f - x) * p) / 100)) else f
theorem cStr (f x y p : Int32) : F_X0_stretchedFrame f x y p = some (strS f x y p) := by
  unfold F_X0_stretchedFrame strS
  by_cases h : x ≤ f
  · rw [it h, it h]
    by_cases g : y < f
    · rw [it g, it g]
    · rw [if_ g, if_ g]
  · rw [if_ h, if_ h]
theorem mStr (f x y p : Int32) : F_X4_stretched f x y p = some (strS f x y p) := cStr f x y p
theorem mul_b {a b p q : Nat} (h : a ≤ b) (h2 : p ≤ q) : a * p ≤ b * q := Nat.mul_le_mul h h2
theorem strS_N {a x y p : Nat} (ha : a ≤ 999) (hxy : x < y) (hy : y ≤ 999) (hp : p ≤ 500) : strS (nI a) (nI x) (nI y) (nI p) = nI (strN a x y p) := by
  unfold strS strN
  by_cases h : x ≤ a
  · rw [it ((n_le (by omega) (by omega)).mpr h), it h]
    by_cases g : y < a
    · have hb := mul_b (show y - x ≤ 999 by omega) hp
      rw [it ((n_lt (by omega) (by omega)).mpr g), it g, pk_sub (by omega), pk_mul, show (100 : Int32) = nI 100 from rfl, pk_div (by omega) (by omega) (by omega), nI_add, pk_sub (by omega)]
    · have hb := mul_b (show a - x ≤ 999 by omega) hp
      rw [if_ (fun q => g ((n_lt (by omega) (by omega)).mp q)), if_ g, pk_sub h, pk_mul, show (100 : Int32) = nI 100 from rfl, pk_div (by omega) (by omega) (by omega), nI_add]
  · rw [if_ (fun q => h ((n_le (by omega) (by omega)).mp q)), if_ h]
theorem strN_le {a b x y p : Nat} (h : a ≤ b) (hxy : x < y) : strN a x y p ≤ strN b x y p := by
  unfold strN
  by_cases h1 : x ≤ a
  · rw [it h1, it (show x ≤ b by omega)]
    by_cases h2 : y < a
    · rw [it h2, it (show y < b by omega)]
      omega
    · rw [if_ h2]
      have m1 := Nat.mul_le_mul_right p (show a - x ≤ y - x by omega)
      by_cases h3 : y < b
      · rw [it h3]
        omega
      · have m2 := Nat.mul_le_mul_right p (show a - x ≤ b - x by omega)
        rw [if_ h3]
        omega
  · rw [if_ h1]
    by_cases h2 : x ≤ b
    · rw [it h2]
      by_cases h3 : y < b
      · rw [it h3]
        omega
      · rw [if_ h3]
        omega
    · rw [if_ h2]
      exact h
theorem strN_sm {a x y p : Nat} (ha : a ≤ 999) (hxy : x < y) (hy : y ≤ 999) (hp : p ≤ 500) : strN a x y p < 10000 := by
  unfold strN
  have b1 := mul_b (show y - x ≤ 999 by omega) hp
  have b2 := mul_b (show a - x ≤ 999 by omega) hp
  split
  · split <;> omega
  · omega
theorem strN_100 {a x y : Nat} (hxy : x < y) : strN a x y 100 = a := by
  unfold strN
  by_cases h1 : x ≤ a
  · rw [it h1]
    by_cases h2 : y < a
    · rw [it h2, Nat.mul_div_cancel _ (by omega)]
      omega
    · rw [if_ h2, Nat.mul_div_cancel _ (by omega)]
      omega
  · rw [if_ h1]
def mayR (F : Nat → Int32) (x y p : Int32) : Nat → Nat → Int32 → Bool
  | 0, _, _ => true
  | m + 1, i, b => decide (strS (F (6 * i)) x y p ≤ 999) && decide (strS (F (6 * i)) x y p ≠ b) && (decide (F (6 * i + 5) = 0) || decide (strS (F (6 * i)) x y p = F (6 * i))) && mayR F x y p m (i + 1) (strS (F (6 * i)) x y p)
theorem mayR_s (F : Nat → Int32) (x y p : Int32) (m i : Nat) (b : Int32) : mayR F x y p (m + 1) i b = (decide (strS (F (6 * i)) x y p ≤ 999) && decide (strS (F (6 * i)) x y p ≠ b) && (decide (F (6 * i + 5) = 0) || decide (strS (F (6 * i)) x y p = F (6 * i))) && mayR F x y p m (i + 1) (strS (F (6 * i)) x y p)) := rfl
abbrev b1 (b : Bool) : Int32 := if b = true then 1 else 0
theorem cCan_6 {n : Nat} {F f : Nat → Int32} (hC : Cv n F) (hA : Ag n F f) (x y p : Int32) : ∀ (m N i : Nat) (b : Int32), i + m = n → m < N → F_X0_canStretch_6 (nI n) f x y p N b (nI i) = some (b1 (mayR F x y p m i b)) := by
  have h16 := hC.1
  intro m
  induction m with
  | zero =>
    intro N i b hi hN
    obtain ⟨N, rfl⟩ : ∃ z, N = z + 1 := ⟨N - 1, by omega⟩
    rw [F_X0_canStretch_6, it (by rw [n_le (by omega) (by omega)]; omega)]
    rfl
  | succ m ih =>
    intro N i b hi hN
    obtain ⟨N, rfl⟩ : ∃ z, N = z + 1 := ⟨N - 1, by omega⟩
    obtain ⟨-, -, -, -, -, -, -, -, -, -, g11⟩ := hC.2.1 i (by omega)
    rw [F_X0_canStretch_6, if_ (by rw [n_le (by omega) (by omega)]; omega), cCell0 h16 (by omega), bd_s, hA _ (by omega), cStr, bd_s, cIsLocked h16 (by omega), bd_s, hA _ (by omega)]
    have ih' : ∀ b, F_X0_canStretch_6 (nI n) f x y p N b (nI (i + 1)) = some (b1 (mayR F x y p m (i + 1) b)) := fun b => ih N (i + 1) b (by omega) (by omega)
    simp only [vlet_e, nI_1, ih']
    rw [mayR_s]
    generalize hs : strS (F (6 * i)) x y p = s
    by_cases h1 : s ≤ 999
    · rw [if_ (show ¬ (999 : Int32) < s by rw [fa_le] at h1; rw [fa_lt]; omega)]
      by_cases h2 : s = b
      · rw [it h2]
        simp [h2, b1]
      · rw [if_ h2]
        rcases g11 with q | q
        · rw [q, if_ (show ¬ (0 : Int32) = 1 by decide), it rfl]
          simp [h1, h2]
        · rw [q, it rfl, if_ (show ¬ (1 : Int32) = 0 by decide)]
          by_cases h3 : s = F (6 * i)
          · rw [it h3]
            simp [h1, h2, ← h3]
          · rw [if_ h3]
            simp [h3, b1]
    · rw [it (show (999 : Int32) < s by rw [fa_le] at h1; rw [fa_lt]; omega)]
      simp [h1, b1]
theorem mMay_9 {n c : Nat} {us : Nat → Int32} (hc : c < 4) (hn : us (97 * c) = nI n) (hC : Cv n (vw us c)) (x y p : Int32) : ∀ (m N i : Nat) (b : Int32) (fl : Bool), i + m = n → m < N → F_X4_mayStretch_9 us (nI c) x y p N b (b1 fl) (nI i) = some (b1 (fl && mayR (vw us c) x y p m i b)) := by
  have h16 := hC.1
  intro m
  induction m with
  | zero =>
    intro N i b fl hi hN
    obtain ⟨N, rfl⟩ : ∃ z, N = z + 1 := ⟨N - 1, by omega⟩
    rw [F_X4_mayStretch_9, mMany hc, bd_s, hn, it (by rw [n_le (by omega) (by omega)]; omega)]
    cases fl
    · rfl
    · rfl
  | succ m ih =>
    intro N i b fl hi hN
    obtain ⟨N, rfl⟩ : ∃ z, N = z + 1 := ⟨N - 1, by omega⟩
    have ih0 : ∀ b, F_X4_mayStretch_9 us (nI c) x y p N b 0 (nI (i + 1)) = some 0 := fun b => by
      have := ih N (i + 1) b false (by omega) (by omega)
      exact this
    have ih1 : ∀ b, F_X4_mayStretch_9 us (nI c) x y p N b 1 (nI (i + 1)) = some (b1 (mayR (vw us c) x y p m (i + 1) b)) := fun b => by
      have := ih N (i + 1) b true (by omega) (by omega)
      rw [Bool.true_and] at this
      exact this
    rw [F_X4_mayStretch_9, mMany hc, bd_s, hn, if_ (by rw [n_le (by omega) (by omega)]; omega), mOf0 hc (by omega), bd_s, mStr, bd_s]
    simp only [vlet_e, nI_1, ih0, ih1]
    cases fl
    · rw [it (show b1 false = 0 from rfl)]
      simp [b1]
    · rw [if_ (show ¬ b1 true = 0 by decide), mOf5 hc (by omega), bd_s, bd_s, Bool.true_and]
      rw [mayR_s]
      generalize hs : strS (vw us c (6 * i)) x y p = s
      by_cases h1 : s ≤ 999
      · rw [if_ (show ¬ (999 : Int32) < s by rw [fa_le] at h1; rw [fa_lt]; omega)]
        by_cases h2 : s = b
        · rw [it h2]
          simp [h2, b1]
        · rw [if_ h2]
          by_cases h4 : vw us c (6 * i + 5) = 0
          · rw [it h4]
            simp [h1, h2, h4]
          · rw [if_ h4]
            by_cases h3 : s = vw us c (6 * i)
            · rw [it h3]
              simp [h1, h2, ← h3]
            · rw [if_ h3]
              simp [h3, h4, b1]
      · rw [it (show (999 : Int32) < s by rw [fa_le] at h1; rw [fa_lt]; omega)]
        simp [h1, b1]
theorem kMay {us cn : Nat → Int32} {cf : Nat → Nat → Int32} {c n : Nat} (hc : c < 4) (h : Rc us cn cf c n) (x y p : Int32) : F_X0_canStretch (cn c) (cf c) x y p = some (b1 (mayR (vw us c) x y p n 0 (-1))) ∧ F_X4_mayStretch us (nI c) x y p = some (b1 (mayR (vw us c) x y p n 0 (-1))) := by
  have h16 := h.2.2.1.1
  unfold F_X0_canStretch F_X4_mayStretch
  refine ⟨?_, ?_⟩
  · rw [h.2.1]
    exact cCan_6 h.2.2.1 h.2.2.2 x y p n 2000 0 (-1) (by omega) (by omega)
  · have := mMay_9 hc h.1 h.2.2.1 x y p n 2000 0 (-1) true (by omega) (by omega)
    rw [Bool.true_and] at this
    exact this
/-- what a good answer means -/
theorem mayR_spec {F : Nat → Int32} {x y p : Int32} : ∀ (m i : Nat) (b : Int32), mayR F x y p m i b = true → (∀ k, i ≤ k → k < i + m → strS (F (6 * k)) x y p ≤ 999) ∧ ∀ k, i ≤ k → k + 1 < i + m → strS (F (6 * (k + 1))) x y p ≠ strS (F (6 * k)) x y p := by
  intro m
  induction m with
  | zero => intro i b _; exact ⟨fun k h1 h2 => absurd h2 (by omega), fun k h1 h2 => absurd h2 (by omega)⟩
  | succ m ih =>
    intro i b h
    rw [mayR_s] at h
    rw [Bool.and_eq_true, Bool.and_eq_true, Bool.and_eq_true, decide_eq_true_eq, decide_eq_true_eq] at h
    obtain ⟨⟨⟨h1, h2⟩, -⟩, h4⟩ := h
    obtain ⟨i1, i2⟩ := ih (i + 1) _ h4
    refine ⟨fun k g1 g2 => ?_, fun k g1 g2 => ?_⟩
    · rcases Nat.lt_or_ge i k with q | q
      · exact i1 k q (by omega)
      · have : k = i := by omega
        subst this
        exact h1
    · rcases Nat.lt_or_ge i k with q | q
      · exact i2 k q (by omega)
      · have : k = i := by omega
        subst this
        cases m with
        | zero => exact absurd g2 (by omega)
        | succ m =>
          rw [mayR_s] at h4
          rw [Bool.and_eq_true, Bool.and_eq_true, Bool.and_eq_true, decide_eq_true_eq, decide_eq_true_eq] at h4
          exact h4.1.1.2

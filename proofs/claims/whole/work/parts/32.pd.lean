/-! ===== how far values go ===== -/
def B64 (x : Int64) (A : Nat) : Prop := x.toInt.natAbs ≤ A
def B32 (x : Int32) (A : Nat) : Prop := x.toInt.natAbs ≤ A
theorem B64.mono {x : Int64} {A B : Nat} (h : B64 x A) (h2 : A ≤ B) : B64 x B := Nat.le_trans h h2
theorem B64.mul {x y : Int64} {A B : Nat} (h : B64 x A) (h2 : B64 y B) (h3 : A * B < 9223372036854775808) : B64 (x * y) (A * B) := by
  have hb : (x.toInt * y.toInt).natAbs ≤ A * B := by
    rw [Int.natAbs_mul]
    exact Nat.mul_le_mul h h2
  unfold B64
  rw [fb_mulL (by omega) (by omega)]
  exact hb
theorem B64.add {x y : Int64} {A B : Nat} (h : B64 x A) (h2 : B64 y B) (h3 : A + B < 9223372036854775808) : B64 (x + y) (A + B) := by
  unfold B64 at h h2 ⊢
  rw [fb_addL (by omega) (by omega)]
  omega
theorem B64.sub {x y : Int64} {A B : Nat} (h : B64 x A) (h2 : B64 y B) (h3 : A + B < 9223372036854775808) : B64 (x - y) (A + B) := by
  unfold B64 at h h2 ⊢
  rw [fb_subL (by omega) (by omega)]
  omega
theorem B64.div {x y : Int64} {A k : Nat} (h : B64 x A) (hy : y.toInt = k) (h3 : A < 9223372036854775808) : B64 (x / y) (A / k) := by
  unfold B64 at h ⊢
  have hb : (x.toInt.tdiv y.toInt).natAbs ≤ A / k := by
    rw [Int.natAbs_tdiv, hy, Int.natAbs_natCast]
    exact Nat.div_le_div_right h
  have hc : A / k ≤ A := Nat.div_le_self _ _
  rw [Int64.toInt_div, fb_bmodL (by omega) (by omega)]
  exact hb
theorem B32.to64 {x : Int32} {A : Nat} (h : B32 x A) : B64 x.toInt64 A := by
  unfold B64
  rw [Int32.toInt_toInt64]
  exact h
theorem B64.to32 {x : Int64} {A : Nat} (h : B64 x A) (h2 : A < 2147483648) : B32 x.toInt32 A := by
  unfold B64 at h
  unfold B32
  rw [Int64.toInt_toInt32, fb_bmod (by omega) (by omega)]
  exact h
theorem B32.add {x y : Int32} {A B : Nat} (h : B32 x A) (h2 : B32 y B) (h3 : A + B < 2147483648) : B32 (x + y) (A + B) := by
  unfold B32 at h h2 ⊢
  rw [fb_addI (by omega) (by omega)]
  omega
theorem B32.sub {x y : Int32} {A B : Nat} (h : B32 x A) (h2 : B32 y B) (h3 : A + B < 2147483648) : B32 (x - y) (A + B) := by
  unfold B32 at h h2 ⊢
  rw [fb_subI (by omega) (by omega)]
  omega
theorem B32.mono {x : Int32} {A B : Nat} (h : B32 x A) (h2 : A ≤ B) : B32 x B := Nat.le_trans h h2
theorem B32.divA {x y : Int32} {A : Nat} (h : B32 x A) (h3 : A < 2147483648) : B32 (x / y) A := by
  unfold B32 at h ⊢
  have hb : (x.toInt.tdiv y.toInt).natAbs ≤ A := by
    rw [Int.natAbs_tdiv]
    exact Nat.le_trans (Nat.div_le_self _ _) h
  rw [Int32.toInt_div, fb_bmod (by omega) (by omega)]
  exact hb
theorem B32.mul {x y : Int32} {A B : Nat} (h : B32 x A) (h2 : B32 y B) (h3 : A * B < 2147483648) : B32 (x * y) (A * B) := by
  have hb : (x.toInt * y.toInt).natAbs ≤ A * B := by
    rw [Int.natAbs_mul]
    exact Nat.mul_le_mul h h2
  unfold B32
  rw [fb_mulI (by omega) (by omega)]
  exact hb
theorem Cv.bf {n k : Nat} {F : Nat → Int32} (h : Cv n F) (hk : k < n) : B32 (F (6 * k)) 999 := by
  obtain ⟨g1, g2, -⟩ := h.2.1 k hk
  unfold B32
  omega
theorem Cv.bv {n k : Nat} {F : Nat → Int32} (h : Cv n F) (hk : k < n) : B32 (F (6 * k + 1)) 9999 := by
  obtain ⟨-, -, g1, g2, -⟩ := h.2.1 k hk
  unfold B32
  omega
theorem tangS_b {n k : Nat} {F : Nat → Int32} (h : Cv n F) (hk : k < n) : B32 (tangS n F k) 19998000 := by
  unfold tangS
  obtain ⟨-, -, -, -, -, -, -, -, g1, g2, -⟩ := h.2.1 k hk
  have z : B32 0 19998000 := by unfold B32; rw [show (0 : Int32).toInt = 0 from rfl]; omega
  by_cases h1 : F (6 * k + 3) = 0
  · rw [it h1]
    unfold B32
    omega
  · rw [if_ h1]
    by_cases h2 : k = 0
    · rw [it h2]; exact z
    · rw [if_ h2]
      by_cases h3 : k + 1 = n
      · rw [it h3]; exact z
      · rw [if_ h3]
        split
        · exact z
        · have a := (h.bv (k := k + 1) (by omega)).sub (h.bv (k := k - 1) (by omega)) (by omega)
          have e : B32 1000 1000 := by unfold B32; rw [show (1000 : Int32).toInt = 1000 from rfl]; omega
          exact ((e.mul a (by omega)).divA (by omega)).mono (by omega)
theorem segS_t {n a : Nat} {F : Nat → Int32} (hC : Cv n F) (ha : a + 1 < n) {fr : Int32} (h1 : F (6 * a) ≤ fr) (h2 : fr < F (6 * (a + 1))) : B64 ((1000 * (fr - F (6 * a)).toInt64) / (F (6 * (a + 1)) - F (6 * a)).toInt64) 1000 := by
  obtain ⟨g1, g2, -⟩ := hC.2.1 a (by omega)
  obtain ⟨k1, k2, -⟩ := hC.2.1 (a + 1) ha
  rw [fa_le] at h1
  rw [fa_lt] at h2
  have e1 := fb_subI (x := fr) (y := F (6 * a)) (by omega) (by omega)
  have e2 := fb_subI (x := F (6 * (a + 1))) (y := F (6 * a)) (by omega) (by omega)
  have e3 : ((1000 : Int64) * (fr - F (6 * a)).toInt64).toInt = 1000 * (fr - F (6 * a)).toInt := by
    rw [fb_mulL, Int32.toInt_toInt64]
    · rfl
    · rw [show (1000 : Int64).toInt = 1000 from rfl, Int32.toInt_toInt64]; omega
    · rw [show (1000 : Int64).toInt = 1000 from rfl, Int32.toInt_toInt64]; omega
  have hb : (((1000 : Int64) * (fr - F (6 * a)).toInt64).toInt.tdiv (F (6 * (a + 1)) - F (6 * a)).toInt64.toInt).natAbs ≤ 1000 := by
    rw [Int.natAbs_tdiv, e3, Int32.toInt_toInt64, e1, e2]
    exact Nat.div_le_of_le_mul (by omega)
  unfold B64
  rw [Int64.toInt_div, fb_bmodL (by omega) (by omega)]
  exact hb
theorem segS_b {n a : Nat} {F : Nat → Int32} (hC : Cv n F) (ha : a + 1 < n) {fr : Int32} (h1 : F (6 * a) ≤ fr) (h2 : fr < F (6 * (a + 1))) : B32 (segS n F a fr) 300000000 := by
  have ht := segS_t hC ha h1 h2
  have hv := hC.bv (k := a) (by omega)
  have hd := ((hC.bv ha).sub hv (by omega)).to64
  have hw := ((hC.bf ha).sub (hC.bf (k := a) (by omega)) (by omega)).to64
  have hm := (hw.mul (tangS_b hC (k := a) (by omega)).to64 (by omega)).div (y := 1000) (k := 1000) rfl (by omega)
  have hn := (hw.mul (tangS_b hC (k := a + 1) ha).to64 (by omega)).div (y := 1000) (k := 1000) rfl (by omega)
  have c2 : B64 2 2 := by unfold B64; decide
  have c1000 : B64 1000 1000 := by unfold B64; decide
  have c2000 : B64 2000 2000 := by unfold B64; decide
  have c3000 : B64 3000 3000 := by unfold B64; decide
  have cM : B64 1000000 1000000 := by unfold B64; decide
  unfold segS
  dsimp only
  generalize ((1000 : Int64) * (fr - F (6 * a)).toInt64) / (F (6 * (a + 1)) - F (6 * a)).toInt64 = t at ht ⊢
  generalize (F (6 * (a + 1) + 1) - F (6 * a + 1)).toInt64 = d at hd ⊢
  generalize ((F (6 * (a + 1)) - F (6 * a)).toInt64 * (tangS n F a).toInt64) / 1000 = mm at hm ⊢
  generalize ((F (6 * (a + 1)) - F (6 * a)).toInt64 * (tangS n F (a + 1)).toInt64) / 1000 = nn at hn ⊢
  have tt := ht.mul ht (by omega)
  have ttt := tt.mul ht (by omega)
  have dt := hd.mul ht (by omega)
  have dtt := dt.mul ht (by omega)
  have e1 := (dt.div (y := 1000) (k := 1000) rfl (by omega)).to32 (by omega)
  have e2 := (dtt.div (y := 1000000) (k := 1000000) rfl (by omega)).to32 (by omega)
  have r := c1000.sub ht (by omega)
  have e3 := ((hd.mul (cM.sub (r.mul r (by omega)) (by omega)) (by omega)).div (y := 1000000) (k := 1000000) rfl (by omega)).to32 (by omega)
  have e4 := ((dtt.mul (c3000.sub (c2.mul ht (by omega)) (by omega)) (by omega)).div (y := 1000000000) (k := 1000000000) rfl (by omega)).to32 (by omega)
  have p1 := hd.mul ((c3000.mul tt (by omega)).sub (c2.mul ttt (by omega)) (by omega)) (by omega)
  have p2 := hm.mul ((ttt.sub (c2000.mul tt (by omega)) (by omega)).add (cM.mul ht (by omega)) (by omega)) (by omega)
  have p3 := hn.mul (ttt.sub (c1000.mul tt (by omega)) (by omega)) (by omega)
  have e5 := (((p1.add p2 (by omega)).add p3 (by omega)).div (y := 1000000000) (k := 1000000000) rfl (by omega)).to32 (by omega)
  by_cases h0 : F (6 * a + 2) = 0
  · rw [it h0]; exact hv.mono (by omega)
  rw [if_ h0]
  by_cases h0 : F (6 * a + 2) = 1
  · have q := hv.add e1 (by omega)
    rw [it h0]; exact q.mono (by omega)
  rw [if_ h0]
  by_cases h0 : F (6 * a + 2) = 2
  · have q := hv.add e2 (by omega)
    rw [it h0]; exact q.mono (by omega)
  rw [if_ h0]
  by_cases h0 : F (6 * a + 2) = 3
  · have q := hv.add e3 (by omega)
    rw [it h0]; exact q.mono (by omega)
  rw [if_ h0]
  by_cases h0 : F (6 * a + 2) = 4
  · have q := hv.add e4 (by omega)
    rw [it h0]; exact q.mono (by omega)
  rw [if_ h0]
  have q := hv.add e5 (by omega)
  exact q.mono (by omega)
theorem valS_b {n : Nat} {F : Nat → Int32} (hC : Cv n F) (fr : Int32) : B32 (valS n F fr) 300000000 := by
  obtain ⟨-, -, g3, g4⟩ := cntS_spec F fr n 0
  have hp := cnt_le (n := n) (F := F) (fr := fr)
  unfold valS
  cases hc : cnt n F fr with
  | zero =>
    dsimp only
    by_cases h0 : n = 0
    · rw [it h0]; unfold B32; rw [show (0 : Int32).toInt = 0 from rfl]; omega
    · rw [if_ h0]; exact (hC.bv (k := 0) (by omega)).mono (by omega)
  | succ a =>
    dsimp only
    by_cases h0 : a + 1 = n
    · rw [it h0]; exact (hC.bv (k := a) (by omega)).mono (by omega)
    · rw [if_ h0]
      refine segS_b hC (by omega) (g3 a (Nat.zero_le _) (by show a < cnt n F fr; omega)) ?_
      have := g4 (by show cnt n F fr < 0 + n; omega)
      rw [show cntS F fr n 0 = a + 1 from hc] at this
      exact this
def apS (a b : Int32) : Int32 := if b ≤ a then a - b else b - a
theorem mApart (a b : Int32) : F_X4_apart a b = some (apS a b) := by
  unfold F_X4_apart apS
  by_cases h : b ≤ a
  · rw [it h, it h]
  · rw [if_ h, if_ h]
theorem cApart {a b : Int32} (ha : B32 a 300000000) (hb : B32 b 300000000) : (if 0 ≤ a - b then a - b else 0 - (a - b)) = apS a b := by
  unfold apS
  unfold B32 at ha hb
  have e := fb_subI (x := a) (y := b) (by omega) (by omega)
  have e0 : (0 : Int32).toInt = 0 := rfl
  by_cases h : b ≤ a
  · rw [it h, it]
    rw [fa_le] at h ⊢
    omega
  · rw [if_ h, if_]
    · rw [Int32.zero_sub, Int32.neg_sub]
    · rw [fa_le] at h ⊢
      omega
theorem apS_cm (a b : Int32) : apS a b = apS b a := by
  unfold apS
  by_cases h : b ≤ a
  · rw [it h]
    by_cases g : a ≤ b
    · have : a = b := by rw [fa_le] at h g; rw [fa_eq]; omega
      rw [it g, this]
    · rw [if_ g]
  · rw [if_ h, it]
    rw [fa_le] at h ⊢
    omega

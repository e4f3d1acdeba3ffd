/-! ===== numbers ===== -/
theorem fa_lt (a b : Int32) : a < b ↔ a.toInt < b.toInt := Int32.lt_iff_toInt_lt
theorem fa_le (a b : Int32) : a ≤ b ↔ a.toInt ≤ b.toInt := Int32.le_iff_toInt_le
theorem fa_eq (a b : Int32) : a = b ↔ a.toInt = b.toInt := Int32.toInt_inj.symm
theorem fa_lt64 (a b : Int64) : a < b ↔ a.toInt < b.toInt := Int64.lt_iff_toInt_lt
theorem fa_le64 (a b : Int64) : a ≤ b ↔ a.toInt ≤ b.toInt := Int64.le_iff_toInt_le
theorem fa_eq64 (a b : Int64) : a = b ↔ a.toInt = b.toInt := Int64.toInt_inj.symm
theorem fb_rng (x : Int32) : -2147483648 ≤ x.toInt ∧ x.toInt < 2147483648 := by
  have h1 := Int32.le_toInt x
  have h2 := Int32.toInt_lt x
  omega
theorem fb_bmod {z : Int} (h1 : -2147483648 ≤ z) (h2 : z < 2147483648) : z.bmod (2 ^ 32) = z := by
  rw [Int.bmod_eq_of_le (by omega) (by omega)]
theorem fb_addI {x y : Int32} (h1 : -2147483648 ≤ x.toInt + y.toInt) (h2 : x.toInt + y.toInt < 2147483648) : (x + y).toInt = x.toInt + y.toInt := by
  rw [Int32.toInt_add, fb_bmod h1 h2]
theorem fb_subI {x y : Int32} (h1 : -2147483648 ≤ x.toInt - y.toInt) (h2 : x.toInt - y.toInt < 2147483648) : (x - y).toInt = x.toInt - y.toInt := by
  rw [Int32.toInt_sub, fb_bmod h1 h2]
theorem fb_mulI {x y : Int32} (h1 : -2147483648 ≤ x.toInt * y.toInt) (h2 : x.toInt * y.toInt < 2147483648) : (x * y).toInt = x.toInt * y.toInt := by
  rw [Int32.toInt_mul, fb_bmod h1 h2]
theorem fb_negI {x : Int32} (h : x.toInt ≠ -2147483648) : (-x).toInt = -x.toInt := by
  have := fb_rng x
  rw [Int32.toInt_neg, fb_bmod (by omega) (by omega)]
theorem fb_rngL (x : Int64) : -9223372036854775808 ≤ x.toInt ∧ x.toInt < 9223372036854775808 := by
  have h1 := Int64.le_toInt x
  have h2 := Int64.toInt_lt x
  omega
theorem fb_bmodL {z : Int} (h1 : -9223372036854775808 ≤ z) (h2 : z < 9223372036854775808) : z.bmod (2 ^ 64) = z := by
  rw [Int.bmod_eq_of_le (by omega) (by omega)]
theorem fb_addL {x y : Int64} (h1 : -9223372036854775808 ≤ x.toInt + y.toInt) (h2 : x.toInt + y.toInt < 9223372036854775808) : (x + y).toInt = x.toInt + y.toInt := by
  rw [Int64.toInt_add, fb_bmodL h1 h2]
theorem fb_subL {x y : Int64} (h1 : -9223372036854775808 ≤ x.toInt - y.toInt) (h2 : x.toInt - y.toInt < 9223372036854775808) : (x - y).toInt = x.toInt - y.toInt := by
  rw [Int64.toInt_sub, fb_bmodL h1 h2]
theorem fb_mulL {x y : Int64} (h1 : -9223372036854775808 ≤ x.toInt * y.toInt) (h2 : x.toInt * y.toInt < 9223372036854775808) : (x * y).toInt = x.toInt * y.toInt := by
  rw [Int64.toInt_mul, fb_bmodL h1 h2]
/-! words of the printed functions -/
theorem vlet_e {α β : Type} (x : α) (k : α → Option β) : vlet x k = k x := rfl
theorem vgd_t {β : Type} {c : Prop} {i : Decidable c} {k : Option β} (h : c) : @vgd _ c i k = k := if_pos h
theorem bd_s {α β : Type} (a : α) (k : α → Option β) : (some a).bind k = k a := rfl
theorem thr_r {α β : Type} (a : α) (k : α → Option (Sum Nat β)) : thr (some (.inr a)) k = k a := rfl
theorem thr_l {α β : Type} (n : Nat) (k : α → Option (Sum Nat β)) : thr (some (.inl n)) k = some (.inl n) := rfl
theorem it {α : Sort _} {c : Prop} {i : Decidable c} {a b : α} (h : c) : @ite _ c i a b = a := if_pos h
theorem if_ {α : Sort _} {c : Prop} {i : Decidable c} {a b : α} (h : ¬ c) : @ite _ c i a b = b := if_neg h
/-! small ints -/
theorem n_T {n : Nat} (h : n < 2147483648) : (nI n).toInt = (n : Int) := nI_toInt (by omega)
theorem n_C {n : Nat} (h : n < 2147483648) : (nI n).toNatClampNeg = n := nI_clamp (by omega)
theorem n_ix {a n : Nat} (h : a < n) (hn : n < 2147483648) : ix (nI a) n := by
  have := n_T (n := a) (by omega)
  exact ⟨by omega, by omega⟩
theorem n_s1 {a : Nat} (h : 1 ≤ a) : nI a - 1 = nI (a - 1) := pk_sub (b := 1) h
theorem n_lt {a b : Nat} (ha : a < 2147483648) (hb : b < 2147483648) : nI a < nI b ↔ a < b := nI_ltI (by omega) (by omega)
theorem n_le {a b : Nat} (ha : a < 2147483648) (hb : b < 2147483648) : nI a ≤ nI b ↔ a ≤ b := nI_leI (by omega) (by omega)
theorem n_eq {a b : Nat} (ha : a < 2147483648) (hb : b < 2147483648) : nI a = nI b ↔ a = b := nI_eq (by omega) (by omega)
theorem n_nn {a : Nat} (ha : a < 2147483648) : ¬ nI a < 0 := fun h => Nat.not_lt_zero a ((n_lt (b := 0) ha (by omega)).mp h)
theorem n_of {x : Int32} (h : 0 ≤ x.toInt) : ∃ j : Nat, j < 2147483648 ∧ x = nI j := by
  obtain ⟨j, h1, h2⟩ := nI_of (x := x) (by rw [fa_lt]; show ¬ x.toInt < 0; omega)
  exact ⟨j, by omega, h2⟩
theorem n_of' {x : Int32} {n : Nat} (h : 0 ≤ x.toInt) (h2 : x.toInt < n) : ∃ j : Nat, j < n ∧ x = nI j := by
  obtain ⟨j, h3, rfl⟩ := n_of h
  rw [n_T h3] at h2
  exact ⟨j, by omega, rfl⟩
/-! ===== a curve: n keys, six numbers each ===== -/
theorem cCell {n k w : Nat} {f : Nat → Int32} (hn : n ≤ 16) (hk : k < n) (hw : w < 6) : F_X0_cell (nI n) f (nI k) (nI w) = some (f (6 * k + w)) := by
  unfold F_X0_cell
  rw [if_ (n_nn (by omega)), if_ (by rw [n_le (by omega) (by omega)]; omega)]
  have e : nI k * 6 + nI w = nI (6 * k + w) := by rw [show (6 : Int32) = nI 6 from rfl, pk_mul, nI_add, Nat.mul_comm]
  rw [e, vgd_t (n_ix (by omega) (by omega)), n_C (by omega)]
theorem cCellO {n k : Nat} {f : Nat → Int32} {w : Int32} (hn : n ≤ 16) (hk : n ≤ k) (hk2 : k < 2147483648) : F_X0_cell (nI n) f (nI k) w = some 0 := by
  unfold F_X0_cell
  rw [if_ (n_nn hk2), it (by rw [n_le (by omega) hk2]; omega)]
theorem cCellN {n : Nat} {f : Nat → Int32} {w k : Int32} (hk : k < 0) : F_X0_cell (nI n) f k w = some 0 := by
  unfold F_X0_cell
  rw [it hk]
theorem cCell0 {n k : Nat} {f : Nat → Int32} (hn : n ≤ 16) (hk : k < n) : F_X0_cell (nI n) f (nI k) 0 = some (f (6 * k)) := cCell (w := 0) hn hk (by omega)
theorem cCell1 {n k : Nat} {f : Nat → Int32} (hn : n ≤ 16) (hk : k < n) : F_X0_cell (nI n) f (nI k) 1 = some (f (6 * k + 1)) := cCell (w := 1) hn hk (by omega)
theorem cCell2 {n k : Nat} {f : Nat → Int32} (hn : n ≤ 16) (hk : k < n) : F_X0_cell (nI n) f (nI k) 2 = some (f (6 * k + 2)) := cCell (w := 2) hn hk (by omega)
theorem cCell3 {n k : Nat} {f : Nat → Int32} (hn : n ≤ 16) (hk : k < n) : F_X0_cell (nI n) f (nI k) 3 = some (f (6 * k + 3)) := cCell (w := 3) hn hk (by omega)
theorem cCell4 {n k : Nat} {f : Nat → Int32} (hn : n ≤ 16) (hk : k < n) : F_X0_cell (nI n) f (nI k) 4 = some (f (6 * k + 4)) := cCell (w := 4) hn hk (by omega)
theorem cCell5 {n k : Nat} {f : Nat → Int32} (hn : n ≤ 16) (hk : k < n) : F_X0_cell (nI n) f (nI k) 5 = some (f (6 * k + 5)) := cCell (w := 5) hn hk (by omega)
theorem cPut {n k w : Nat} {f : Nat → Int32} {v : Int32} (hn : n ≤ 16) (hk : k < n) (hw : w < 6) : F_X0_put (nI n) f (nI k) (nI w) v = some (upd f (6 * k + w) v) := by
  unfold F_X0_put
  rw [if_ (n_nn (by omega)), if_ (by rw [n_le (by omega) (by omega)]; omega)]
  have e : nI k * 6 + nI w = nI (6 * k + w) := by rw [show (6 : Int32) = nI 6 from rfl, pk_mul, nI_add, Nat.mul_comm]
  rw [e, vgd_t (n_ix (by omega) (by omega)), n_C (by omega), vlet_e]
theorem cIsLocked {n k : Nat} {f : Nat → Int32} (hn : n ≤ 16) (hk : k < n) : F_X0_isLocked (nI n) f (nI k) = some (if f (6 * k + 5) = 1 then 1 else 0) := by
  unfold F_X0_isLocked
  rw [cCell5 hn hk, bd_s]
  split <;> rfl
/-! the reference's: curve c's keys stand behind 97 * c -/
abbrev vw (us : Nat → Int32) (c : Nat) : Nat → Int32 := fun j => us (97 * c + 1 + j)
theorem mMany {us : Nat → Int32} {c : Nat} (hc : c < 4) : F_X4_many us (nI c) = some (us (97 * c)) := by
  unfold F_X4_many
  rw [show (97 : Int32) = nI 97 from rfl, pk_mul, vgd_t (n_ix (by omega) (by omega)), n_C (by omega)]
theorem mSpot {c k : Nat} : F_X4_spot (nI c) (nI k) = some (nI (97 * c + 1 + 6 * k)) := by
  unfold F_X4_spot
  rw [show (97 : Int32) = nI 97 from rfl, pk_mul, nI_1, show (6 : Int32) = nI 6 from rfl, pk_mul, nI_add]
theorem mOf {us : Nat → Int32} {c k w : Nat} (hc : c < 4) (hk : k < 16) (hw : w < 6) : F_X4_of us (nI c) (nI k) (nI w) = some (vw us c (6 * k + w)) := by
  unfold F_X4_of
  rw [mSpot, bd_s, nI_add, vgd_t (n_ix (by omega) (by omega)), n_C (by omega)]
  show some (us _) = some (us _)
  rw [Nat.add_assoc]
theorem mOf0 {us : Nat → Int32} {c k : Nat} (hc : c < 4) (hk : k < 16) : F_X4_of us (nI c) (nI k) 0 = some (vw us c (6 * k)) := mOf (w := 0) hc hk (by omega)
theorem mOf1 {us : Nat → Int32} {c k : Nat} (hc : c < 4) (hk : k < 16) : F_X4_of us (nI c) (nI k) 1 = some (vw us c (6 * k + 1)) := mOf (w := 1) hc hk (by omega)
theorem mOf2 {us : Nat → Int32} {c k : Nat} (hc : c < 4) (hk : k < 16) : F_X4_of us (nI c) (nI k) 2 = some (vw us c (6 * k + 2)) := mOf (w := 2) hc hk (by omega)
theorem mOf3 {us : Nat → Int32} {c k : Nat} (hc : c < 4) (hk : k < 16) : F_X4_of us (nI c) (nI k) 3 = some (vw us c (6 * k + 3)) := mOf (w := 3) hc hk (by omega)
theorem mOf4 {us : Nat → Int32} {c k : Nat} (hc : c < 4) (hk : k < 16) : F_X4_of us (nI c) (nI k) 4 = some (vw us c (6 * k + 4)) := mOf (w := 4) hc hk (by omega)
theorem mOf5 {us : Nat → Int32} {c k : Nat} (hc : c < 4) (hk : k < 16) : F_X4_of us (nI c) (nI k) 5 = some (vw us c (6 * k + 5)) := mOf (w := 5) hc hk (by omega)
/-! ===== what a curve is: its numbers lie in their ranges, its frames ascend ===== -/
/-- n keys, in the row F -/
def Cv (n : Nat) (F : Nat → Int32) : Prop := n ≤ 16 ∧ (∀ k, k < n → 0 ≤ (F (6 * k)).toInt ∧ (F (6 * k)).toInt ≤ 999 ∧ -9999 ≤ (F (6 * k + 1)).toInt ∧ (F (6 * k + 1)).toInt ≤ 9999 ∧ 0 ≤ (F (6 * k + 2)).toInt ∧ (F (6 * k + 2)).toInt ≤ 5 ∧ 0 ≤ (F (6 * k + 3)).toInt ∧ (F (6 * k + 3)).toInt ≤ 2 ∧ -99999 ≤ (F (6 * k + 4)).toInt ∧ (F (6 * k + 4)).toInt ≤ 99999 ∧ (F (6 * k + 5) = 0 ∨ F (6 * k + 5) = 1)) ∧ ∀ j k, j < k → k < n → (F (6 * j)).toInt < (F (6 * k)).toInt
/-- the row f says the same as F of n keys -/
def Ag (n : Nat) (F f : Nat → Int32) : Prop := ∀ j, j < 6 * n → f j = F j
theorem Cv.ag {n : Nat} {F f : Nat → Int32} (h : Cv n F) (a : Ag n F f) : Cv n f := by
  refine ⟨h.1, fun k hk => ?_, fun j k hjk hk => ?_⟩
  · rw [a _ (by omega), a _ (by omega), a _ (by omega), a _ (by omega), a _ (by omega), a _ (by omega)]
    exact h.2.1 k hk
  · rw [a _ (by omega), a _ (by omega)]
    exact h.2.2 j k hjk hk
theorem Ag.rf {n : Nat} {F : Nat → Int32} : Ag n F F := fun _ _ => rfl
theorem Ag.sy {n : Nat} {F f : Nat → Int32} (h : Ag n F f) : Ag n f F := fun j hj => (h j hj).symm
theorem Ag.tr {n : Nat} {F f h : Nat → Int32} (a : Ag n F f) (b : Ag n f h) : Ag n F h := fun j hj => (b j hj).trans (a j hj)

/-! ===== a curve of the class, its numbers ===== -/
theorem fa_lt (a b : Int32) : a < b ↔ a.toInt < b.toInt := Int32.lt_iff_toInt_lt
theorem fa_le (a b : Int32) : a ≤ b ↔ a.toInt ≤ b.toInt := Int32.le_iff_toInt_le
theorem fa_eq (a b : Int32) : a = b ↔ a.toInt = b.toInt := Int32.toInt_inj.symm
theorem fa_lt64 (a b : Int64) : a < b ↔ a.toInt < b.toInt := Int64.lt_iff_toInt_lt
theorem fa_le64 (a b : Int64) : a ≤ b ↔ a.toInt ≤ b.toInt := Int64.le_iff_toInt_le
theorem fa_eq64 (a b : Int64) : a = b ↔ a.toInt = b.toInt := Int64.toInt_inj.symm
theorem fb_rng (x : Int32) : -2147483648 ≤ x.toInt ∧ x.toInt < 2147483648 := by
  have h1 := Int32.le_toInt x
  have h2 := Int32.toInt_lt x
  omega
theorem fb_bmod {z : Int} (h1 : -2147483648 ≤ z) (h2 : z < 2147483648) : z.bmod (2 ^ 32) = z := by
  rw [Int.bmod_eq_of_le (by omega) (by omega)]
theorem fb_addI {x y : Int32} (h1 : -2147483648 ≤ x.toInt + y.toInt) (h2 : x.toInt + y.toInt < 2147483648) : (x + y).toInt = x.toInt + y.toInt := by
  rw [Int32.toInt_add, fb_bmod h1 h2]
theorem fb_subI {x y : Int32} (h1 : -2147483648 ≤ x.toInt - y.toInt) (h2 : x.toInt - y.toInt < 2147483648) : (x - y).toInt = x.toInt - y.toInt := by
  rw [Int32.toInt_sub, fb_bmod h1 h2]
theorem fb_mulI {x y : Int32} (h1 : -2147483648 ≤ x.toInt * y.toInt) (h2 : x.toInt * y.toInt < 2147483648) : (x * y).toInt = x.toInt * y.toInt := by
  rw [Int32.toInt_mul, fb_bmod h1 h2]
theorem fb_negI {x : Int32} (h : x.toInt ≠ -2147483648) : (-x).toInt = -x.toInt := by
  have := fb_rng x
  rw [Int32.toInt_neg, fb_bmod (by omega) (by omega)]
theorem fb_rngL (x : Int64) : -9223372036854775808 ≤ x.toInt ∧ x.toInt < 9223372036854775808 := by
  have h1 := Int64.le_toInt x
  have h2 := Int64.toInt_lt x
  omega
theorem fb_bmodL {z : Int} (h1 : -9223372036854775808 ≤ z) (h2 : z < 9223372036854775808) : z.bmod (2 ^ 64) = z := by
  rw [Int.bmod_eq_of_le (by omega) (by omega)]
theorem fb_addL {x y : Int64} (h1 : -9223372036854775808 ≤ x.toInt + y.toInt) (h2 : x.toInt + y.toInt < 9223372036854775808) : (x + y).toInt = x.toInt + y.toInt := by
  rw [Int64.toInt_add, fb_bmodL h1 h2]
theorem fb_subL {x y : Int64} (h1 : -9223372036854775808 ≤ x.toInt - y.toInt) (h2 : x.toInt - y.toInt < 9223372036854775808) : (x - y).toInt = x.toInt - y.toInt := by
  rw [Int64.toInt_sub, fb_bmodL h1 h2]
theorem fb_mulL {x y : Int64} (h1 : -9223372036854775808 ≤ x.toInt * y.toInt) (h2 : x.toInt * y.toInt < 9223372036854775808) : (x * y).toInt = x.toInt * y.toInt := by
  rw [Int64.toInt_mul, fb_bmodL h1 h2]
theorem vlet_e {α β : Type} (x : α) (k : α → Option β) : vlet x k = k x := rfl
theorem vgd_t {β : Type} {c : Prop} {i : Decidable c} {k : Option β} (h : c) : @vgd _ c i k = k := if_pos h
theorem bd_s {α β : Type} (a : α) (k : α → Option β) : (some a).bind k = k a := rfl
theorem thr_r {α β : Type} (a : α) (k : α → Option (Sum Nat β)) : thr (some (.inr a)) k = k a := rfl
theorem thr_l {α β : Type} (n : Nat) (k : α → Option (Sum Nat β)) : thr (some (.inl n)) k = some (.inl n) := rfl
theorem it {α : Sort _} {c : Prop} {i : Decidable c} {a b : α} (h : c) : @ite _ c i a b = a := if_pos h
theorem if_ {α : Sort _} {c : Prop} {i : Decidable c} {a b : α} (h : ¬ c) : @ite _ c i a b = b := if_neg h
theorem n_T {n : Nat} (h : n < 2147483648) : (nI n).toInt = (n : Int) := nI_toInt (by omega)
theorem n_C {n : Nat} (h : n < 2147483648) : (nI n).toNatClampNeg = n := nI_clamp (by omega)
theorem n_ix {a n : Nat} (h : a < n) (hn : n < 2147483648) : ix (nI a) n := by
  have := n_T (n := a) (by omega)
  exact ⟨by omega, by omega⟩
theorem n_s1 {a : Nat} (h : 1 ≤ a) : nI a - 1 = nI (a - 1) := pk_sub (b := 1) h
theorem n_lt {a b : Nat} (ha : a < 2147483648) (hb : b < 2147483648) : nI a < nI b ↔ a < b := nI_ltI (by omega) (by omega)
theorem n_le {a b : Nat} (ha : a < 2147483648) (hb : b < 2147483648) : nI a ≤ nI b ↔ a ≤ b := nI_leI (by omega) (by omega)
theorem n_eq {a b : Nat} (ha : a < 2147483648) (hb : b < 2147483648) : nI a = nI b ↔ a = b := nI_eq (by omega) (by omega)
theorem n_nn {a : Nat} (ha : a < 2147483648) : ¬ nI a < 0 := fun h => Nat.not_lt_zero a ((n_lt (b := 0) ha (by omega)).mp h)
theorem n_of {x : Int32} (h : 0 ≤ x.toInt) : ∃ j : Nat, j < 2147483648 ∧ x = nI j := by
  obtain ⟨j, h1, h2⟩ := nI_of (x := x) (by rw [fa_lt]; show ¬ x.toInt < 0; omega)
  exact ⟨j, by omega, h2⟩
theorem n_of' {x : Int32} {n : Nat} (h : 0 ≤ x.toInt) (h2 : x.toInt < n) : ∃ j : Nat, j < n ∧ x = nI j := by
  obtain ⟨j, h3, rfl⟩ := n_of h
  rw [n_T h3] at h2
  exact ⟨j, by omega, rfl⟩
theorem cCell {n k w : Nat} {f : Nat → Int32} (hn : n ≤ 16) (hk : k < n) (hw : w < 6) : F_X0_cell (nI n) f (nI k) (nI w) = some (f (6 * k + w)) := by
  unfold F_X0_cell
  rw [if_ (n_nn (by omega)), if_ (by rw [n_le (by omega) (by omega)]; omega)]
  have e : nI k * 6 + nI w = nI (6 * k + w) := by rw [show (6 : Int32) = nI 6 from rfl, pk_mul, nI_add, Nat.mul_comm]
  rw [e, vgd_t (n_ix (by omega) (by omega)), n_C (by omega)]
theorem cCellO {n k : Nat} {f : Nat → Int32} {w : Int32} (hn : n ≤ 16) (hk : n ≤ k) (hk2 : k < 2147483648) : F_X0_cell (nI n) f (nI k) w = some 0 := by
  unfold F_X0_cell
  rw [if_ (n_nn hk2), it (by rw [n_le (by omega) hk2]; omega)]
theorem cCellN {n : Nat} {f : Nat → Int32} {w k : Int32} (hk : k < 0) : F_X0_cell (nI n) f k w = some 0 := by
  unfold F_X0_cell
  rw [it hk]
theorem cCell0 {n k : Nat} {f : Nat → Int32} (hn : n ≤ 16) (hk : k < n) : F_X0_cell (nI n) f (nI k) 0 = some (f (6 * k)) := cCell (w := 0) hn hk (by omega)
theorem cCell1 {n k : Nat} {f : Nat → Int32} (hn : n ≤ 16) (hk : k < n) : F_X0_cell (nI n) f (nI k) 1 = some (f (6 * k + 1)) := cCell (w := 1) hn hk (by omega)
theorem cCell2 {n k : Nat} {f : Nat → Int32} (hn : n ≤ 16) (hk : k < n) : F_X0_cell (nI n) f (nI k) 2 = some (f (6 * k + 2)) := cCell (w := 2) hn hk (by omega)
theorem cCell3 {n k : Nat} {f : Nat → Int32} (hn : n ≤ 16) (hk : k < n) : F_X0_cell (nI n) f (nI k) 3 = some (f (6 * k + 3)) := cCell (w := 3) hn hk (by omega)
theorem cCell4 {n k : Nat} {f : Nat → Int32} (hn : n ≤ 16) (hk : k < n) : F_X0_cell (nI n) f (nI k) 4 = some (f (6 * k + 4)) := cCell (w := 4) hn hk (by omega)
theorem cCell5 {n k : Nat} {f : Nat → Int32} (hn : n ≤ 16) (hk : k < n) : F_X0_cell (nI n) f (nI k) 5 = some (f (6 * k + 5)) := cCell (w := 5) hn hk (by omega)
theorem cPut {n k w : Nat} {f : Nat → Int32} {v : Int32} (hn : n ≤ 16) (hk : k < n) (hw : w < 6) : F_X0_put (nI n) f (nI k) (nI w) v = some (upd f (6 * k + w) v) := by
  unfold F_X0_put
  rw [if_ (n_nn (by omega)), if_ (by rw [n_le (by omega) (by omega)]; omega)]
  have e : nI k * 6 + nI w = nI (6 * k + w) := by rw [show (6 : Int32) = nI 6 from rfl, pk_mul, nI_add, Nat.mul_comm]
  rw [e, vgd_t (n_ix (by omega) (by omega)), n_C (by omega), vlet_e]
theorem cIsLocked {n k : Nat} {f : Nat → Int32} (hn : n ≤ 16) (hk : k < n) : F_X0_isLocked (nI n) f (nI k) = some (if f (6 * k + 5) = 1 then 1 else 0) := by
  unfold F_X0_isLocked
  rw [cCell5 hn hk, bd_s]
  split <;> rfl
/-- n keys, in the row F -/
def Cv (n : Nat) (F : Nat → Int32) : Prop := n ≤ 16 ∧ (∀ k, k < n → 0 ≤ (F (6 * k)).toInt ∧ (F (6 * k)).toInt ≤ 999 ∧ -9999 ≤ (F (6 * k + 1)).toInt ∧ (F (6 * k + 1)).toInt ≤ 9999 ∧ 0 ≤ (F (6 * k + 2)).toInt ∧ (F (6 * k + 2)).toInt ≤ 5 ∧ 0 ≤ (F (6 * k + 3)).toInt ∧ (F (6 * k + 3)).toInt ≤ 2 ∧ -99999 ≤ (F (6 * k + 4)).toInt ∧ (F (6 * k + 4)).toInt ≤ 99999 ∧ (F (6 * k + 5) = 0 ∨ F (6 * k + 5) = 1)) ∧ ∀ j k, j < k → k < n → (F (6 * j)).toInt < (F (6 * k)).toInt
/-- the row f says the same as F of n keys -/
def Ag (n : Nat) (F f : Nat → Int32) : Prop := ∀ j, j < 6 * n → f j = F j
theorem Cv.ag {n : Nat} {F f : Nat → Int32} (h : Cv n F) (a : Ag n F f) : Cv n f := by
  refine ⟨h.1, fun k hk => ?_, fun j k hjk hk => ?_⟩
  · rw [a _ (by omega), a _ (by omega), a _ (by omega), a _ (by omega), a _ (by omega), a _ (by omega)]
    exact h.2.1 k hk
  · rw [a _ (by omega), a _ (by omega)]
    exact h.2.2 j k hjk hk
theorem Ag.rf {n : Nat} {F : Nat → Int32} : Ag n F F := fun _ _ => rfl
theorem Ag.sy {n : Nat} {F f : Nat → Int32} (h : Ag n F f) : Ag n f F := fun j hj => (h j hj).symm
theorem Ag.tr {n : Nat} {F f h : Nat → Int32} (a : Ag n F f) (b : Ag n f h) : Ag n F h := fun j hj => (b j hj).trans (a j hj)

def turnB (p v q : Int32) : Bool := (decide (p ≤ v) && decide (q ≤ v)) || (decide (v ≤ p) && decide (v ≤ q))
def tangS (n : Nat) (F : Nat → Int32) (k : Nat) : Int32 :=
  if F (6 * k + 3) = 0 then F (6 * k + 4)
  else if k = 0 then 0
  else if k + 1 = n then 0
  else if F (6 * k + 3) = 2 ∧ turnB (F (6 * (k - 1) + 1)) (F (6 * k + 1)) (F (6 * (k + 1) + 1)) = true then 0
  else (1000 * (F (6 * (k + 1) + 1) - F (6 * (k - 1) + 1))) / (F (6 * (k + 1)) - F (6 * (k - 1)))
theorem tangS_cg {n : Nat} {F f : Nat → Int32} (h : Ag n F f) {k : Nat} (hk : k < n) : tangS n f k = tangS n F k := by
  unfold tangS
  rw [h (6 * k + 3) (by omega), h (6 * k + 4) (by omega)]
  by_cases h1 : F (6 * k + 3) = 0
  · rw [it h1, it h1]
  · rw [if_ h1, if_ h1]
    by_cases h2 : k = 0
    · rw [it h2, it h2]
    · rw [if_ h2, if_ h2]
      by_cases h3 : k + 1 = n
      · rw [it h3, it h3]
      · rw [if_ h3, if_ h3, h (6 * (k - 1) + 1) (by omega), h (6 * k + 1) (by omega), h (6 * (k + 1) + 1) (by omega), h (6 * (k + 1)) (by omega), h (6 * (k - 1)) (by omega)]
theorem cCellT {n : Nat} {f : Nat → Int32} (hn : n ≤ 16) (k : Int32) {w : Nat} (hw : w < 6) : ∃ v, F_X0_cell (nI n) f k (nI w) = some v := by
  by_cases h : k < 0
  · exact ⟨_, cCellN h⟩
  · obtain ⟨j, hj, rfl⟩ := nI_of h
    rcases Nat.lt_or_ge j n with h2 | h2
    · exact ⟨_, cCell hn h2 hw⟩
    · exact ⟨_, cCellO hn h2 (by omega)⟩
theorem cIsTurn (p v q : Int32) : F_X0_isTurn p v q = some (if turnB p v q = true then 1 else 0) := by
  unfold F_X0_isTurn F_X0_isTurn_10 turnB
  simp only [fa_lt, fa_le]
  by_cases h1 : v.toInt < p.toInt <;> by_cases h2 : q.toInt ≤ v.toInt <;> by_cases h3 : p.toInt < v.toInt <;> by_cases h4 : q.toInt < v.toInt <;> simp [h1, h2, h3, h4] <;> omega
theorem frame_pos {n : Nat} {F : Nat → Int32} (hC : Cv n F) {j k : Nat} (hj : j < k) (hk : k < n) : 0 < F (6 * k) - F (6 * j) ∧ (F (6 * k) - F (6 * j)).toInt = (F (6 * k)).toInt - (F (6 * j)).toInt := by
  have h1 := hC.2.1 j (by omega)
  have h2 := hC.2.1 k hk
  have h3 := hC.2.2 j k hj hk
  have e := fb_subI (x := F (6 * k)) (y := F (6 * j)) (by omega) (by omega)
  refine ⟨?_, e⟩
  rw [fa_lt, e]
  show (0 : Int) < _
  omega
theorem cTangent {n : Nat} {F : Nat → Int32} (hC : Cv n F) {k : Nat} (hk : k < n) : F_X0_tangentOf (nI n) F (nI k) = some (tangS n F k) := by
  have hn := hC.1
  unfold F_X0_tangentOf tangS
  rw [cCell3 hn hk, bd_s]
  by_cases h1 : F (6 * k + 3) = 0
  · rw [it h1, it h1, cCell4 hn hk, bd_s]
  · rw [if_ h1, if_ h1]
    obtain ⟨a, ha⟩ := cCellT (f := F) hn (nI k + 1) (w := 0) (by omega)
    obtain ⟨b, hb⟩ := cCellT (f := F) hn (nI k - 1) (w := 0) (by omega)
    have ha' : F_X0_cell (nI n) F (nI k + 1) 0 = some a := ha
    have hb' : F_X0_cell (nI n) F (nI k - 1) 0 = some b := hb
    rw [ha', bd_s, hb', bd_s, vlet_e]
    by_cases h2 : k = 0
    · subst h2
      rw [it (show nI 0 ≤ 0 from by decide), it rfl]
    · rw [if_ h2, if_ (show ¬ nI k ≤ 0 from by rw [show (0 : Int32) = nI 0 from rfl, n_le (by omega) (by omega)]; omega)]
      by_cases h3 : k + 1 = n
      · rw [it h3, it (show nI n - 1 ≤ nI k from by rw [n_s1 (by omega), n_le (by omega) (by omega)]; omega)]
      · rw [if_ h3, if_ (show ¬ nI n - 1 ≤ nI k from by rw [n_s1 (by omega), n_le (by omega) (by omega)]; omega)]
        rw [nI_1] at ha'
        rw [n_s1 (by omega)] at hb'
        rw [cCell0 hn (by omega)] at ha' hb'
        cases ha'
        cases hb'
        obtain ⟨hpos, -⟩ := frame_pos hC (j := k - 1) (k := k + 1) (by omega) (by omega)
        have hne : ¬ F (6 * (k + 1)) - F (6 * (k - 1)) = 0 := fun e => by rw [e] at hpos; exact absurd hpos (by decide)
        rw [it hpos, n_s1 (by omega), nI_1, cCell1 hn (by omega), bd_s, cCell1 hn (by omega), bd_s, cCell1 hn hk]
        by_cases h4 : F (6 * k + 3) = 2
        · rw [it h4, bd_s, cIsTurn, bd_s]
          by_cases h5 : turnB (F (6 * (k - 1) + 1)) (F (6 * k + 1)) (F (6 * (k + 1) + 1)) = true
          · rw [it h5, if_ (show ¬ (1 : Int32) = 0 by decide), it ⟨h4, h5⟩]
          · rw [if_ h5, it rfl, vgd_t hne, if_ (fun h => h5 h.2)]
        · rw [if_ h4, vgd_t hne, if_ (fun h => h4 h.1)]
/-- the value at a frame between the keys a and a + 1 -/
def segS (n : Nat) (F : Nat → Int32) (a : Nat) (fr : Int32) : Int32 :=
  let v := F (6 * a + 1)
  let w := (F (6 * (a + 1)) - F (6 * a)).toInt64
  let t := (1000 * (fr - F (6 * a)).toInt64) / w
  let d := (F (6 * (a + 1) + 1) - v).toInt64
  if F (6 * a + 2) = 0 then v
  else if F (6 * a + 2) = 1 then v + ((d * t) / 1000).toInt32
  else if F (6 * a + 2) = 2 then v + (((d * t) * t) / 1000000).toInt32
  else if F (6 * a + 2) = 3 then v + ((d * (1000000 - ((1000 - t) * (1000 - t)))) / 1000000).toInt32
  else if F (6 * a + 2) = 4 then v + ((((d * t) * t) * (3000 - (2 * t))) / 1000000000).toInt32
  else v + (((((d * ((3000 * (t * t)) - (2 * ((t * t) * t)))) + (((w * (tangS n F a).toInt64) / 1000) * ((((t * t) * t) - (2000 * (t * t))) + (1000000 * t)))) + (((w * (tangS n F (a + 1)).toInt64) / 1000) * (((t * t) * t) - (1000 * (t * t))))) / 1000000000).toInt32)
theorem segS_cg {n : Nat} {F f : Nat → Int32} (h : Ag n F f) {a : Nat} (ha : a + 1 < n) (fr : Int32) : segS n f a fr = segS n F a fr := by
  unfold segS
  rw [h (6 * a) (by omega), h (6 * a + 1) (by omega), h (6 * a + 2) (by omega), h (6 * (a + 1)) (by omega), h (6 * (a + 1) + 1) (by omega), tangS_cg h (by omega), tangS_cg h (by omega)]
/-- how many keys stand at a frame or before it -/
def cntS (F : Nat → Int32) (fr : Int32) : Nat → Nat → Nat
  | 0, i => i
  | m + 1, i => if fr < F (6 * i) then i else cntS F fr m (i + 1)
abbrev cnt (n : Nat) (F : Nat → Int32) (fr : Int32) : Nat := cntS F fr n 0
theorem cntS_cg {n : Nat} {F f : Nat → Int32} (h : Ag n F f) (fr : Int32) : ∀ m i, i + m = n → cntS f fr m i = cntS F fr m i := by
  intro m
  induction m with
  | zero => intro i _; rfl
  | succ m ih =>
    intro i hi
    unfold cntS
    rw [h (6 * i) (by omega), ih (i + 1) (by omega)]
theorem cntS_spec (F : Nat → Int32) (fr : Int32) : ∀ m i, i ≤ cntS F fr m i ∧ cntS F fr m i ≤ i + m ∧ (∀ k, i ≤ k → k < cntS F fr m i → F (6 * k) ≤ fr) ∧ (cntS F fr m i < i + m → fr < F (6 * cntS F fr m i)) := by
  intro m
  induction m with
  | zero => intro i; exact ⟨Nat.le_refl _, Nat.le_refl _, fun k h1 h2 => absurd h2 (by show ¬ k < i; omega), fun h => absurd h (by show ¬ i < i + 0; omega)⟩
  | succ m ih =>
    intro i
    unfold cntS
    by_cases h : fr < F (6 * i)
    · rw [it h]
      exact ⟨Nat.le_refl _, by omega, fun k h1 h2 => absurd h2 (by omega), fun _ => h⟩
    · rw [if_ h]
      obtain ⟨h1, h2, h3, h4⟩ := ih (i + 1)
      refine ⟨by omega, by omega, fun k hk1 hk2 => ?_, fun h5 => h4 (by omega)⟩
      rcases Nat.lt_or_ge i k with g | g
      · exact h3 k g hk2
      · have : k = i := by omega
        subst this
        rw [fa_lt] at h
        rw [fa_le]
        omega
theorem cnt_uq {n : Nat} {F : Nat → Int32} {fr : Int32} {i : Nat} (hi : i ≤ n) (h1 : ∀ k, k < i → F (6 * k) ≤ fr) (h2 : i < n → fr < F (6 * i)) : cnt n F fr = i := by
  obtain ⟨-, g2, g3, g4⟩ := cntS_spec F fr n 0
  rcases Nat.lt_trichotomy (cnt n F fr) i with h | h | h
  · have a := h1 _ h
    have b := g4 (by show cnt n F fr < 0 + n; omega)
    rw [fa_le] at a
    rw [fa_lt] at b
    exact absurd a (by show ¬ (F (6 * cntS F fr n 0)).toInt ≤ fr.toInt; omega)
  · exact h
  · have a := g3 i (Nat.zero_le _) h
    have b := h2 (by have : cnt n F fr ≤ 0 + n := g2; omega)
    rw [fa_le] at a
    rw [fa_lt] at b
    omega
def valS (n : Nat) (F : Nat → Int32) (fr : Int32) : Int32 :=
  match cnt n F fr with
  | 0 => if n = 0 then 0 else F 1
  | a + 1 => if a + 1 = n then F (6 * a + 1) else segS n F a fr
theorem valS_cg {n : Nat} {F f : Nat → Int32} (h : Ag n F f) (fr : Int32) : valS n f fr = valS n F fr := by
  unfold valS
  rw [show cnt n f fr = cnt n F fr from cntS_cg h fr n 0 (by omega)]
  have hle : cnt n F fr ≤ n := by have := (cntS_spec F fr n 0).2.1; show cntS F fr n 0 ≤ n; omega
  cases hc : cnt n F fr with
  | zero =>
    dsimp only
    by_cases h0 : n = 0
    · rw [it h0, it h0]
    · rw [if_ h0, if_ h0, h 1 (by omega)]
  | succ a =>
    dsimp only
    by_cases h0 : a + 1 = n
    · rw [it h0, it h0, h (6 * a + 1) (by omega)]
    · rw [if_ h0, if_ h0, segS_cg h (by omega)]
theorem cCountUpTo_2 {n : Nat} {f : Nat → Int32} (hn : n ≤ 16) (fr : Int32) : ∀ (m N i : Nat), i + m = n → m < N → F_X0_countUpTo_2 (nI n) f fr N (nI i) = some (nI (cntS f fr m i)) := by
  intro m
  induction m with
  | zero =>
    intro N i hi hN
    obtain ⟨N, rfl⟩ : ∃ z, N = z + 1 := ⟨N - 1, by omega⟩
    rw [F_X0_countUpTo_2, it (by rw [n_le (by omega) (by omega)]; omega)]
    rfl
  | succ m ih =>
    intro N i hi hN
    obtain ⟨N, rfl⟩ : ∃ z, N = z + 1 := ⟨N - 1, by omega⟩
    rw [F_X0_countUpTo_2, if_ (by rw [n_le (by omega) (by omega)]; omega), cCell0 hn (by omega), bd_s]
    unfold cntS
    by_cases h : fr < f (6 * i)
    · rw [it h, it h]
    · rw [if_ h, if_ h, vlet_e, nI_1]
      exact ih N (i + 1) (by omega) (by omega)
theorem cCountUpTo {n : Nat} {f : Nat → Int32} (hn : n ≤ 16) (fr : Int32) : F_X0_countUpTo (nI n) f fr = some (nI (cnt n f fr)) := by
  unfold F_X0_countUpTo
  exact cCountUpTo_2 hn fr n 2000 0 (by omega) (by omega)
theorem cnt_le {n : Nat} {F : Nat → Int32} {fr : Int32} : cnt n F fr ≤ n := by have := (cntS_spec F fr n 0).2.1; show cntS F fr n 0 ≤ n; omega
theorem t_wide {fr a : Int32} (h1 : 0 ≤ fr.toInt) (h2 : fr.toInt ≤ 999) (h3 : 0 ≤ a.toInt) (h4 : a.toInt ≤ 999) : (1000 * (fr - a)).toInt64 = 1000 * (fr - a).toInt64 := by
  have e := fb_subI (x := fr) (y := a) (by omega) (by omega)
  have e2 : ((1000 : Int32) * (fr - a)).toInt = 1000 * (fr - a).toInt := fb_mulI (by rw [show (1000 : Int32).toInt = 1000 from rfl]; omega) (by rw [show (1000 : Int32).toInt = 1000 from rfl]; omega)
  rw [fa_eq64, Int32.toInt_toInt64, e2, fb_mulL, Int32.toInt_toInt64]
  · rfl
  · rw [show (1000 : Int64).toInt = 1000 from rfl, Int32.toInt_toInt64]; omega
  · rw [show (1000 : Int64).toInt = 1000 from rfl, Int32.toInt_toInt64]; omega
/-- the value behind key a, by the class -/
theorem cBehind {n : Nat} {F : Nat → Int32} (hC : Cv n F) {a : Nat} (ha : a + 1 < n) {fr : Int32} (h0 : 0 ≤ fr.toInt) (h9 : fr.toInt ≤ 999) : F_X0_valueBehind (nI n) F (nI a) fr = some (segS n F a fr) := by
  have hn := hC.1
  obtain ⟨hpos, -⟩ := frame_pos hC (j := a) (k := a + 1) (by omega) (by omega)
  have hw : ∀ x : Int32, 0 < x → 0 < x.toInt64 := by
    intro x hx
    rw [fa_lt] at hx
    rw [fa_lt64, Int32.toInt_toInt64]
    exact hx
  have hw1 := hw _ hpos
  have hne : ¬ (F (6 * (a + 1)) - F (6 * a)).toInt64 = 0 := fun e => by rw [e] at hw1; exact absurd hw1 (by decide)
  obtain ⟨k1, k2, -, -, k3, k4, -⟩ := hC.2.1 a (by omega)
  unfold F_X0_valueBehind segS
  rw [if_ (n_nn (by omega)), vlet_e, cCell1 hn (by omega), bd_s, nI_1, cCell0 hn (by omega), bd_s, cCell0 hn (by omega), bd_s, vlet_e, if_ (n_nn (by omega)), if_ (by rw [n_s1 (by omega), n_le (by omega) (by omega)]; omega), it ((lg_cmp_gt _ _).mpr hw1), bd_s, vgd_t hne, t_wide h0 h9 k1 k2, vlet_e, cCell1 hn (by omega), bd_s, vlet_e, cCell2 hn (by omega), bd_s, cTangent hC (by omega), bd_s, vlet_e, cTangent hC (by omega), bd_s, vlet_e]
  unfold F_X0_riseByTangents
  simp only [vlet_e, bd_s]
  by_cases e0 : F (6 * a + 2) = 0
  · rw [it e0, e0]; rfl
  · rw [if_ e0]
    by_cases e1 : F (6 * a + 2) = 1
    · rw [it e1, it e1]
    · rw [if_ e1, if_ e1]
      by_cases e2 : F (6 * a + 2) = 2
      · rw [it e2, it e2]
      · rw [if_ e2, if_ e2]
        by_cases e3 : F (6 * a + 2) = 3
        · rw [it e3, it e3]
        · rw [if_ e3, if_ e3]
          by_cases e4 : F (6 * a + 2) = 4
          · rw [it e4, it e4]
          · rw [if_ e4, if_ e4, it]
            rw [fa_eq] at e0 e1 e2 e3 e4 ⊢
            rw [show (0 : Int32).toInt = 0 from rfl] at e0
            rw [show (1 : Int32).toInt = 1 from rfl] at e1
            rw [show (2 : Int32).toInt = 2 from rfl] at e2
            rw [show (3 : Int32).toInt = 3 from rfl] at e3
            rw [show (4 : Int32).toInt = 4 from rfl] at e4
            rw [show (5 : Int32).toInt = 5 from rfl]
            omega
/-- .. at the last key and behind it, and before the first -/
theorem cBehindL {n : Nat} {F : Nat → Int32} (hn : n ≤ 16) {a : Nat} (ha : a + 1 = n) (fr : Int32) : F_X0_valueBehind (nI n) F (nI a) fr = some (F (6 * a + 1)) := by
  obtain ⟨x, hx⟩ := cCellT (f := F) hn (nI a + 1) (w := 0) (by omega)
  have hx' : F_X0_cell (nI n) F (nI a + 1) 0 = some x := hx
  unfold F_X0_valueBehind
  rw [if_ (n_nn (by omega)), vlet_e, cCell1 hn (by omega), bd_s, hx', bd_s, cCell0 hn (by omega), bd_s, vlet_e, if_ (n_nn (by omega)), it (by rw [n_s1 (by omega), n_le (by omega) (by omega)]; omega)]
theorem cBehindN {n : Nat} {F : Nat → Int32} (hn : n ≤ 16) (fr : Int32) : F_X0_valueBehind (nI n) F (-1) fr = some (if n = 0 then 0 else F 1) := by
  obtain ⟨x, hx⟩ := cCellT (f := F) hn (-1 + 1) (w := 0) (by omega)
  have hx' : F_X0_cell (nI n) F (-1 + 1) 0 = some x := hx
  unfold F_X0_valueBehind
  rw [it (show (-1 : Int32) < 0 from by decide), vlet_e]
  have e : F_X0_cell (nI n) F 0 1 = some (if n = 0 then 0 else F 1) := by
    by_cases h : n = 0
    · rw [it h]; exact cCellO (k := 0) hn (by omega) (by omega)
    · rw [if_ h]; exact cCell1 (k := 0) hn (by omega)
  rw [e, bd_s, hx', bd_s, cCellN (show (-1 : Int32) < 0 from by decide), bd_s, vlet_e, it (show (-1 : Int32) < 0 from by decide)]
theorem cValueAt {n : Nat} {F : Nat → Int32} (hC : Cv n F) {fr : Int32} (h0 : 0 ≤ fr.toInt) (h9 : fr.toInt ≤ 999) : F_X0_valueAt (nI n) F fr = some (valS n F fr) := by
  have hle := cnt_le (n := n) (F := F) (fr := fr)
  have hn := hC.1
  unfold F_X0_valueAt valS
  rw [cCountUpTo hC.1, bd_s]
  cases hc : cnt n F fr with
  | zero =>
    rw [show nI 0 - 1 = -1 from by decide, cBehindN hn, bd_s]
  | succ a =>
    rw [n_s1 (by omega), show a + 1 - 1 = a from rfl]
    dsimp only
    by_cases h : a + 1 = n
    · rw [it h, cBehindL hn h, bd_s]
    · rw [if_ h, cBehind hC (by omega) h0 h9, bd_s]


/-! ===== tangents and values ===== -/
def turnB (p v q : Int32) : Bool := (decide (p ≤ v) && decide (q ≤ v)) || (decide (v ≤ p) && decide (v ≤ q))
def tangS (n : Nat) (F : Nat → Int32) (k : Nat) : Int32 :=
  if F (6 * k + 3) = 0 then F (6 * k + 4)
  else if k = 0 then 0
  else if k + 1 = n then 0
  else if F (6 * k + 3) = 2 ∧ turnB (F (6 * (k - 1) + 1)) (F (6 * k + 1)) (F (6 * (k + 1) + 1)) = true then 0
  else (1000 * (F (6 * (k + 1) + 1) - F (6 * (k - 1) + 1))) / (F (6 * (k + 1)) - F (6 * (k - 1)))
theorem tangS_cg {n : Nat} {F f : Nat → Int32} (h : Ag n F f) {k : Nat} (hk : k < n) : tangS n f k = tangS n F k := by
  unfold tangS
  rw [h (6 * k + 3) (by omega), h (6 * k + 4) (by omega)]
  by_cases h1 : F (6 * k + 3) = 0
  · rw [it h1, it h1]
  · rw [if_ h1, if_ h1]
    by_cases h2 : k = 0
    · rw [it h2, it h2]
    · rw [if_ h2, if_ h2]
      by_cases h3 : k + 1 = n
      · rw [it h3, it h3]
      · rw [if_ h3, if_ h3, h (6 * (k - 1) + 1) (by omega), h (6 * k + 1) (by omega), h (6 * (k + 1) + 1) (by omega), h (6 * (k + 1)) (by omega), h (6 * (k - 1)) (by omega)]
theorem cCellT {n : Nat} {f : Nat → Int32} (hn : n ≤ 16) (k : Int32) {w : Nat} (hw : w < 6) : ∃ v, F_X0_cell (nI n) f k (nI w) = some v := by
  by_cases h : k < 0
  · exact ⟨_, cCellN h⟩
  · obtain ⟨j, hj, rfl⟩ := nI_of h
    rcases Nat.lt_or_ge j n with h2 | h2
    · exact ⟨_, cCell hn h2 hw⟩
    · exact ⟨_, cCellO hn h2 (by omega)⟩
theorem cIsTurn (p v q : Int32) : F_X0_isTurn p v q = some (if turnB p v q = true then 1 else 0) := by
  unfold F_X0_isTurn F_X0_isTurn_10 turnB
  simp only [fa_lt, fa_le]
  by_cases h1 : v.toInt < p.toInt <;> by_cases h2 : q.toInt ≤ v.toInt <;> by_cases h3 : p.toInt < v.toInt <;> by_cases h4 : q.toInt < v.toInt <;> simp [h1, h2, h3, h4] <;> omega
theorem frame_pos {n : Nat} {F : Nat → Int32} (hC : Cv n F) {j k : Nat} (hj : j < k) (hk : k < n) : 0 < F (6 * k) - F (6 * j) ∧ (F (6 * k) - F (6 * j)).toInt = (F (6 * k)).toInt - (F (6 * j)).toInt := by
  have h1 := hC.2.1 j (by omega)
  have h2 := hC.2.1 k hk
  have h3 := hC.2.2 j k hj hk
  have e := fb_subI (x := F (6 * k)) (y := F (6 * j)) (by omega) (by omega)
  refine ⟨?_, e⟩
  rw [fa_lt, e]
  show (0 : Int) < _
  omega
theorem cTangent {n : Nat} {F : Nat → Int32} (hC : Cv n F) {k : Nat} (hk : k < n) : F_X0_tangentOf (nI n) F (nI k) = some (tangS n F k) := by
  have hn := hC.1
  unfold F_X0_tangentOf tangS
  rw [cCell3 hn hk, bd_s]
  by_cases h1 : F (6 * k + 3) = 0
  · rw [it h1, it h1, cCell4 hn hk, bd_s]
  · rw [if_ h1, if_ h1]
    obtain ⟨a, ha⟩ := cCellT (f := F) hn (nI k + 1) (w := 0) (by omega)
    obtain ⟨b, hb⟩ := cCellT (f := F) hn (nI k - 1) (w := 0) (by omega)
    have ha' : F_X0_cell (nI n) F (nI k + 1) 0 = some a := ha
    have hb' : F_X0_cell (nI n) F (nI k - 1) 0 = some b := hb
    rw [ha', bd_s, hb', bd_s, vlet_e]
    by_cases h2 : k = 0
    · subst h2
      rw [it (show nI 0 ≤ 0 from by decide), it rfl]
    · rw [if_ h2, if_ (show ¬ nI k ≤ 0 from by rw [show (0 : Int32) = nI 0 from rfl, n_le (by omega) (by omega)]; omega)]
      by_cases h3 : k + 1 = n
      · rw [it h3, it (show nI n - 1 ≤ nI k from by rw [n_s1 (by omega), n_le (by omega) (by omega)]; omega)]
      · rw [if_ h3, if_ (show ¬ nI n - 1 ≤ nI k from by rw [n_s1 (by omega), n_le (by omega) (by omega)]; omega)]
        rw [nI_1] at ha'
        rw [n_s1 (by omega)] at hb'
        rw [cCell0 hn (by omega)] at ha' hb'
        cases ha'
        cases hb'
        obtain ⟨hpos, -⟩ := frame_pos hC (j := k - 1) (k := k + 1) (by omega) (by omega)
        have hne : ¬ F (6 * (k + 1)) - F (6 * (k - 1)) = 0 := fun e => by rw [e] at hpos; exact absurd hpos (by decide)
        rw [it hpos, n_s1 (by omega), nI_1, cCell1 hn (by omega), bd_s, cCell1 hn (by omega), bd_s, cCell1 hn hk]
        by_cases h4 : F (6 * k + 3) = 2
        · rw [it h4, bd_s, cIsTurn, bd_s]
          by_cases h5 : turnB (F (6 * (k - 1) + 1)) (F (6 * k + 1)) (F (6 * (k + 1) + 1)) = true
          · rw [it h5, if_ (show ¬ (1 : Int32) = 0 by decide), it ⟨h4, h5⟩]
          · rw [if_ h5, it rfl, vgd_t hne, if_ (fun h => h5 h.2)]
        · rw [if_ h4, vgd_t hne, if_ (fun h => h4 h.1)]
theorem mTangent {n c : Nat} {us : Nat → Int32} (hc : c < 4) (hn : us (97 * c) = nI n) (hC : Cv n (vw us c)) {k : Nat} (hk : k < n) : F_X4_tangent us (nI c) (nI k) = some (tangS n (vw us c) k) := by
  have h16 := hC.1
  unfold F_X4_tangent tangS
  rw [mOf3 hc (by omega), bd_s]
  by_cases h1 : vw us c (6 * k + 3) = 0
  · rw [it h1, it h1, mOf4 hc (by omega), bd_s]
  · rw [if_ h1, if_ h1]
    by_cases h2 : k = 0
    · subst h2
      rw [it (show nI 0 = 0 from rfl), it rfl]
    · rw [if_ h2, if_ (show ¬ nI k = 0 from by rw [show (0 : Int32) = nI 0 from rfl, n_eq (by omega) (by omega)]; exact h2), mMany hc, bd_s, hn, n_s1 (by omega)]
      by_cases h3 : k + 1 = n
      · rw [it h3, it (by rw [n_eq (by omega) (by omega)]; omega)]
      · rw [if_ h3, if_ (by rw [n_eq (by omega) (by omega)]; omega), nI_1, n_s1 (by omega), mOf1 hc (by omega), bd_s, mOf1 hc (by omega), bd_s, mOf1 hc (by omega), bd_s]
        obtain ⟨hpos, -⟩ := frame_pos hC (j := k - 1) (k := k + 1) (by omega) (by omega)
        have hne : ¬ vw us c (6 * (k + 1)) - vw us c (6 * (k - 1)) = 0 := fun e => by rw [e] at hpos; exact absurd hpos (by decide)
        have e117 : ∀ v3 v4, F_X4_tangent_117 us (nI c) (nI k) v3 v4 = some ((1000 * (v4 - v3)) / (vw us c (6 * (k + 1)) - vw us c (6 * (k - 1)))) := by
          intro v3 v4
          unfold F_X4_tangent_117
          rw [nI_1, n_s1 (by omega), mOf0 hc (by omega), bd_s, mOf0 hc (by omega), bd_s, vgd_t hne]
        unfold F_X4_tangent_82 F_X4_tangent_96 F_X4_tangent_100 F_X4_tangent_101
        simp only [e117]
        unfold turnB
        generalize vw us c (6 * (k - 1) + 1) = p
        generalize vw us c (6 * k + 1) = v
        generalize vw us c (6 * (k + 1) + 1) = q
        simp only [fa_lt, fa_le]
        by_cases h4 : vw us c (6 * k + 3) = 2 <;> by_cases g1 : v.toInt < p.toInt <;> by_cases g2 : q.toInt ≤ v.toInt <;> by_cases g3 : p.toInt < v.toInt <;> by_cases g4 : q.toInt < v.toInt <;> simp [h4, g1, g2, g3, g4] <;> omega
/-- the value at a frame between the keys a and a + 1 -/
def segS (n : Nat) (F : Nat → Int32) (a : Nat) (fr : Int32) : Int32 :=
  let v := F (6 * a + 1)
  let w := (F (6 * (a + 1)) - F (6 * a)).toInt64
  let t := (1000 * (fr - F (6 * a)).toInt64) / w
  let d := (F (6 * (a + 1) + 1) - v).toInt64
  if F (6 * a + 2) = 0 then v
  else if F (6 * a + 2) = 1 then v + ((d * t) / 1000).toInt32
  else if F (6 * a + 2) = 2 then v + (((d * t) * t) / 1000000).toInt32
  else if F (6 * a + 2) = 3 then v + ((d * (1000000 - ((1000 - t) * (1000 - t)))) / 1000000).toInt32
  else if F (6 * a + 2) = 4 then v + ((((d * t) * t) * (3000 - (2 * t))) / 1000000000).toInt32
  else v + (((((d * ((3000 * (t * t)) - (2 * ((t * t) * t)))) + (((w * (tangS n F a).toInt64) / 1000) * ((((t * t) * t) - (2000 * (t * t))) + (1000000 * t)))) + (((w * (tangS n F (a + 1)).toInt64) / 1000) * (((t * t) * t) - (1000 * (t * t))))) / 1000000000).toInt32)
theorem segS_cg {n : Nat} {F f : Nat → Int32} (h : Ag n F f) {a : Nat} (ha : a + 1 < n) (fr : Int32) : segS n f a fr = segS n F a fr := by
  unfold segS
  rw [h (6 * a) (by omega), h (6 * a + 1) (by omega), h (6 * a + 2) (by omega), h (6 * (a + 1)) (by omega), h (6 * (a + 1) + 1) (by omega), tangS_cg h (by omega), tangS_cg h (by omega)]
/-- how many keys stand at a frame or before it -/
def cntS (F : Nat → Int32) (fr : Int32) : Nat → Nat → Nat
  | 0, i => i
  | m + 1, i => if fr < F (6 * i) then i else cntS F fr m (i + 1)
abbrev cnt (n : Nat) (F : Nat → Int32) (fr : Int32) : Nat := cntS F fr n 0
theorem cntS_cg {n : Nat} {F f : Nat → Int32} (h : Ag n F f) (fr : Int32) : ∀ m i, i + m = n → cntS f fr m i = cntS F fr m i := by
  intro m
  induction m with
  | zero => intro i _; rfl
  | succ m ih =>
    intro i hi
    unfold cntS
    rw [h (6 * i) (by omega), ih (i + 1) (by omega)]
theorem cntS_spec (F : Nat → Int32) (fr : Int32) : ∀ m i, i ≤ cntS F fr m i ∧ cntS F fr m i ≤ i + m ∧ (∀ k, i ≤ k → k < cntS F fr m i → F (6 * k) ≤ fr) ∧ (cntS F fr m i < i + m → fr < F (6 * cntS F fr m i)) := by
  intro m
  induction m with
  | zero => intro i; exact ⟨Nat.le_refl _, Nat.le_refl _, fun k h1 h2 => absurd h2 (by show ¬ k < i; omega), fun h => absurd h (by show ¬ i < i + 0; omega)⟩
  | succ m ih =>
    intro i
    unfold cntS
    by_cases h : fr < F (6 * i)
    · rw [it h]
      exact ⟨Nat.le_refl _, by omega, fun k h1 h2 => absurd h2 (by omega), fun _ => h⟩
    · rw [if_ h]
      obtain ⟨h1, h2, h3, h4⟩ := ih (i + 1)
      refine ⟨by omega, by omega, fun k hk1 hk2 => ?_, fun h5 => h4 (by omega)⟩
      rcases Nat.lt_or_ge i k with g | g
      · exact h3 k g hk2
      · have : k = i := by omega
        subst this
        rw [fa_lt] at h
        rw [fa_le]
        omega
theorem cnt_uq {n : Nat} {F : Nat → Int32} {fr : Int32} {i : Nat} (hi : i ≤ n) (h1 : ∀ k, k < i → F (6 * k) ≤ fr) (h2 : i < n → fr < F (6 * i)) : cnt n F fr = i := by
  obtain ⟨-, g2, g3, g4⟩ := cntS_spec F fr n 0
  rcases Nat.lt_trichotomy (cnt n F fr) i with h | h | h
  · have a := h1 _ h
    have b := g4 (by show cnt n F fr < 0 + n; omega)
    rw [fa_le] at a
    rw [fa_lt] at b
    exact absurd a (by show ¬ (F (6 * cntS F fr n 0)).toInt ≤ fr.toInt; omega)
  · exact h
  · have a := g3 i (Nat.zero_le _) h
    have b := h2 (by have : cnt n F fr ≤ 0 + n := g2; omega)
    rw [fa_le] at a
    rw [fa_lt] at b
    omega
def valS (n : Nat) (F : Nat → Int32) (fr : Int32) : Int32 :=
  match cnt n F fr with
  | 0 => if n = 0 then 0 else F 1
  | a + 1 => if a + 1 = n then F (6 * a + 1) else segS n F a fr
theorem valS_cg {n : Nat} {F f : Nat → Int32} (h : Ag n F f) (fr : Int32) : valS n f fr = valS n F fr := by
  unfold valS
  rw [show cnt n f fr = cnt n F fr from cntS_cg h fr n 0 (by omega)]
  have hle : cnt n F fr ≤ n := by have := (cntS_spec F fr n 0).2.1; show cntS F fr n 0 ≤ n; omega
  cases hc : cnt n F fr with
  | zero =>
    dsimp only
    by_cases h0 : n = 0
    · rw [it h0, it h0]
    · rw [if_ h0, if_ h0, h 1 (by omega)]
  | succ a =>
    dsimp only
    by_cases h0 : a + 1 = n
    · rw [it h0, it h0, h (6 * a + 1) (by omega)]
    · rw [if_ h0, if_ h0, segS_cg h (by omega)]
theorem cCountUpTo_2 {n : Nat} {f : Nat → Int32} (hn : n ≤ 16) (fr : Int32) : ∀ (m N i : Nat), i + m = n → m < N → F_X0_countUpTo_2 (nI n) f fr N (nI i) = some (nI (cntS f fr m i)) := by
  intro m
  induction m with
  | zero =>
    intro N i hi hN
    obtain ⟨N, rfl⟩ : ∃ z, N = z + 1 := ⟨N - 1, by omega⟩
    rw [F_X0_countUpTo_2, it (by rw [n_le (by omega) (by omega)]; omega)]
    rfl
  | succ m ih =>
    intro N i hi hN
    obtain ⟨N, rfl⟩ : ∃ z, N = z + 1 := ⟨N - 1, by omega⟩
    rw [F_X0_countUpTo_2, if_ (by rw [n_le (by omega) (by omega)]; omega), cCell0 hn (by omega), bd_s]
    unfold cntS
    by_cases h : fr < f (6 * i)
    · rw [it h, it h]
    · rw [if_ h, if_ h, vlet_e, nI_1]
      exact ih N (i + 1) (by omega) (by omega)
theorem cCountUpTo {n : Nat} {f : Nat → Int32} (hn : n ≤ 16) (fr : Int32) : F_X0_countUpTo (nI n) f fr = some (nI (cnt n f fr)) := by
  unfold F_X0_countUpTo
  exact cCountUpTo_2 hn fr n 2000 0 (by omega) (by omega)
theorem cnt_le {n : Nat} {F : Nat → Int32} {fr : Int32} : cnt n F fr ≤ n := by have := (cntS_spec F fr n 0).2.1; show cntS F fr n 0 ≤ n; omega
theorem t_wide {fr a : Int32} (h1 : 0 ≤ fr.toInt) (h2 : fr.toInt ≤ 999) (h3 : 0 ≤ a.toInt) (h4 : a.toInt ≤ 999) : (1000 * (fr - a)).toInt64 = 1000 * (fr - a).toInt64 := by
  have e := fb_subI (x := fr) (y := a) (by omega) (by omega)
  have e2 : ((1000 : Int32) * (fr - a)).toInt = 1000 * (fr - a).toInt := fb_mulI (by rw [show (1000 : Int32).toInt = 1000 from rfl]; omega) (by rw [show (1000 : Int32).toInt = 1000 from rfl]; omega)
  rw [fa_eq64, Int32.toInt_toInt64, e2, fb_mulL, Int32.toInt_toInt64]
  · rfl
  · rw [show (1000 : Int64).toInt = 1000 from rfl, Int32.toInt_toInt64]; omega
  · rw [show (1000 : Int64).toInt = 1000 from rfl, Int32.toInt_toInt64]; omega
/-- the value behind key a, by the class -/
theorem cBehind {n : Nat} {F : Nat → Int32} (hC : Cv n F) {a : Nat} (ha : a + 1 < n) {fr : Int32} (h0 : 0 ≤ fr.toInt) (h9 : fr.toInt ≤ 999) : F_X0_valueBehind (nI n) F (nI a) fr = some (segS n F a fr) := by
  have hn := hC.1
  obtain ⟨hpos, -⟩ := frame_pos hC (j := a) (k := a + 1) (by omega) (by omega)
  have hw : ∀ x : Int32, 0 < x → 0 < x.toInt64 := by
    intro x hx
    rw [fa_lt] at hx
    rw [fa_lt64, Int32.toInt_toInt64]
    exact hx
  have hw1 := hw _ hpos
  have hne : ¬ (F (6 * (a + 1)) - F (6 * a)).toInt64 = 0 := fun e => by rw [e] at hw1; exact absurd hw1 (by decide)
  obtain ⟨k1, k2, -, -, k3, k4, -⟩ := hC.2.1 a (by omega)
  unfold F_X0_valueBehind segS
  rw [if_ (n_nn (by omega)), vlet_e, cCell1 hn (by omega), bd_s, nI_1, cCell0 hn (by omega), bd_s, cCell0 hn (by omega), bd_s, vlet_e, if_ (n_nn (by omega)), if_ (by rw [n_s1 (by omega), n_le (by omega) (by omega)]; omega), it ((lg_cmp_gt _ _).mpr hw1), bd_s, vgd_t hne, t_wide h0 h9 k1 k2, vlet_e, cCell1 hn (by omega), bd_s, vlet_e, cCell2 hn (by omega), bd_s, cTangent hC (by omega), bd_s, vlet_e, cTangent hC (by omega), bd_s, vlet_e]
  unfold F_X0_riseByTangents
  simp only [vlet_e, bd_s]
  by_cases e0 : F (6 * a + 2) = 0
  · rw [it e0, e0]; rfl
  · rw [if_ e0]
    by_cases e1 : F (6 * a + 2) = 1
    · rw [it e1, it e1]
    · rw [if_ e1, if_ e1]
      by_cases e2 : F (6 * a + 2) = 2
      · rw [it e2, it e2]
      · rw [if_ e2, if_ e2]
        by_cases e3 : F (6 * a + 2) = 3
        · rw [it e3, it e3]
        · rw [if_ e3, if_ e3]
          by_cases e4 : F (6 * a + 2) = 4
          · rw [it e4, it e4]
          · rw [if_ e4, if_ e4, it]
            rw [fa_eq] at e0 e1 e2 e3 e4 ⊢
            rw [show (0 : Int32).toInt = 0 from rfl] at e0
            rw [show (1 : Int32).toInt = 1 from rfl] at e1
            rw [show (2 : Int32).toInt = 2 from rfl] at e2
            rw [show (3 : Int32).toInt = 3 from rfl] at e3
            rw [show (4 : Int32).toInt = 4 from rfl] at e4
            rw [show (5 : Int32).toInt = 5 from rfl]
            omega
/-- .. at the last key and behind it, and before the first -/
theorem cBehindL {n : Nat} {F : Nat → Int32} (hn : n ≤ 16) {a : Nat} (ha : a + 1 = n) (fr : Int32) : F_X0_valueBehind (nI n) F (nI a) fr = some (F (6 * a + 1)) := by
  obtain ⟨x, hx⟩ := cCellT (f := F) hn (nI a + 1) (w := 0) (by omega)
  have hx' : F_X0_cell (nI n) F (nI a + 1) 0 = some x := hx
  unfold F_X0_valueBehind
  rw [if_ (n_nn (by omega)), vlet_e, cCell1 hn (by omega), bd_s, hx', bd_s, cCell0 hn (by omega), bd_s, vlet_e, if_ (n_nn (by omega)), it (by rw [n_s1 (by omega), n_le (by omega) (by omega)]; omega)]
theorem cBehindN {n : Nat} {F : Nat → Int32} (hn : n ≤ 16) (fr : Int32) : F_X0_valueBehind (nI n) F (-1) fr = some (if n = 0 then 0 else F 1) := by
  obtain ⟨x, hx⟩ := cCellT (f := F) hn (-1 + 1) (w := 0) (by omega)
  have hx' : F_X0_cell (nI n) F (-1 + 1) 0 = some x := hx
  unfold F_X0_valueBehind
  rw [it (show (-1 : Int32) < 0 from by decide), vlet_e]
  have e : F_X0_cell (nI n) F 0 1 = some (if n = 0 then 0 else F 1) := by
    by_cases h : n = 0
    · rw [it h]; exact cCellO (k := 0) hn (by omega) (by omega)
    · rw [if_ h]; exact cCell1 (k := 0) hn (by omega)
  rw [e, bd_s, hx', bd_s, cCellN (show (-1 : Int32) < 0 from by decide), bd_s, vlet_e, it (show (-1 : Int32) < 0 from by decide)]
theorem cValueAt {n : Nat} {F : Nat → Int32} (hC : Cv n F) {fr : Int32} (h0 : 0 ≤ fr.toInt) (h9 : fr.toInt ≤ 999) : F_X0_valueAt (nI n) F fr = some (valS n F fr) := by
  have hle := cnt_le (n := n) (F := F) (fr := fr)
  have hn := hC.1
  unfold F_X0_valueAt valS
  rw [cCountUpTo hC.1, bd_s]
  cases hc : cnt n F fr with
  | zero =>
    rw [show nI 0 - 1 = -1 from by decide, cBehindN hn, bd_s]
  | succ a =>
    rw [n_s1 (by omega), show a + 1 - 1 = a from rfl]
    dsimp only
    by_cases h : a + 1 = n
    · rw [it h, cBehindL hn h, bd_s]
    · rw [if_ h, cBehind hC (by omega) h0 h9, bd_s]

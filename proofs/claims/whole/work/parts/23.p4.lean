/-! ===== edits: a key comes, a key goes ===== -/
def r6 (a b c d e g : Int32) : Nat → Int32
  | 0 => a
  | 1 => b
  | 2 => c
  | 3 => d
  | 4 => e
  | _ => g
def insS (p : Nat) (F r : Nat → Int32) : Nat → Int32 := fun j => if j < 6 * p then F j else if j < 6 * p + 6 then r (j - 6 * p) else F (j - 6)
def delS (k : Nat) (F : Nat → Int32) : Nat → Int32 := fun j => if j < 6 * k then F j else F (j + 6)
/-- only curve c differs -/
def Out (c : Nat) (us us' : Nat → Int32) : Prop := ∀ j, j < 97 * c ∨ 97 * c + 97 ≤ j → us' j = us j
theorem Out.rf {c : Nat} {us : Nat → Int32} : Out c us us := fun _ _ => rfl
theorem Out.tr {c : Nat} {us us' us'' : Nat → Int32} (a : Out c us us') (b : Out c us' us'') : Out c us us'' := fun j hj => (b j hj).trans (a j hj)
theorem Out.up {c j : Nat} {us : Nat → Int32} {v : Int32} (h : 97 * c ≤ j) (h2 : j < 97 * c + 97) : Out c us (upd us j v) := fun i hi => if_ (show ¬ i = j by omega)
theorem Out.cg {c d : Nat} {us us' : Nat → Int32} (h : Out c us us') (hd : d ≠ c) : us' (97 * d) = us (97 * d) ∧ ∀ j, j < 96 → vw us' d j = vw us d j := by
  refine ⟨h _ ?_, fun j hj => h _ ?_⟩
  · rcases Nat.lt_or_gt_of_ne hd with g | g <;> omega
  · rcases Nat.lt_or_gt_of_ne hd with g | g <;> omega
theorem upd_s {f : Nat → Int32} {k : Nat} {x : Int32} : upd f k x k = x := it rfl
theorem upd_n {f : Nat → Int32} {k j : Nat} {x : Int32} (h : j ≠ k) : upd f k x j = f j := if_ h
theorem vw_upd {us : Nat → Int32} {c i : Nat} {v : Int32} {j : Nat} : vw (upd us (97 * c + 1 + i) v) c j = upd (vw us c) i v j := by
  show upd us (97 * c + 1 + i) v (97 * c + 1 + j) = _
  unfold upd
  by_cases h : j = i
  · subst h
    rw [it rfl, it rfl]
  · rw [if_ (by omega), if_ h]
theorem vw_updE {us : Nat → Int32} {c i : Nat} {v : Int32} : vw (upd us (97 * c + 1 + i) v) c = upd (vw us c) i v := funext fun _ => vw_upd
theorem Ag_upd {n : Nat} {F f : Nat → Int32} (h : Ag n F f) (i : Nat) (v : Int32) : Ag n (upd F i v) (upd f i v) := by
  intro j hj
  by_cases e : j = i
  · subst e
    rw [upd_s, upd_s]
  · rw [upd_n e, upd_n e, h j hj]
theorem Ag.cnt {n : Nat} {F f : Nat → Int32} (h : Ag n F f) (fr : Int32) : cnt n f fr = cnt n F fr := cntS_cg h fr n 0 (by omega)
theorem insS_cg {n p : Nat} {F f r : Nat → Int32} (h : Ag n F f) (hp : p ≤ n) : Ag (n + 1) (insS p F r) (insS p f r) := by
  intro j hj
  unfold insS
  by_cases h1 : j < 6 * p
  · rw [it h1, it h1, h j (by omega)]
  · rw [if_ h1, if_ h1]
    by_cases h2 : j < 6 * p + 6
    · rw [it h2, it h2]
    · rw [if_ h2, if_ h2, h (j - 6) (by omega)]
theorem delS_cg {n k : Nat} {F f : Nat → Int32} (h : Ag n F f) (hk : k < n) : Ag (n - 1) (delS k F) (delS k f) := by
  intro j hj
  unfold delS
  by_cases h1 : j < 6 * k
  · rw [it h1, it h1, h j (by omega)]
  · rw [if_ h1, if_ h1, h (j + 6) (by omega)]
theorem cTakeOut {n k : Nat} {F f : Nat → Int32} (hn : n ≤ 16) (h : Ag n F f) (hk : k < n) : ∃ f', F_X0_takeOut (nI n) f (nI k) = some (nI (n - 1), f') ∧ Ag (n - 1) (delS k F) f' := by
  unfold F_X0_takeOut
  have e1 : (nI k + 1) * 6 = nI (6 * k + 6) := by rw [nI_1, show (6 : Int32) = nI 6 from rfl, pk_mul]; congr 1; omega
  have e2 : nI n * 6 = nI (6 * n) := by rw [show (6 : Int32) = nI 6 from rfl, pk_mul]; congr 1; omega
  have e3 : nI (6 * k + 6) - 6 = nI (6 * k) := by rw [show (6 : Int32) = nI 6 from rfl, pk_sub (by omega)]; congr 1
  have e4 : nI (6 * n) - nI (6 * k + 6) = nI (6 * n - (6 * k + 6)) := pk_sub (by omega)
  rw [if_ (n_nn (by omega)), it (by rw [n_lt (by omega) (by omega)]; exact hk), e1, e2, vlet_e, e3, e4]
  rw [vgd_t ⟨n_nn (by omega), n_nn (by omega), n_nn (by omega), by rw [n_C (by omega), n_C (by omega)]; omega, by rw [n_C (by omega), n_C (by omega)]; omega⟩, vlet_e, vlet_e, n_s1 (by omega), n_C (by omega), n_C (by omega), n_C (by omega)]
  refine ⟨_, rfl, fun j hj => ?_⟩
  unfold va_cpy delS
  by_cases h1 : j < 6 * k
  · rw [if_ (by omega), it h1, h j (by omega)]
  · rw [it (by omega), if_ h1, show 6 * k + 6 + (j - 6 * k) = j + 6 by omega, h _ (by omega)]
theorem cPut0 {n k : Nat} {f : Nat → Int32} {v : Int32} (hn : n ≤ 16) (hk : k < n) : F_X0_put (nI n) f (nI k) 0 v = some (upd f (6 * k) v) := cPut (w := 0) hn hk (by omega)
theorem cPut1 {n k : Nat} {f : Nat → Int32} {v : Int32} (hn : n ≤ 16) (hk : k < n) : F_X0_put (nI n) f (nI k) 1 v = some (upd f (6 * k + 1) v) := cPut (w := 1) hn hk (by omega)
theorem cPut2 {n k : Nat} {f : Nat → Int32} {v : Int32} (hn : n ≤ 16) (hk : k < n) : F_X0_put (nI n) f (nI k) 2 v = some (upd f (6 * k + 2) v) := cPut (w := 2) hn hk (by omega)
theorem cPut3 {n k : Nat} {f : Nat → Int32} {v : Int32} (hn : n ≤ 16) (hk : k < n) : F_X0_put (nI n) f (nI k) 3 v = some (upd f (6 * k + 3) v) := cPut (w := 3) hn hk (by omega)
theorem cPut4 {n k : Nat} {f : Nat → Int32} {v : Int32} (hn : n ≤ 16) (hk : k < n) : F_X0_put (nI n) f (nI k) 4 v = some (upd f (6 * k + 4) v) := cPut (w := 4) hn hk (by omega)
theorem cPut5 {n k : Nat} {f : Nat → Int32} {v : Int32} (hn : n ≤ 16) (hk : k < n) : F_X0_put (nI n) f (nI k) 5 v = some (upd f (6 * k + 5) v) := cPut (w := 5) hn hk (by omega)
theorem cInsert {n : Nat} {F f : Nat → Int32} (hn : n < 16) (h : Ag n F f) (fr v e m s l : Int32) : ∃ f', F_X0_insert (nI n) f fr v e m s l = some (nI (cnt n F fr), nI (n + 1), f') ∧ Ag (n + 1) (insS (cnt n F fr) F (r6 fr v e m s l)) f' := by
  have hp := cnt_le (n := n) (F := F) (fr := fr)
  unfold F_X0_insert
  rw [it (show nI n < 16 from (n_lt (b := 16) (by omega) (by omega)).mpr hn), cCountUpTo (by omega), bd_s, h.cnt]
  generalize cnt n F fr = p at hp ⊢
  have e1 : nI p * 6 = nI (6 * p) := by rw [show (6 : Int32) = nI 6 from rfl, pk_mul]; congr 1; omega
  have e2 : nI (6 * p) + 6 = nI (6 * p + 6) := nI_add _ 6
  have e3 : (nI n - nI p) * 6 = nI (6 * (n - p)) := by rw [pk_sub hp, show (6 : Int32) = nI 6 from rfl, pk_mul]; congr 1; omega
  rw [e1, vlet_e, e2, e3]
  rw [vgd_t ⟨n_nn (by omega), n_nn (by omega), n_nn (by omega), by rw [n_C (by omega), n_C (by omega)]; omega, by rw [n_C (by omega), n_C (by omega)]; omega⟩, vlet_e, vlet_e, nI_1, n_C (by omega), n_C (by omega), n_C (by omega)]
  rw [cPut0 (by omega) (by omega), bd_s, cPut1 (by omega) (by omega), bd_s, cPut2 (by omega) (by omega), bd_s, cPut3 (by omega) (by omega), bd_s, cPut4 (by omega) (by omega), bd_s, cPut5 (by omega) (by omega), bd_s]
  refine ⟨_, rfl, fun j hj => ?_⟩
  unfold insS
  by_cases h1 : j < 6 * p
  · rw [it h1, upd_n (by omega), upd_n (by omega), upd_n (by omega), upd_n (by omega), upd_n (by omega), upd_n (by omega)]
    unfold va_cpy
    rw [if_ (by omega), h j (by omega)]
  · rw [if_ h1]
    by_cases h2 : j < 6 * p + 6
    · rw [it h2]
      obtain ⟨w, hw, rfl⟩ : ∃ w, w < 6 ∧ j = 6 * p + w := ⟨j - 6 * p, by omega, by omega⟩
      rw [show 6 * p + w - 6 * p = w by omega]
      rcases (by omega : w = 0 ∨ w = 1 ∨ w = 2 ∨ w = 3 ∨ w = 4 ∨ w = 5) with rfl | rfl | rfl | rfl | rfl | rfl
      · rw [upd_n (by omega), upd_n (by omega), upd_n (by omega), upd_n (by omega), upd_n (by omega)]; exact it rfl
      · rw [upd_n (by omega), upd_n (by omega), upd_n (by omega), upd_n (by omega), upd_s]; rfl
      · rw [upd_n (by omega), upd_n (by omega), upd_n (by omega), upd_s]; rfl
      · rw [upd_n (by omega), upd_n (by omega), upd_s]; rfl
      · rw [upd_n (by omega), upd_s]; rfl
      · rw [upd_s]; rfl
    · rw [if_ h2, upd_n (by omega), upd_n (by omega), upd_n (by omega), upd_n (by omega), upd_n (by omega), upd_n (by omega)]
      unfold va_cpy
      rw [it (by omega), show 6 * p + (j - (6 * p + 6)) = j - 6 by omega, h _ (by omega)]
/-! the reference's -/
theorem mGoes_19 {n c k : Nat} {us0 : Nat → Int32} (hc : c < 4) (hn : n < 16) (hk : k ≤ n) : ∀ (m N j : Nat) (us : Nat → Int32), j + m = 6 * n → 6 * k ≤ j → m < N → us (97 * c) = nI n → Out c us0 us → (∀ i, i < j → vw us c i = delS k (vw us0 c) i) → (∀ i, j ≤ i → i < 6 * n + 6 → vw us c i = vw us0 c i) → ∃ us', F_X4_goes_19 (nI c) N us (nI (97 * c + 1 + j)) = some us' ∧ us' (97 * c) = nI n ∧ Out c us0 us' ∧ ∀ i, i < 6 * n → vw us' c i = delS k (vw us0 c) i := by
  intro m
  induction m with
  | zero =>
    intro N j us hj hkj hN h0 hO h1 h2
    obtain ⟨N, rfl⟩ : ∃ z, N = z + 1 := ⟨N - 1, by omega⟩
    rw [F_X4_goes_19, mMany hc, bd_s, h0, mSpot, bd_s, it (by rw [n_le (by omega) (by omega)]; omega)]
    exact ⟨us, rfl, h0, hO, fun i hi => h1 i (by omega)⟩
  | succ m ih =>
    intro N j us hj hkj hN h0 hO h1 h2
    obtain ⟨N, rfl⟩ : ∃ z, N = z + 1 := ⟨N - 1, by omega⟩
    rw [F_X4_goes_19, mMany hc, bd_s, h0, mSpot, bd_s, if_ (by rw [n_le (by omega) (by omega)]; omega), show nI (97 * c + 1 + j) + 6 = nI (97 * c + 1 + j + 6) from nI_add _ 6, vgd_t (n_ix (by omega) (by omega)), vgd_t (n_ix (by omega) (by omega)), vlet_e, vlet_e, nI_1, n_C (by omega), n_C (by omega)]
    have e : us (97 * c + 1 + j + 6) = vw us0 c (j + 6) := h2 (j + 6) (by omega) (by omega)
    refine ih N (j + 1) _ (by omega) (by omega) (by omega) (by rw [upd_n (by omega)]; exact h0) (hO.tr (Out.up (by omega) (by omega))) (fun i hi => ?_) (fun i hi hi2 => ?_)
    · rw [vw_upd]
      by_cases q : i = j
      · subst q
        rw [upd_s, e]
        unfold delS
        rw [if_ (by omega)]
      · rw [upd_n q]
        exact h1 i (by omega)
    · rw [vw_upd, upd_n (by omega)]
      exact h2 i (by omega) hi2
theorem mGoes {n c k : Nat} {us : Nat → Int32} (hc : c < 4) (hn : us (97 * c) = nI n) (h16 : n ≤ 16) (hk : k < n) : ∃ us', F_X4_goes us (nI c) (nI k) = some us' ∧ us' (97 * c) = nI (n - 1) ∧ Out c us us' ∧ Ag (n - 1) (delS k (vw us c)) (vw us' c) := by
  unfold F_X4_goes
  rw [show (97 : Int32) = nI 97 from rfl, pk_mul, vlet_e, vgd_t (n_ix (by omega) (by omega)), vgd_t (n_ix (by omega) (by omega)), vlet_e, n_C (by omega), hn, n_s1 (by omega), mSpot, bd_s]
  obtain ⟨us', h1, h2, h3, h4⟩ := mGoes_19 (us0 := us) (n := n - 1) (k := k) hc (by omega) (by omega) (6 * (n - 1) - 6 * k) 2000 (6 * k) (upd us (97 * c) (nI (n - 1))) (by omega) (by omega) (by omega) upd_s (Out.up (by omega) (by omega)) (fun i hi => by
      show upd us (97 * c) _ (97 * c + 1 + i) = _
      rw [upd_n (by omega)]
      unfold delS
      rw [it hi]) (fun i hi _ => by
      show upd us (97 * c) _ (97 * c + 1 + i) = _
      rw [upd_n (by omega)])
  exact ⟨us', h1, h2, h3, h4⟩
theorem mComes_29 {c k : Nat} {us0 : Nat → Int32} (hc : c < 4) (hk : k < 15) (a b d : Int32) : ∀ (m N w : Nat) (us : Nat → Int32), w + m = 6 → m < N → Out c us0 us → (∀ i, i < 6 * k + 6 → vw us c i = vw us0 c i) → us (97 * c) = us0 (97 * c) → (∀ i, i < w → vw us c (6 * k + 6 + i) = vw us0 c (6 * k + i)) → (∀ i, 6 * k + 12 ≤ i → vw us c i = vw us0 c i) → ∃ us', F_X4_comes_29 (nI c) a b d (nI (k + 1)) N us (nI w) = some us' ∧ us' (97 * c) = us0 (97 * c) ∧ Out c us0 us' ∧ (∀ i, i < 6 * k + 6 → vw us' c i = vw us0 c i) ∧ (∀ i, i < 6 → vw us' c (6 * k + 6 + i) = vw us0 c (6 * k + i)) ∧ (∀ i, 6 * k + 12 ≤ i → vw us' c i = vw us0 c i) := by
  intro m
  induction m with
  | zero =>
    intro N w us hw hN hO h1 h0 h2 h3
    obtain ⟨N, rfl⟩ : ∃ z, N = z + 1 := ⟨N - 1, by omega⟩
    rw [F_X4_comes_29, it (show (6 : Int32) ≤ nI w from (n_le (a := 6) (by omega) (by omega)).mpr (by omega))]
    exact ⟨us, rfl, h0, hO, h1, fun i hi => h2 i (by omega), h3⟩
  | succ m ih =>
    intro N w us hw hN hO h1 h0 h2 h3
    obtain ⟨N, rfl⟩ : ∃ z, N = z + 1 := ⟨N - 1, by omega⟩
    rw [F_X4_comes_29, if_ (show ¬ (6 : Int32) ≤ nI w from fun h => absurd ((n_le (a := 6) (by omega) (by omega)).mp h) (by omega)), mSpot, bd_s, n_s1 (by omega), show k + 1 - 1 = k from rfl, mOf hc (by omega) (by omega), bd_s, nI_add, vgd_t (n_ix (by omega) (by omega)), vlet_e, vlet_e, nI_1, n_C (by omega), h1 _ (by omega), show 97 * c + 1 + 6 * (k + 1) + w = 97 * c + 1 + (6 * k + 6 + w) by omega]
    refine ih N (w + 1) _ (by omega) (by omega) (hO.tr (Out.up (by omega) (by omega))) (fun i hi => ?_) (by rw [upd_n (by omega)]; exact h0) (fun i hi => ?_) (fun i hi => ?_)
    · rw [vw_upd, upd_n (by omega)]
      exact h1 i hi
    · rw [vw_upd]
      by_cases q : i = w
      · subst q
        rw [upd_s]
      · rw [upd_n (by omega)]
        exact h2 i (by omega)
    · rw [vw_upd, upd_n (by omega)]
      exact h3 i hi

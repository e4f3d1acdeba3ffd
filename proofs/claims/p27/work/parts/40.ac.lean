/-! ===== a turn of the law's ===== -/
section Acts3
variable {an af av ae aw : Nat → Int32} {bd : Nat → Nat → Nat} {sc : Int32} {cn : Nat → Int32} {cf : Nat → Nat → Int32} {sn : Nat → Nat → Int32} {sf : Nat → Nat → Nat → Int32} {c m k : Nat}
theorem A_188 (h : Ls an af av ae aw sc cn cf) (hc : c < 2) {r : Nat} (hr : r < 100000) {v : Int32} (hv : -9999 ≤ v.toInt ∧ v.toInt ≤ 9999) : Ok (F_L_acts_188 an af av ae aw bd sc cn cf sn sf (nI c) (nI r) v) := by
  have d2 : nI r / 2 = nI (r / 2) := pk_div (d := 2) (by omega) (by omega) (by omega)
  have e1 : nI (r / 2) - nI (r / 2) / 1000 * 1000 = nI (r / 2 % 1000) := pk_rem (d := 1000) (by omega) (by omega) (by omega)
  have e2 : nI (r / 2) - nI (r / 2) / 60 * 60 = nI (r / 2 % 60) := pk_rem (d := 60) (by omega) (by omega) (by omega)
  have t1 := n_T (n := r / 2 % 1000) (by omega)
  have t2 := n_T (n := r / 2 % 60) (by omega)
  unfold F_L_acts_188
  by_cases g : nI r - nI r / 2 * 2 = 0
  · rw [it g, d2, e1]
    exact A_add h hc hr (by omega) hv
  · rw [if_ g, d2, e2]
    exact A_add h hc hr (by omega) hv
theorem A_692 (h : Ls an af av ae aw sc cn cf) (hc : c < 2) (hL : Lc an af av ae aw cn cf c m) {l : Int32} (hk : Kl m (cf c) k l) {r : Nat} (hr : r < 100000) : Ok (F_L_acts_692 an af av ae aw bd sc cn cf sn sf (nI c) (nI r) (nI k) (nI (8 * c + k)) l) := by
  have e1 : nI r * 2 = nI (r * 2) := pk_mul r 2
  have e2 : nI r - nI r / 4001 * 4001 = nI (r % 4001) := pk_rem (d := 4001) (by omega) (by omega) (by omega)
  have t1 := n_T (n := r * 2) (by omega)
  have t2 := n_T (n := r % 4001) (by omega)
  have z1 : (99999 : Int32).toInt = 99999 := rfl
  have z2 : (2000 : Int32).toInt = 2000 := rfl
  have s1 := fb_subI (x := nI (r * 2)) (y := 99999) (by omega) (by omega)
  have s2 := fb_subI (x := nI (r % 4001)) (y := 2000) (by omega) (by omega)
  unfold F_L_acts_692
  by_cases g : nI r - nI r / 5 * 5 = 0
  · rw [it g, e1]
    exact A_lean h hc hL hk hr (by omega)
  · rw [if_ g, e2]
    exact A_lean h hc hL hk hr (by omega)
theorem A_1129 (h : Ls an af av ae aw sc cn cf) (hc : c < 2) {r : Nat} (hr : r < 100000) : Ok (F_L_acts_1129 an af av ae aw bd sc cn cf sn sf (nI c) (nI r)) := by
  have e1 : nI r - nI r / 41 * 41 = nI (r % 41) := pk_rem (d := 41) (by omega) (by omega) (by omega)
  have t1 := n_T (n := r % 41) (by omega)
  have z1 : (20 : Int32).toInt = 20 := rfl
  have s1 := fb_subI (x := nI (r % 41)) (y := 20) (by omega) (by omega)
  unfold F_L_acts_1129
  by_cases g : nI r - nI r / 2 * 2 = 0
  · rw [it g, e1]
    exact A_copy h hc hr (by omega)
  · rw [if_ g]
    exact A_copy h hc hr (by decide)
theorem A_109 (h : Ls an af av ae aw sc cn cf) (hc : c < 2) (hL : Lc an af av ae aw cn cf c m) {l : Int32} (hk : Kl m (cf c) k l) {r : Nat} (hr : r < 100000) {v : Int32} (hv : -9999 ≤ v.toInt ∧ v.toInt ≤ 9999) (z : Int32) : Ok (F_L_acts_109 an af av ae aw bd sc cn cf sn sf z (nI c) (nI r) (nI k) (nI (8 * c + k)) l v) := by
  obtain ⟨j, hj, e⟩ := lLow z (n := 16) (by omega) (by omega)
  unfold F_L_acts_109
  rw [show F_L_low z 16 = some (nI j) from e, bd_s]
  have a1 := A_188 (bd := bd) (sn := sn) (sf := sf) h hc hr hv
  have a5 := A_drop (bd := bd) (sn := sn) (sf := sf) h hc hL hk
  have a6 := A_set (bd := bd) (sn := sn) (sf := sf) h hc hL hk hr hv
  have a8 := A_move (bd := bd) (sn := sn) (sf := sf) h hc hL hk hr
  have a9 := A_692 (bd := bd) (sn := sn) (sf := sf) h hc hL hk hr
  have a11 := A_lock (bd := bd) (sn := sn) (sf := sf) h hc hL hk (nI r)
  have a12 := A_str (bd := bd) (sn := sn) (sf := sf) h hc hr
  have a14 := A_1129 (bd := bd) (sn := sn) (sf := sf) h hc hr
  have st : ∀ {q : Int32} {A B : Option (Int32 × (Nat → Int32) × (Nat → Int32) × (Nat → Int32) × (Nat → Int32) × (Nat → Int32) × (Nat → Nat → Nat) × Int32 × (Nat → Int32) × (Nat → Nat → Int32) × (Nat → Nat → Int32) × (Nat → Nat → Nat → Int32))}, Ok A → Ok B → Ok (if nI j = q then A else B) := by
    intro q A B hA hB
    by_cases g : nI j = q
    · rw [it g]; exact hA
    · rw [if_ g]; exact hB
  exact st a1 (st a1 (st a1 (st a1 (st a1 (st a5 (st a6 (st a6 (st a8 (st a9 (st a9 (st a11 (st a12 (st a12 a14)))))))))))))
theorem A_75 (h : Ls an af av ae aw sc cn cf) (hc : c < 2) (hL : Lc an af av ae aw cn cf c m) {l : Int32} (hk : Kl m (cf c) k l) {r : Nat} (hr : r < 100000) (z : Int32) : Ok (F_L_acts_75 an af av ae aw bd sc cn cf sn sf z (nI c) (nI r) (nI k) (nI (8 * c + k)) l) := by
  have d3 : nI r / 3 = nI (r / 3) := pk_div (d := 3) (by omega) (by omega) (by omega)
  have e1 : nI (r / 3) - nI (r / 3) / 19999 * 19999 = nI (r / 3 % 19999) := pk_rem (d := 19999) (by omega) (by omega) (by omega)
  have e2 : nI (r / 3) - nI (r / 3) / 60 * 60 = nI (r / 3 % 60) := pk_rem (d := 60) (by omega) (by omega) (by omega)
  have t1 := n_T (n := r / 3 % 19999) (by omega)
  have t2 := n_T (n := r / 3 % 60) (by omega)
  have z1 : (9999 : Int32).toInt = 9999 := rfl
  have z2 : (20 : Int32).toInt = 20 := rfl
  have s1 := fb_subI (x := nI (r / 3 % 19999)) (y := 9999) (by omega) (by omega)
  have s2 := fb_subI (x := nI (r / 3 % 60)) (y := 20) (by omega) (by omega)
  unfold F_L_acts_75
  by_cases g : nI r - nI r / 3 * 3 = 0
  · rw [it g, d3, e1]
    exact A_109 h hc hL hk hr (by omega) z
  · rw [if_ g, d3, e2]
    exact A_109 h hc hL hk hr (by omega) z
theorem A_39 (h : Ls an af av ae aw sc cn cf) (hc : c < 2) (hL : Lc an af av ae aw cn cf c m) (hk : m = 0 ∧ k = 0 ∨ k < m) {r : Nat} (hr : r < 100000) (z : Int32) : Ok (F_L_acts_39 an af av ae aw bd sc cn cf sn sf z (nI c) (nI r) (nI k)) := by
  obtain ⟨hm, han, hcn, hC, hq⟩ := id hL
  unfold F_L_acts_39 F_L_acts_74
  rw [e8, vlet_e, vgd_t (v2 hc), n_C (n := c) (by omega), han]
  rcases hk with ⟨h0, hk⟩ | hk
  · rw [it (show nI m ≤ 0 from (n_le (b := 0) (by omega) (by omega)).mpr (by omega))]
    exact A_75 h hc hL (Or.inl ⟨h0, hk, rfl⟩) hr z
  · have a3 := hq.2.2.1 k hk
    rw [if_ (show ¬ nI m ≤ 0 from fun q => by have := (n_le (b := 0) (by omega) (by omega)).mp q; omega), vgd_t (v16 (by omega)), n_C (n := 8 * c + k) (by omega), a3, (eN_s hC hk).2.2.1]
    by_cases g : cf c (6 * k + 5) = 1
    · rw [it g]
      exact A_75 h hc hL (Or.inr (Or.inl ⟨hk, g, rfl⟩)) hr z
    · rw [if_ g]
      exact A_75 h hc hL (Or.inr (Or.inr ⟨hk, g, rfl⟩)) hr z
theorem A_acts (h : Ls an af av ae aw sc cn cf) (z : Int32) : Ok (F_L_acts an af av ae aw bd sc cn cf sn sf z) := by
  unfold F_L_acts
  obtain ⟨c, hc, e1⟩ := lLow (z >>> (4 &&& 31)) (n := 2) (by omega) (by omega)
  obtain ⟨r, hr, e2⟩ := lLow (z >>> (5 &&& 31)) (n := 100000) (by omega) (by omega)
  rw [show F_L_low (z >>> (4 &&& 31)) 2 = some (nI c) from e1, bd_s, show F_L_low (z >>> (5 &&& 31)) 100000 = some (nI r) from e2, bd_s]
  obtain ⟨m, hL⟩ := h.1 c hc
  have hm := hL.1
  rw [vgd_t (v2 hc), n_C (n := c) (by omega), hL.2.1]
  by_cases h0 : m = 0
  · rw [it (show nI m = 0 by rw [h0]; rfl)]
    exact A_39 (k := 0) h hc hL (Or.inl ⟨h0, rfl⟩) hr z
  · have hm0 : ¬ nI m = 0 := fun q => h0 ((n_eq (b := 0) (by omega) (by omega)).mp q)
    rw [if_ hm0, vgd_t (v2 hc), vgd_t hm0, pk_rem (by omega) (by omega) (by omega)]
    exact A_39 h hc hL (Or.inr (Nat.mod_lt _ (by omega))) hr z
end Acts3

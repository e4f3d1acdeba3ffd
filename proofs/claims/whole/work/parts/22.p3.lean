/-! ===== the reference's value; whole rows of values ===== -/
theorem mSegL {n c : Nat} {us : Nat → Int32} (hc : c < 4) (hC : Cv n (vw us c)) {a : Nat} (ha : a + 1 = n) (fr : Int32) : F_X4_valueAt_62 us (nI c) fr (nI (n - 1)) (nI a) = some (vw us c (6 * a + 1)) := by
  have h16 := hC.1
  unfold F_X4_valueAt_62
  rw [mOf1 hc (by omega), bd_s, it (by rw [n_eq (by omega) (by omega)]; omega)]
theorem mSeg {n c : Nat} {us : Nat → Int32} (hc : c < 4) (hn : us (97 * c) = nI n) (hC : Cv n (vw us c)) {a : Nat} (ha : a + 1 < n) (fr : Int32) : F_X4_valueAt_62 us (nI c) fr (nI (n - 1)) (nI a) = some (segS n (vw us c) a fr) := by
  have h16 := hC.1
  obtain ⟨hpos, -⟩ := frame_pos hC (j := a) (k := a + 1) (by omega) (by omega)
  have hne : ¬ (vw us c (6 * (a + 1)) - vw us c (6 * a)).toInt64 = 0 := by
    intro e
    rw [fa_eq64, Int32.toInt_toInt64] at e
    rw [fa_lt] at hpos
    rw [e] at hpos
    exact absurd hpos (by decide)
  unfold F_X4_valueAt_62 segS
  rw [mOf1 hc (by omega), bd_s, if_ (by rw [n_eq (by omega) (by omega)]; omega), nI_1, mOf0 hc (by omega), bd_s, mOf0 hc (by omega), bd_s, vlet_e, bd_s, vgd_t hne, vlet_e, mOf1 hc (by omega), bd_s, vlet_e, mOf2 hc (by omega), bd_s, mTangent hc hn hC (by omega), mTangent hc hn hC (by omega)]
  simp only [vlet_e, bd_s]
  by_cases e0 : vw us c (6 * a + 2) = 0
  · rw [it e0, it e0]
  · rw [if_ e0, if_ e0]
    by_cases e1 : vw us c (6 * a + 2) = 1
    · rw [it e1, it e1]
    · rw [if_ e1, if_ e1]
      by_cases e2 : vw us c (6 * a + 2) = 2
      · rw [it e2, it e2]
      · rw [if_ e2, if_ e2]
        by_cases e3 : vw us c (6 * a + 2) = 3
        · rw [it e3, it e3]
        · rw [if_ e3, if_ e3]
          by_cases e4 : vw us c (6 * a + 2) = 4
          · rw [it e4, it e4]
          · rw [if_ e4, if_ e4]
theorem mValueAt_36 {n c : Nat} {us : Nat → Int32} (hc : c < 4) (hn : us (97 * c) = nI n) (hC : Cv n (vw us c)) (fr : Int32) : ∀ (m N a : Nat), a + 1 + m = n → m < N → (∀ k, k < a + 1 → vw us c (6 * k) ≤ fr) → F_X4_valueAt_36 us (nI c) fr (nI (n - 1)) N (nI a) = some (valS n (vw us c) fr) := by
  have h16 := hC.1
  intro m
  induction m with
  | zero =>
    intro N a hi hN hk
    obtain ⟨N, rfl⟩ : ∃ z, N = z + 1 := ⟨N - 1, by omega⟩
    have e : cnt n (vw us c) fr = a + 1 := cnt_uq (by omega) hk (fun h => absurd h (by omega))
    rw [F_X4_valueAt_36, it (by rw [n_le (by omega) (by omega)]; omega), mSegL hc hC (by omega)]
    unfold valS
    rw [e]
    dsimp only
    rw [it (show a + 1 = n by omega)]
  | succ m ih =>
    intro N a hi hN hk
    obtain ⟨N, rfl⟩ : ∃ z, N = z + 1 := ⟨N - 1, by omega⟩
    rw [F_X4_valueAt_36, if_ (by rw [n_le (by omega) (by omega)]; omega), nI_1, mOf0 hc (by omega), bd_s]
    by_cases h : fr < vw us c (6 * (a + 1))
    · have e : cnt n (vw us c) fr = a + 1 := cnt_uq (by omega) hk (fun _ => h)
      rw [it h, mSeg hc hn hC (by omega)]
      unfold valS
      rw [e]
      dsimp only
      rw [if_ (show ¬ a + 1 = n by omega)]
    · rw [if_ h, vlet_e]
      refine ih N (a + 1) (by omega) (by omega) (fun k hk2 => ?_)
      rcases Nat.lt_or_ge k (a + 1) with g | g
      · exact hk k g
      · have : k = a + 1 := by omega
        subst this
        rw [fa_lt] at h
        rw [fa_le]
        omega
theorem mValueAt {n c : Nat} {us : Nat → Int32} (hc : c < 4) (hn : us (97 * c) = nI n) (hC : Cv n (vw us c)) (fr : Int32) : F_X4_valueAt us (nI c) fr = some (valS n (vw us c) fr) := by
  have h16 := hC.1
  unfold F_X4_valueAt
  rw [mMany hc, bd_s, vlet_e, hn]
  by_cases h0 : n = 0
  · subst h0
    rw [if_ (show ¬ (0 : Int32) ≤ nI 0 - 1 from by decide)]
    unfold valS
    rw [show cnt 0 (vw us c) fr = 0 from rfl]
    dsimp only
    rw [it rfl]
  · rw [n_s1 (by omega), it (show (0 : Int32) ≤ nI (n - 1) from by rw [show (0 : Int32) = nI 0 from rfl, n_le (by omega) (by omega)]; omega)]
    rw [show (0 : Int32) = nI 0 from rfl, show F_X4_of us (nI c) (nI 0) (nI 0) = some (vw us c (6 * 0)) from mOf0 (k := 0) hc (by omega), bd_s]
    by_cases h : vw us c (6 * 0) ≤ fr
    · rw [it h]
      refine mValueAt_36 hc hn hC fr (n - 1) 2000 0 (by omega) (by omega) (fun k hk => ?_)
      have : k = 0 := by omega
      subst this
      exact h
    · rw [if_ h, show F_X4_of us (nI c) (nI 0) 1 = some (vw us c (6 * 0 + 1)) from mOf1 (k := 0) hc (by omega), bd_s]
      have e : cnt n (vw us c) fr = 0 := cnt_uq (by omega) (fun k hk => absurd hk (by omega)) (fun _ => by rw [fa_le] at h; rw [fa_lt]; omega)
      unfold valS
      rw [e]
      dsimp only
      rw [if_ h0]
/-- what the class's row step takes -/
theorem cVB {n : Nat} {F : Nat → Int32} (hC : Cv n F) {fr : Int32} (h0 : 0 ≤ fr.toInt) (h9 : fr.toInt ≤ 999) {L : Nat} (hL : cnt n F fr = L) : F_X0_valueBehind (nI n) F (nI L - 1) fr = some (valS n F fr) := by
  have e := cValueAt hC h0 h9
  unfold F_X0_valueAt at e
  rw [cCountUpTo hC.1, bd_s, hL] at e
  obtain ⟨x, hx, e2⟩ := q_bd e
  rw [hx, ← e2]
/-- a row of values from a on, below b -/
def bk (n : Nat) (F rv : Nat → Int32) (a b : Nat) : Nat → Int32 := fun j => if a ≤ j ∧ j < b then valS n F (nI j) else rv j
theorem bk_0 (n : Nat) (F rv : Nat → Int32) (a : Nat) : bk n F rv a a = rv := by
  funext j
  exact if_ (by omega)
theorem bk_s {n : Nat} {F rv : Nat → Int32} {a b : Nat} (h : a ≤ b) : upd (bk n F rv a b) b (valS n F (nI b)) = bk n F rv a (b + 1) := by
  funext j
  unfold upd bk
  by_cases hj : j = b
  · subst hj
    rw [it rfl, it (by omega)]
  · rw [if_ hj]
    by_cases g : a ≤ j ∧ j < b
    · rw [it g, it (by omega)]
    · rw [if_ g, if_ (by omega)]
theorem bk_in {n : Nat} {F rv : Nat → Int32} {a b j : Nat} (h : a ≤ j) (h2 : j < b) : bk n F rv a b j = valS n F (nI j) := it ⟨h, h2⟩
theorem sub1add1 (x : Int32) : x - 1 + 1 = x := Int32.sub_add_cancel x 1
theorem cBake_23 {n : Nat} {F rv : Nat → Int32} (hC : Cv n F) {a b : Nat} (hb : b < 1000) : ∀ (m N L f : Nat), f + m = b + 1 → a ≤ f → m < N → L ≤ n → (∀ k, k < L → F (6 * k) ≤ nI f) → (L + 1 < n → nI f < F (6 * (L + 1))) → F_X0_bake_23 (nI n) F (nI b) N (bk n F rv a f) (nI L - 1) (nI f) = some (bk n F rv a (b + 1)) := by
  have h16 := hC.1
  intro m
  induction m with
  | zero =>
    intro N L f hi haf hN hL h1 h2
    obtain ⟨N, rfl⟩ : ∃ z, N = z + 1 := ⟨N - 1, by omega⟩
    rw [F_X0_bake_23, it (by rw [n_lt (by omega) (by omega)]; omega), show f = b + 1 by omega]
  | succ m ih =>
    intro N L f hi haf hN hL h1 h2
    obtain ⟨N, rfl⟩ : ∃ z, N = z + 1 := ⟨N - 1, by omega⟩
    have t0 : 0 ≤ (nI f).toInt := by rw [n_T (by omega)]; omega
    have t9 : (nI f).toInt ≤ 999 := by rw [n_T (by omega)]; omega
    have tf := n_T (n := f) (by omega)
    have tf1 := n_T (n := f + 1) (by omega)
    have up : ∀ k, k < n → F (6 * k) ≤ nI f → F (6 * k) ≤ nI (f + 1) := by
      intro k hk h
      rw [fa_le] at h ⊢
      omega
    have nx : ∀ k, k + 1 < n → nI f < F (6 * k) → nI (f + 1) < F (6 * (k + 1)) := by
      intro k hk h
      have := hC.2.2 k (k + 1) (by omega) hk
      rw [fa_lt] at h ⊢
      omega
    rw [F_X0_bake_23, if_ (by rw [n_lt (by omega) (by omega)]; omega), sub1add1]
    by_cases g : n ≤ L
    · have e : cnt n F (nI f) = L := cnt_uq hL h1 (fun h => absurd h (by omega))
      rw [it (by rw [n_le (by omega) (by omega)]; exact g), cVB hC t0 t9 e, bd_s, vgd_t (n_ix (by omega) (by omega)), vlet_e, vlet_e, n_C (by omega), bk_s haf, nI_1]
      exact ih N L (f + 1) (by omega) (by omega) (by omega) hL (fun k hk => up k (by omega) (h1 k hk)) (fun h => absurd h (by omega))
    · rw [if_ (by rw [n_le (by omega) (by omega)]; exact g), cCell0 h16 (by omega), bd_s]
      by_cases g2 : nI f < F (6 * L)
      · have e : cnt n F (nI f) = L := cnt_uq hL h1 (fun _ => g2)
        rw [it g2, cVB hC t0 t9 e, bd_s, vgd_t (n_ix (by omega) (by omega)), vlet_e, vlet_e, n_C (by omega), bk_s haf, nI_1]
        exact ih N L (f + 1) (by omega) (by omega) (by omega) hL (fun k hk => up k (by omega) (h1 k hk)) (fun h => nx L h g2)
      · have hL1 : ∀ k, k < L + 1 → F (6 * k) ≤ nI f := by
          intro k hk
          rcases Nat.lt_or_ge k L with q | q
          · exact h1 k q
          · have : k = L := by omega
            subst this
            rw [fa_lt] at g2
            rw [fa_le]
            omega
        have e : cnt n F (nI f) = L + 1 := cnt_uq (by omega) hL1 h2
        rw [if_ g2, vlet_e, show nI L = nI (L + 1) - 1 from by rw [n_s1 (by omega)]; rfl, cVB hC t0 t9 e, bd_s, vgd_t (n_ix (by omega) (by omega)), vlet_e, vlet_e, n_C (by omega), bk_s haf, nI_1]
        exact ih N (L + 1) (f + 1) (by omega) (by omega) (by omega) (by omega) (fun k hk => up k (by omega) (hL1 k hk)) (fun h => nx (L + 1) h (h2 (by omega)))
theorem cBake {n : Nat} {F rv : Nat → Int32} (hC : Cv n F) {a b : Nat} (hab : a ≤ b + 1) (hb : b < 1000) : F_X0_bake (nI n) F rv (nI a) (nI b) = some (bk n F rv a (b + 1)) := by
  unfold F_X0_bake
  rw [if_ (n_nn (by omega)), it (show nI b < 1000 from (n_lt (b := 1000) (by omega) (by omega)).mpr hb), cCountUpTo hC.1, bd_s, vlet_e]
  obtain ⟨-, -, h3, h4⟩ := cntS_spec F (nI a) n 0
  have h5 := cnt_le (n := n) (F := F) (fr := nI a)
  have := cBake_23 (rv := rv) hC (a := a) hb (b + 1 - a) 2000 (cnt n F (nI a)) a (by omega) (by omega) (by omega) h5 (fun k hk => h3 k (Nat.zero_le _) hk) (fun h => by
    have h6 := h4 (by show cnt n F (nI a) < 0 + n; omega)
    have h7 := hC.2.2 (cnt n F (nI a)) (cnt n F (nI a) + 1) (by omega) h
    rw [fa_lt] at h6 ⊢
    exact Int.lt_trans h6 h7)
  rw [bk_0] at this
  exact this
theorem bk_cg {n : Nat} {F f : Nat → Int32} (h : Ag n F f) (rv : Nat → Int32) (a b : Nat) : bk n f rv a b = bk n F rv a b := by
  funext j
  unfold bk
  rw [valS_cg h]
theorem mBakes_2 {n c : Nat} {us ub : Nat → Int32} (hc : c < 4) (hn : us (97 * c) = nI n) (hC : Cv n (vw us c)) : ∀ (m N f : Nat), f + m = 1000 → m < N → F_X4_bakes_2 us (nI c) N (bk n (vw us c) ub 0 f) (nI f) = some (bk n (vw us c) ub 0 1000) := by
  intro m
  induction m with
  | zero =>
    intro N f hi hN
    obtain ⟨N, rfl⟩ : ∃ z, N = z + 1 := ⟨N - 1, by omega⟩
    rw [F_X4_bakes_2, it (show (999 : Int32) < nI f from (n_lt (a := 999) (by omega) (by omega)).mpr (by omega)), show f = 1000 by omega]
  | succ m ih =>
    intro N f hi hN
    obtain ⟨N, rfl⟩ : ∃ z, N = z + 1 := ⟨N - 1, by omega⟩
    rw [F_X4_bakes_2, if_ (show ¬ (999 : Int32) < nI f from fun h => absurd ((n_lt (a := 999) (by omega) (by omega)).mp h) (by omega)), mValueAt hc hn hC, bd_s, vgd_t (n_ix (by omega) (by omega)), vlet_e, vlet_e, n_C (by omega), bk_s (Nat.zero_le _), nI_1]
    exact ih N (f + 1) (by omega) (by omega)
theorem mBakes {n c : Nat} {us ub : Nat → Int32} (hc : c < 4) (hn : us (97 * c) = nI n) (hC : Cv n (vw us c)) : F_X4_bakes us ub (nI c) = some (bk n (vw us c) ub 0 1000) := by
  have := mBakes_2 (ub := ub) hc hn hC 1000 2000 0 (by omega) (by omega)
  rw [bk_0] at this
  exact this

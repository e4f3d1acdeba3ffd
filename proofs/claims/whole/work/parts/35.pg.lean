/-! ===== text, undo, digest ===== -/
theorem nar_b : ∀ k, k < 128 → vp_nar .byte ((nI k).toInt8.toInt32) = nI k := by decide +kernel
theorem R_append {uy tl uw : Int32} {ut tb : Nat → Int32} (hT : Tx uy tl ut tb) (p1 : Int32) : (∃ t t', (t = 2 ∧ t' = 1 ∨ t = 3 ∧ t' = 2) ∧ F_X3_append tl tb p1 = some (.inl t) ∧ F_X4_append uy uw ut p1 = some (0, uy, nI t', ut)) ∨ (∃ a tl' tb' uy' ut', F_X3_append tl tb p1 = some (.inr (a, tl', tb')) ∧ F_X4_append uy uw ut p1 = some (a, uy', 0, ut') ∧ Tx uy' tl' ut' tb') := by
  obtain ⟨T, hT1, rfl, rfl, hT2⟩ := hT
  unfold F_X3_append F_X4_append F_X1_add
  simp only [u_rfl, t_rfl, bd_s]
  rcases (kRange p1 0 127).symm with ⟨-, e1, e2⟩ | ⟨f1, f2, e1, e2⟩
  · rw [e1, e2, thr_l, bd_s, it rfl]
    exact Or.inl ⟨2, 1, Or.inl ⟨rfl, rfl⟩, rfl, rfl⟩
  rw [e1, e2, thr_r, bd_s, if_ (show ¬ (1 : Int32) = 0 by decide)]
  rw [show (127 : Int32).toInt = 127 from rfl] at f2
  obtain ⟨k, hk, rfl⟩ := n_of' (x := p1) (n := 128) f1 (by omega)
  by_cases h : T = 150
  · subst h
    rw [if_ (show ¬ nI 150 < 150 by decide), it (show nI 150 = 150 from rfl)]
    exact Or.inl ⟨3, 2, Or.inr ⟨rfl, rfl⟩, rfl, rfl⟩
  rw [it (show nI T < 150 from (n_lt (b := 150) (by omega) (by omega)).mpr (by omega)), if_ (show ¬ nI T = 150 from fun q => h ((n_eq (b := 150) (by omega) (by omega)).mp q)), if_ (show ¬ (150 : Int32) ≤ nI T from fun q => absurd ((n_le (a := 150) (by omega) (by omega)).mp q) (by omega)), vgd_t (n_ix (by omega) (by omega)), vgd_t (n_ix (by omega) (by omega)), nar_b k hk]
  simp only [vlet_e, nI_1, bd_s]
  rw [n_C (by omega)]
  refine Or.inr ⟨_, _, _, _, _, rfl, rfl, T + 1, by omega, rfl, rfl, fun j hj => ?_⟩
  by_cases q : j = T
  · subst q
    rw [upd_s, upd_s]
    exact ⟨rfl, f1, f2⟩
  · rw [upd_n q, upd_n q]
    exact hT2 j (by omega)
theorem R_clearText {uy tl uw : Int32} {ut tb : Nat → Int32} (hT : Tx uy tl ut tb) : ∃ a tl' uy', F_X3_clearText tl = some (a, tl') ∧ F_X4_clearText uy uw = some (a, uy', 0) ∧ Tx uy' tl' ut tb := by
  obtain ⟨T, hT1, rfl, rfl, hT2⟩ := hT
  exact ⟨_, _, _, rfl, rfl, 0, by omega, rfl, rfl, fun j hj => absurd hj (by omega)⟩
theorem mUndo_25 {S : Nat} {up : Nat → Int32} {uw : Int32} (hS : S < 4) : ∀ (m N k : Nat) (us : Nat → Int32), k + m = 388 → m < N → (∀ j, j < k → us j = up (388 * S + j)) → ∃ us', F_X4_undo_25 (nI S) uw up N us (nI k) = some (nI S, nI S, 0, us') ∧ ∀ j, j < 388 → us' j = ps up S j := by
  intro m
  induction m with
  | zero =>
    intro N k us hk hN h
    obtain ⟨N, rfl⟩ : ∃ z, N = z + 1 := ⟨N - 1, by omega⟩
    rw [F_X4_undo_25, it (show (388 : Int32) ≤ nI k from (n_le (a := 388) (by omega) (by omega)).mpr (by omega))]
    exact ⟨us, rfl, fun j hj => h j (by omega)⟩
  | succ m ih =>
    intro N k us hk hN h
    obtain ⟨N, rfl⟩ : ∃ z, N = z + 1 := ⟨N - 1, by omega⟩
    rw [F_X4_undo_25, if_ (show ¬ (388 : Int32) ≤ nI k from fun h => absurd ((n_le (a := 388) (by omega) (by omega)).mp h) (by omega)), show (388 : Int32) * nI S = nI (388 * S) from pk_mul 388 S, nI_add, vgd_t (n_ix (by omega) (by omega)), vgd_t (n_ix (by omega) (by omega)), vlet_e, vlet_e, nI_1, n_C (by omega), n_C (by omega)]
    refine ih N (k + 1) _ (by omega) (by omega) (fun j hj => ?_)
    by_cases q : j = k
    · subst q
      exact upd_s
    · rw [upd_n q]
      exact h j (by omega)
theorem R_undo {un sc uw : Int32} {up us cn : Nat → Int32} {cf : Nat → Nat → Int32} {sn : Nat → Nat → Int32} {sf : Nat → Nat → Nat → Int32} (hS : St un sc up sn sf) : (∃ t t', (t = 3 ∧ t' = 1) ∧ F_X3_undo sc cn cf sn sf = some (.inl t) ∧ F_X4_undo un uw us up = some (0, un, nI t', us)) ∨ (∃ a sc' cn' cf' un' us', F_X3_undo sc cn cf sn sf = some (.inr (a, sc', cn', cf')) ∧ F_X4_undo un uw us up = some (a, un', 0, us') ∧ St un' sc' up sn sf ∧ Rs us' cn' cf') := by
  obtain ⟨S, hS4, rfl, rfl, hs⟩ := hS
  unfold F_X3_undo F_X4_undo
  simp only [u_rfl, bd_s]
  by_cases h : S = 0
  · subst h
    rw [if_ (show ¬ (0 : Int32) < nI 0 by decide), it (show nI 0 = 0 from rfl)]
    exact Or.inl ⟨3, 1, ⟨rfl, rfl⟩, rfl, rfl⟩
  obtain ⟨b0, g0, b1, g1, b2, g2, b3, g3, e, hr⟩ := cBecomeS4 (hs (S - 1) (by omega)) (cn 0) (cf 0) (cn 1) (cf 1) (cn 2) (cf 2) (cn 3) (cf 3)
  obtain ⟨us', e2, e3⟩ := mUndo_25 (S := S - 1) (up := up) (uw := uw) (by omega) 388 2000 0 us (by omega) (by omega) (fun j hj => absurd hj (by omega))
  rw [it (show (0 : Int32) < nI S from (n_lt (a := 0) (by omega) (by omega)).mpr (by omega)), if_ (show ¬ nI S = 0 from fun q => h ((n_eq (b := 0) (by omega) (by omega)).mp q)), n_s1 (by omega), vlet_e, vlet_e, vgd_t (n_ix (by omega) (by omega)), vlet_e, n_C (by omega), e, bd_s, vlet_e, vlet_e]
  rw [show nI 0 = 0 from rfl] at e2
  exact Or.inr ⟨_, _, _, _, _, _, rfl, e2, ⟨S - 1, by omega, rfl, rfl, fun s q => hs s (by omega)⟩, hr.cg e3⟩
/-! digest -/
def dgL (g : Nat → Int32) : Nat → Nat → Int64 → Int64
  | 0, _, h => h
  | m + 1, j, h => dgL g m (j + 1) (31 * h + (g j).toInt64)
theorem dgL_s (g : Nat → Int32) (m j : Nat) (h : Int64) : dgL g (m + 1) j h = dgL g m (j + 1) (31 * h + (g j).toInt64) := rfl
theorem dgL_a (g : Nat → Int32) (b : Nat) : ∀ (a j : Nat) (h : Int64), dgL g (a + b) j h = dgL g b (j + a) (dgL g a j h) := by
  intro a
  induction a with
  | zero => intro j h; rw [Nat.zero_add]; rfl
  | succ a ih =>
    intro j h
    rw [show a + 1 + b = a + b + 1 by omega, dgL_s, dgL_s, ih, show j + 1 + a = j + (a + 1) by omega]
abbrev gK (n : Nat) (F : Nat → Int32) (j : Nat) : Int32 := abS n F (j / 7) (j % 7)
theorem cDg_27 {us cn : Nat → Int32} {cf : Nat → Nat → Int32} {c n k : Nat} (hc : c < 4) (h : Rc us cn cf c n) (hk : k < n) : ∀ (m N w : Nat) (s : Int64), w + m = 7 → m < N → F_X3_digestOfCurve_27 (cn c) (cf c) (nI k) N s (nI w) = some (dgL (gK n (vw us c)) m (7 * k + w) s) := by
  intro m
  induction m with
  | zero =>
    intro N w s hw hN
    obtain ⟨N, rfl⟩ : ∃ z, N = z + 1 := ⟨N - 1, by omega⟩
    rw [F_X3_digestOfCurve_27, it (show (6 : Int32) < nI w from (n_lt (a := 6) (by omega) (by omega)).mpr (by omega))]
    rfl
  | succ m ih =>
    intro N w s hw hN
    obtain ⟨N, rfl⟩ : ∃ z, N = z + 1 := ⟨N - 1, by omega⟩
    rw [F_X3_digestOfCurve_27, if_ (show ¬ (6 : Int32) < nI w from fun q => absurd ((n_lt (a := 6) (by omega) (by omega)).mp q) (by omega)), (kAbout hc h hk (show w < 7 by omega)).1, bd_s, vlet_e, vlet_e, nI_1, ih N (w + 1) _ (by omega) (by omega), dgL_s]
    unfold gK
    rw [show (7 * k + w) / 7 = k by omega, show (7 * k + w) % 7 = w by omega, show 7 * k + (w + 1) = 7 * k + w + 1 by omega]
def gV (n : Nat) (F : Nat → Int32) (j : Nat) : Int32 := valS n F (nI (37 * j))
theorem cDg_65 {us cn : Nat → Int32} {cf : Nat → Nat → Int32} {c n : Nat} (hc : c < 4) (h : Rc us cn cf c n) : ∀ (m N j : Nat) (s : Int64), j + m = 28 → m < N → F_X3_digestOfCurve_65 (cn c) (cf c) N s (nI (37 * j)) = some (dgL (gV n (vw us c)) m j s) := by
  intro m
  induction m with
  | zero =>
    intro N j s hj hN
    obtain ⟨N, rfl⟩ : ∃ z, N = z + 1 := ⟨N - 1, by omega⟩
    rw [F_X3_digestOfCurve_65, it (show (1000 : Int32) ≤ nI (37 * j) from (n_le (a := 1000) (by omega) (by omega)).mpr (by omega))]
    rfl
  | succ m ih =>
    intro N j s hj hN
    obtain ⟨N, rfl⟩ : ∃ z, N = z + 1 := ⟨N - 1, by omega⟩
    have t := n_T (n := 37 * j) (by omega)
    rw [F_X3_digestOfCurve_65, if_ (show ¬ (1000 : Int32) ≤ nI (37 * j) from fun q => absurd ((n_le (a := 1000) (by omega) (by omega)).mp q) (by omega)), (kVal hc h (fr := nI (37 * j)) (by omega) (by omega)).1, bd_s, vlet_e, vlet_e, show nI (37 * j) + 37 = nI (37 * (j + 1)) from nI_add _ 37, ih N (j + 1) _ (by omega) (by omega), dgL_s]
    rfl
theorem cDg_15 {us cn : Nat → Int32} {cf : Nat → Nat → Int32} {c n : Nat} (hc : c < 4) (h : Rc us cn cf c n) : ∀ (m N i : Nat) (s : Int64), i + m = n → m < N → F_X3_digestOfCurve_15 (cn c) (cf c) N s (nI i) = some (dgL (gV n (vw us c)) 28 0 (dgL (gK n (vw us c)) (7 * m) (7 * i) s)) := by
  have h16 := h.2.2.1.1
  intro m
  induction m with
  | zero =>
    intro N i s hi hN
    obtain ⟨N, rfl⟩ : ∃ z, N = z + 1 := ⟨N - 1, by omega⟩
    have e := cDg_65 hc h 28 2000 0 s (by omega) (by omega)
    rw [show nI (37 * 0) = 0 from rfl] at e
    rw [F_X3_digestOfCurve_15, it (show cn c ≤ nI i by rw [h.2.1, n_le (by omega) (by omega)]; omega), e]
    rfl
  | succ m ih =>
    intro N i s hi hN
    obtain ⟨N, rfl⟩ : ∃ z, N = z + 1 := ⟨N - 1, by omega⟩
    have e := cDg_27 hc h (k := i) (by omega) 7 2000 0 s (by omega) (by omega)
    rw [show nI 0 = 0 from rfl] at e
    rw [F_X3_digestOfCurve_15, if_ (show ¬ cn c ≤ nI i by rw [h.2.1, n_le (by omega) (by omega)]; omega), e, bd_s, vlet_e, nI_1, ih N (i + 1) _ (by omega) (by omega), show 7 * (m + 1) = 7 + 7 * m by omega, dgL_a, show 7 * (i + 1) = 7 * i + 7 by omega]
    rfl
theorem mDg_38 {us cn : Nat → Int32} {cf : Nat → Nat → Int32} {c n : Nat} {un uy uw : Int32} (hc : c < 4) (h : Rc us cn cf c n) : ∀ (m N j : Nat) (s : Int64), j + m = 7 * n → m < N → F_X4_digest_38 un uy uw us (nI c) N s (nI j) = some (dgL (gK n (vw us c)) m j s) := by
  have h16 := h.2.2.1.1
  intro m
  induction m with
  | zero =>
    intro N j s hj hN
    obtain ⟨N, rfl⟩ : ∃ z, N = z + 1 := ⟨N - 1, by omega⟩
    rw [F_X4_digest_38, mMany hc, bd_s, h.1, show (7 : Int32) * nI n = nI (7 * n) from pk_mul 7 n, it ((n_le (by omega) (by omega)).mpr (by omega))]
    rfl
  | succ m ih =>
    intro N j s hj hN
    obtain ⟨N, rfl⟩ : ∃ z, N = z + 1 := ⟨N - 1, by omega⟩
    have e1 : nI j / 7 = nI (j / 7) := pk_div (d := 7) (by omega) (by omega) (by omega)
    have e2 : nI j - nI (j / 7) * 7 = nI (j % 7) := by
      rw [show nI (j / 7) * 7 = nI (j / 7 * 7) from pk_mul _ 7, pk_sub (by omega), show j - j / 7 * 7 = j % 7 by omega]
    rw [F_X4_digest_38, mMany hc, bd_s, h.1, show (7 : Int32) * nI n = nI (7 * n) from pk_mul 7 n, if_ (fun q => absurd ((n_le (by omega) (by omega)).mp q) (by omega)), e1, e2, (kAbout hc h (k := j / 7) (by omega) (show j % 7 < 7 by omega)).2, bd_s, vlet_e, vlet_e, nI_1, ih N (j + 1) _ (by omega) (by omega), dgL_s]
theorem mDg_83 {us cn : Nat → Int32} {cf : Nat → Nat → Int32} {c n : Nat} {un uy uw : Int32} (hc : c < 4) (h : Rc us cn cf c n) : ∀ (m N j : Nat) (s : Int64), j + m = 28 → m < N → F_X4_digest_83 un uy uw us (nI c) N s (nI (37 * j)) = some (dgL (gV n (vw us c)) m j s) := by
  intro m
  induction m with
  | zero =>
    intro N j s hj hN
    obtain ⟨N, rfl⟩ : ∃ z, N = z + 1 := ⟨N - 1, by omega⟩
    rw [F_X4_digest_83, it (show (999 : Int32) < nI (37 * j) from (n_lt (a := 999) (by omega) (by omega)).mpr (by omega))]
    rfl
  | succ m ih =>
    intro N j s hj hN
    obtain ⟨N, rfl⟩ : ∃ z, N = z + 1 := ⟨N - 1, by omega⟩
    have t := n_T (n := 37 * j) (by omega)
    rw [F_X4_digest_83, if_ (show ¬ (999 : Int32) < nI (37 * j) from fun q => absurd ((n_lt (a := 999) (by omega) (by omega)).mp q) (by omega)), mValueAt hc h.1 h.2.2.1, bd_s, vlet_e, vlet_e, show nI (37 * j) + 37 = nI (37 * (j + 1)) from nI_add _ 37, ih N (j + 1) _ (by omega) (by omega), dgL_s]
    rfl
theorem simDg {us cn : Nat → Int32} {cf : Nat → Nat → Int32} {un sc uy tl uw : Int32} (hR : Rs us cn cf) (hs : un = sc) : ∀ (m N N' c : Nat) (s : Int64), c + m = 4 → m < N → m < N' → ∃ a, F_X3_digest_15 sc tl cn cf N s (nI c) = some a ∧ F_X4_digest_17 un uy uw us N' s (nI c) = some (a, uw) := by
  intro m
  induction m with
  | zero =>
    intro N N' c s hc hN hN'
    obtain ⟨N, rfl⟩ : ∃ z, N = z + 1 := ⟨N - 1, by omega⟩
    obtain ⟨N', rfl⟩ : ∃ z, N' = z + 1 := ⟨N' - 1, by omega⟩
    have e : (4 : Int32) ≤ nI c := (n_le (a := 4) (by omega) (by omega)).mpr (by omega)
    rw [F_X3_digest_15, F_X4_digest_17, it e, it e, hs]
    exact ⟨_, rfl, rfl⟩
  | succ m ih =>
    intro N N' c s hc hN hN'
    obtain ⟨N, rfl⟩ : ∃ z, N = z + 1 := ⟨N - 1, by omega⟩
    obtain ⟨N', rfl⟩ : ∃ z, N' = z + 1 := ⟨N' - 1, by omega⟩
    have e : ¬ (4 : Int32) ≤ nI c := fun q => absurd ((n_le (a := 4) (by omega) (by omega)).mp q) (by omega)
    obtain ⟨n, h⟩ := hR c (by omega)
    have h16 := h.2.2.1.1
    have e1 := cDg_15 (by omega) h n 2000 0 (31 * s + (cn c).toInt64) (by omega) (by omega)
    have e2 := mDg_38 (un := un) (uy := uy) (uw := uw) (by omega) h (7 * n) 2000 0 (31 * s + (nI n).toInt64) (by omega) (by omega)
    have e3 := mDg_83 (un := un) (uy := uy) (uw := uw) (by omega) h 28 2000 0 (dgL (gK n (vw us c)) (7 * n) 0 (31 * s + (nI n).toInt64)) (by omega) (by omega)
    rw [show nI 0 = 0 from rfl] at e1 e2
    rw [show nI (37 * 0) = 0 from rfl] at e3
    rw [h.2.1] at e1
    rw [F_X3_digest_15, F_X4_digest_17, if_ e, if_ e, vgd_t (n_ix (by omega) (by omega)), vlet_e, n_C (by omega), mMany (by omega), bd_s, h.1, vlet_e, e2, bd_s, e3, bd_s, vlet_e, nI_1]
    unfold F_X3_digestOfCurve
    rw [h.2.1, vlet_e, e1, bd_s, vlet_e]
    exact ih N N' (c + 1) _ (by omega) (by omega) (by omega)
theorem R_digest {un sc uy tl uw : Int32} {up us cn : Nat → Int32} {cf : Nat → Nat → Int32} {sn : Nat → Nat → Int32} {sf : Nat → Nat → Nat → Int32} {ut tb : Nat → Int32} (hS : St un sc up sn sf) (hR : Rs us cn cf) (hT : Tx uy tl ut tb) : ∃ a, F_X3_digest sc tl cn cf = some a ∧ F_X4_digest un uy uw us = some (a, 0) := by
  obtain ⟨S, -, h1, h2, -⟩ := hS
  obtain ⟨T, -, h3, h4, -⟩ := hT
  unfold F_X3_digest F_X4_digest
  rw [vlet_e, vlet_e, h3, h4]
  exact simDg hR (h1.trans h2.symm) 4 2000 2000 0 _ (by omega) (by omega) (by omega)

/-! ===== what is asked of values ===== -/
abbrev vS (n : Nat) (F : Nat → Int32) (j : Nat) : Int32 := valS n F (nI j)
theorem Rc.cv {us cn : Nat → Int32} {cf : Nat → Nat → Int32} {c n : Nat} (h : Rc us cn cf c n) : Cv n (cf c) := h.2.2.1.ag h.2.2.2
theorem kVal {us cn : Nat → Int32} {cf : Nat → Nat → Int32} {c n : Nat} (hc : c < 4) (h : Rc us cn cf c n) {fr : Int32} (h0 : 0 ≤ fr.toInt) (h9 : fr.toInt ≤ 999) : F_X0_valueAt (cn c) (cf c) fr = some (valS n (vw us c) fr) ∧ F_X4_valueAt us (nI c) fr = some (valS n (vw us c) fr) := by
  refine ⟨?_, mValueAt hc h.1 h.2.2.1 fr⟩
  rw [h.2.1, cValueAt h.cv h0 h9, valS_cg h.2.2.2]
theorem kBake {us cn : Nat → Int32} {cf : Nat → Nat → Int32} {c n : Nat} (h : Rc us cn cf c n) (rv : Nat → Int32) {a b : Nat} (hab : a ≤ b + 1) (hb : b < 1000) : F_X0_bake (cn c) (cf c) rv (nI a) (nI b) = some (bk n (vw us c) rv a (b + 1)) := by
  rw [h.2.1, cBake h.cv hab hb, bk_cg h.2.2.2]
theorem R_value {uw : Int32} {us cn : Nat → Int32} {cf : Nat → Nat → Int32} (hR : Rs us cn cf) (p1 p2 : Int32) : (∃ t t', (t < 3 ∧ 0 < t ∧ t' = t) ∧ F_X3_value cn cf p1 p2 = some (.inl t) ∧ F_X4_value uw us p1 p2 = some (0, nI t')) ∨ (∃ a, F_X3_value cn cf p1 p2 = some (.inr a) ∧ F_X4_value uw us p1 p2 = some (a, 0)) := by
  unfold F_X3_value F_X4_value
  simp only [u_rfl, t_rfl, bd_s]
  rcases (kCurve p1).symm with ⟨e1, e2⟩ | ⟨c, hc, rfl, e1, e2⟩
  · rw [e1, e2, thr_l, bd_s, it rfl]
    exact Or.inl ⟨1, 1, ⟨by omega, by omega, rfl⟩, rfl, rfl⟩
  rw [e1, e2, thr_r, bd_s, if_ (show ¬ (1 : Int32) = 0 by decide)]
  obtain ⟨n, hn⟩ := hR c hc
  rcases (kFrame p2).symm with ⟨-, e1, e2⟩ | ⟨f1, f2, e1, e2⟩
  · rw [e1, e2, thr_l, bd_s, it rfl]
    exact Or.inl ⟨2, 2, ⟨by omega, by omega, rfl⟩, rfl, rfl⟩
  obtain ⟨g1, g2⟩ := kVal hc hn f1 f2
  rw [e1, e2, thr_r, bd_s, if_ (show ¬ (1 : Int32) = 0 by decide), g1, g2, bd_s, bd_s]
  exact Or.inr ⟨_, rfl, rfl⟩
/-! key -/
def abS (n : Nat) (F : Nat → Int32) (k w : Nat) : Int32 := if w = 5 then tangS n F k else if w = 6 then F (6 * k + 5) else F (6 * k + w)
theorem kAbout {us cn : Nat → Int32} {cf : Nat → Nat → Int32} {c n k w : Nat} (hc : c < 4) (h : Rc us cn cf c n) (hk : k < n) (hw : w < 7) : F_X3_aboutKey (cn c) (cf c) (nI k) (nI w) = some (abS n (vw us c) k w) ∧ F_X4_keyOf us (nI c) (nI k) (nI w) = some (abS n (vw us c) k w) := by
  have h16 := h.2.2.1.1
  unfold F_X3_aboutKey F_X4_keyOf abS
  rw [h.2.1]
  by_cases h5 : w = 5
  · subst h5
    rw [it (show nI 5 = 5 from rfl), it (show (5 : Int32) ≤ nI 5 from by decide), it (show nI 5 = 5 from rfl), it rfl, cTangent h.cv hk, bd_s, tangS_cg h.2.2.2 hk, mTangent hc h.1 h.2.2.1 hk, bd_s]
    exact ⟨rfl, rfl⟩
  · rw [if_ (show ¬ nI w = 5 from fun q => h5 ((n_eq (b := 5) (by omega) (by omega)).mp q)), if_ h5]
    by_cases h6 : w = 6
    · subst h6
      rw [it (show nI 6 = 6 from rfl), it (show (5 : Int32) ≤ nI 6 from by decide), it rfl, if_ (show ¬ nI 6 = 5 from by decide), cCell5 h16 hk, bd_s, h.2.2.2 _ (by omega), mOf5 hc (by omega), bd_s]
      exact ⟨rfl, rfl⟩
    · rw [if_ (show ¬ nI w = 6 from fun q => h6 ((n_eq (b := 6) (by omega) (by omega)).mp q)), if_ h6, if_ (show ¬ (5 : Int32) ≤ nI w from fun q => absurd ((n_le (a := 5) (by omega) (by omega)).mp q) (by omega)), cCell h16 hk (by omega), bd_s, h.2.2.2 _ (by omega), mOf hc (by omega) (by omega), bd_s]
      exact ⟨rfl, rfl⟩
theorem R_key {uw : Int32} {us cn : Nat → Int32} {cf : Nat → Nat → Int32} (hR : Rs us cn cf) (p1 p2 p3 : Int32) : (∃ t t', (t < 3 ∧ 0 < t ∧ t' = t) ∧ F_X3_key cn cf p1 p2 p3 = some (.inl t) ∧ F_X4_key uw us p1 p2 p3 = some (0, nI t')) ∨ (∃ a, F_X3_key cn cf p1 p2 p3 = some (.inr a) ∧ F_X4_key uw us p1 p2 p3 = some (a, 0)) := by
  unfold F_X3_key F_X4_key F_X3_key_18
  simp only [u_rfl, t_rfl, bd_s]
  rcases (kCurve p1).symm with ⟨e1, e2⟩ | ⟨c, hc, rfl, e1, e2⟩
  · rw [e1, e2, thr_l, bd_s, it rfl]
    exact Or.inl ⟨1, 1, ⟨by omega, by omega, rfl⟩, rfl, rfl⟩
  rw [e1, e2, thr_r, bd_s, if_ (show ¬ (1 : Int32) = 0 by decide)]
  obtain ⟨n, hn⟩ := hR c hc
  have h16 := hn.2.2.1.1
  rw [mMany hc, bd_s, bd_s, hn.1]
  have en : (nI n - 1).toInt = n - 1 := by
    rw [fb_subI, n_T (by omega)]
    · rfl
    · rw [n_T (by omega), show (1 : Int32).toInt = 1 from rfl]; omega
    · rw [n_T (by omega), show (1 : Int32).toInt = 1 from rfl]; omega
  have rest : ∀ k : Nat, k < n → (∃ t t', (t < 3 ∧ 0 < t ∧ t' = t) ∧ (thr (F_X3_requireRange p3 0 6) fun _u => (F_X3_aboutKey (cn c) (cf c) (nI k) p3).bind fun r6 => some (.inr r6)) = some (.inl t) ∧ ((F_X4_in p3 0 6).bind fun r13 => if r13 = 0 then some (0, 2) else (F_X4_keyOf us (nI c) (nI k) p3).bind fun r17 => some (r17, 0)) = some ((0 : Int32), nI t')) ∨ (∃ a, (thr (F_X3_requireRange p3 0 6) fun _u => (F_X3_aboutKey (cn c) (cf c) (nI k) p3).bind fun r6 => some (.inr r6)) = some (.inr a) ∧ ((F_X4_in p3 0 6).bind fun r13 => if r13 = 0 then some (0, 2) else (F_X4_keyOf us (nI c) (nI k) p3).bind fun r17 => some (r17, 0)) = some (a, (0 : Int32))) := by
    intro k hk
    rcases (kRange p3 0 6).symm with ⟨-, e1, e2⟩ | ⟨f1, f2, e1, e2⟩
    · rw [e1, e2, thr_l, bd_s, it rfl]
      exact Or.inl ⟨2, 2, ⟨by omega, by omega, rfl⟩, rfl, rfl⟩
    · rw [show (6 : Int32).toInt = 6 from rfl] at f2
      obtain ⟨w, hw, rfl⟩ := n_of' (x := p3) (n := 7) f1 (by omega)
      obtain ⟨g1, g2⟩ := kAbout hc hn hk hw
      rw [e1, e2, thr_r, bd_s, if_ (show ¬ (1 : Int32) = 0 by decide), g1, g2, bd_s, bd_s]
      exact Or.inr ⟨_, rfl, rfl⟩
  by_cases hm : p2 = -1
  · subst hm
    have e : F_X4_in (-1) (-1) (nI n - 1) = some 1 := by
      unfold F_X4_in
      rw [if_ (by decide), if_]
      rw [fa_lt, en, show (-1 : Int32).toInt = -1 from rfl]
      omega
    rw [it rfl, e, bd_s, if_ (show ¬ (1 : Int32) = 0 by decide)]
    rcases (kRange p3 0 6).symm with ⟨-, e1, e2⟩ | ⟨f1, f2, e1, e2⟩
    · rw [e1, e2, thr_l, bd_s, it rfl]
      exact Or.inl ⟨2, 2, ⟨by omega, by omega, rfl⟩, rfl, rfl⟩
    · rw [e1, e2, thr_r, bd_s, if_ (show ¬ (1 : Int32) = 0 by decide), it rfl, it rfl, hn.2.1]
      exact Or.inr ⟨_, rfl, rfl⟩
  · rw [if_ hm]
    rcases (kKey hc hn p2).symm with ⟨e1, e2⟩ | ⟨k, hk, rfl, e1, e2⟩
    · have e : F_X4_in p2 (-1) (nI n - 1) = some 0 := by
        unfold F_X3_requireKey at e1
        unfold F_X4_in
        by_cases g1 : p2 < 0
        · rw [it]
          rw [fa_eq, show (-1 : Int32).toInt = -1 from rfl] at hm
          rw [fa_lt, show (0 : Int32).toInt = 0 from rfl] at g1
          rw [fa_lt, show (-1 : Int32).toInt = -1 from rfl]
          omega
        · rw [if_ g1, hn.2.1] at e1
          by_cases g2 : p2 < nI n
          · rw [it g2] at e1
            cases e1
          · have t : nI n - 1 < p2 := by
              rw [fa_lt, en]
              rw [fa_lt, n_T (by omega)] at g2
              omega
            rw [it t]
            split <;> rfl
      rw [e1, e, thr_l, bd_s, it rfl]
      exact Or.inl ⟨1, 1, ⟨by omega, by omega, rfl⟩, rfl, rfl⟩
    · have e : F_X4_in (nI k) (-1) (nI n - 1) = some 1 := by
        unfold F_X4_in
        rw [if_ (by rw [fa_lt, n_T (by omega), show (-1 : Int32).toInt = -1 from rfl]; omega), if_ (by rw [fa_lt, n_T (by omega), en]; omega)]
      rw [e1, e, thr_r, bd_s, if_ (show ¬ (1 : Int32) = 0 by decide)]
      simp only [if_ hm]
      exact rest k hk
/-! sum -/
def suS (v : Nat → Int32) : Nat → Nat → Int64 → Int64
  | 0, _, s => s
  | m + 1, f, s => suS v m (f + 1) (s + (v f).toInt64)
theorem suS_cg {v w : Nat → Int32} : ∀ (m f : Nat) (s : Int64), (∀ j, f ≤ j → j < f + m → v j = w j) → suS v m f s = suS w m f s := by
  intro m
  induction m with
  | zero => intro f s _; rfl
  | succ m ih =>
    intro f s h
    unfold suS
    rw [h f (Nat.le_refl _) (by omega)]
    exact ih (f + 1) _ (fun j h1 h2 => h j (by omega) (by omega))
theorem cSum_16 {vv cf : Nat → Int32} {cn : Int32} {b : Nat} (hb : b ≤ 999) : ∀ (m N f : Nat) (s : Int64), f + m = b + 1 → m < N → F_X3_sumOver_16 vv cn cf (nI b) N s (nI f) = some (suS vv m f s, vv) := by
  intro m
  induction m with
  | zero =>
    intro N f s hf hN
    obtain ⟨N, rfl⟩ : ∃ z, N = z + 1 := ⟨N - 1, by omega⟩
    rw [F_X3_sumOver_16, it ((n_lt (by omega) (by omega)).mpr (by omega))]
    rfl
  | succ m ih =>
    intro N f s hf hN
    obtain ⟨N, rfl⟩ : ∃ z, N = z + 1 := ⟨N - 1, by omega⟩
    rw [F_X3_sumOver_16, if_ (fun q => absurd ((n_lt (by omega) (by omega)).mp q) (by omega)), vgd_t (n_ix (by omega) (by omega)), vlet_e, vlet_e, nI_1, n_C (by omega), ih N (f + 1) _ (by omega) (by omega)]
    rfl
theorem mSum_6 {us : Nat → Int32} {c n b : Nat} (hc : c < 4) (hn : us (97 * c) = nI n) (hC : Cv n (vw us c)) (hb : b ≤ 999) : ∀ (m N f : Nat) (s : Int64), f + m = b + 1 → m < N → F_X4_sumOf_6 us (nI c) (nI b) N s (nI f) = some (suS (vS n (vw us c)) m f s) := by
  intro m
  induction m with
  | zero =>
    intro N f s hf hN
    obtain ⟨N, rfl⟩ : ∃ z, N = z + 1 := ⟨N - 1, by omega⟩
    rw [F_X4_sumOf_6, it ((n_lt (by omega) (by omega)).mpr (by omega))]
    rfl
  | succ m ih =>
    intro N f s hf hN
    obtain ⟨N, rfl⟩ : ∃ z, N = z + 1 := ⟨N - 1, by omega⟩
    rw [F_X4_sumOf_6, if_ (fun q => absurd ((n_lt (by omega) (by omega)).mp q) (by omega)), mValueAt hc hn hC, bd_s, vlet_e, vlet_e, nI_1, ih N (f + 1) _ (by omega) (by omega)]
    rfl
theorem cSum {n : Nat} {F vv : Nat → Int32} (hC : Cv n F) {a b : Nat} (hab : a ≤ b + 1) (hb : b ≤ 999) : F_X3_sumOver vv (nI n) F (nI a) (nI b) = some (suS (vS n F) (b + 1 - a) a 0, bk n F vv a (b + 1)) := by
  unfold F_X3_sumOver
  rw [cBake hC hab (by omega), bd_s, cSum_16 hb (b + 1 - a) 2000 a 0 (by omega) (by omega)]
  rw [suS_cg (w := vS n F) _ _ _ (fun j h1 h2 => bk_in h1 (by omega))]
theorem mSum {us : Nat → Int32} {c n a b : Nat} (hc : c < 4) (hn : us (97 * c) = nI n) (hC : Cv n (vw us c)) (hab : a ≤ b + 1) (hb : b ≤ 999) : F_X4_sumOf us (nI c) (nI a) (nI b) = some (suS (vS n (vw us c)) (b + 1 - a) a 0) := by
  unfold F_X4_sumOf
  exact mSum_6 hc hn hC hb (b + 1 - a) 2000 a 0 (by omega) (by omega)
theorem vS_cg {n : Nat} {F f : Nat → Int32} (h : Ag n F f) : vS n f = vS n F := funext fun j => valS_cg h _
theorem R_sum {uw : Int32} {us cn : Nat → Int32} {cf : Nat → Nat → Int32} (vv : Nat → Int32) (hR : Rs us cn cf) (p1 p2 p3 : Int32) : (∃ t t', (t < 3 ∧ 0 < t ∧ t' = t) ∧ F_X3_sum cn cf vv p1 p2 p3 = some (.inl t) ∧ F_X4_sum uw us p1 p2 p3 = some (0, nI t')) ∨ (∃ a vv', F_X3_sum cn cf vv p1 p2 p3 = some (.inr (a, vv')) ∧ F_X4_sum uw us p1 p2 p3 = some (a, 0)) := by
  unfold F_X3_sum F_X4_sum
  simp only [u_rfl, t_rfl, bd_s]
  rcases (kCurve p1).symm with ⟨e1, e2⟩ | ⟨c, hc, rfl, e1, e2⟩
  · rw [e1, e2, thr_l, bd_s, it rfl]
    exact Or.inl ⟨1, 1, ⟨by omega, by omega, rfl⟩, rfl, rfl⟩
  rw [e1, e2, thr_r, bd_s, if_ (show ¬ (1 : Int32) = 0 by decide)]
  obtain ⟨n, hn⟩ := hR c hc
  rcases (kFrames p2 p3).symm with ⟨e1, e2⟩ | ⟨x, y, hxy, hy, rfl, rfl, e1, e2⟩
  · rw [e1, e2, thr_l, bd_s, it rfl]
    exact Or.inl ⟨2, 2, ⟨by omega, by omega, rfl⟩, rfl, rfl⟩
  rw [e1, e2, thr_r, bd_s, if_ (show ¬ (1 : Int32) = 0 by decide), hn.2.1, cSum hn.cv (by omega) hy, bd_s, mSum hc hn.1 hn.2.2.1 (by omega) hy, bd_s, vS_cg hn.2.2.2]
  exact Or.inr ⟨_, _, rfl, rfl⟩

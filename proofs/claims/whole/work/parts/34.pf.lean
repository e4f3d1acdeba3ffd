/-! ===== crossings, difference, extreme ===== -/
def crR (v : Nat → Int32) (lv : Int32) : Nat → Nat → Int32 → Int32
  | 0, _, s => s
  | m + 1, f, s => crR v lv m (f + 1) (if v f < lv then (if v (f - 1) < lv then s else s + 1) else (if v (f - 1) < lv then s + 1 else s))
theorem cCr {cn vv : Nat → Int32} {cf : Nat → Nat → Int32} {v : Nat → Int32} {lv : Int32} (hv : ∀ j, j < 1000 → vv j = v j) : ∀ (m N f : Nat) (s : Int32), f + m = 1000 → 0 < f → m < N → F_X3_crossings_32 cn cf vv lv N s (nI f) = some (.inr (crR v lv m f s, vv)) := by
  intro m
  induction m with
  | zero =>
    intro N f s hf h0 hN
    obtain ⟨N, rfl⟩ : ∃ z, N = z + 1 := ⟨N - 1, by omega⟩
    rw [F_X3_crossings_32, it (show (1000 : Int32) ≤ nI f from (n_le (a := 1000) (by omega) (by omega)).mpr (by omega))]
    rfl
  | succ m ih =>
    intro N f s hf h0 hN
    obtain ⟨N, rfl⟩ : ∃ z, N = z + 1 := ⟨N - 1, by omega⟩
    rw [F_X3_crossings_32, if_ (show ¬ (1000 : Int32) ≤ nI f from fun q => absurd ((n_le (a := 1000) (by omega) (by omega)).mp q) (by omega)), vgd_t (n_ix (by omega) (by omega)), n_s1 (by omega), vgd_t (n_ix (by omega) (by omega)), vgd_t (n_ix (by omega) (by omega)), n_C (by omega), n_C (by omega), hv f (by omega), hv (f - 1) (by omega)]
    simp only [vlet_e, nI_1]
    unfold crR
    by_cases g1 : v f < lv
    · rw [it g1, it g1]
      by_cases g2 : v (f - 1) < lv
      · rw [it g2, it g2]; exact ih N (f + 1) _ (by omega) (by omega) (by omega)
      · rw [if_ g2, if_ g2]; exact ih N (f + 1) _ (by omega) (by omega) (by omega)
    · rw [if_ g1, if_ g1]
      by_cases g2 : v (f - 1) < lv
      · rw [it g2, it g2]; exact ih N (f + 1) _ (by omega) (by omega) (by omega)
      · rw [if_ g2, if_ g2]; exact ih N (f + 1) _ (by omega) (by omega) (by omega)
theorem mCr {us : Nat → Int32} {uw lv : Int32} {c n : Nat} (hc : c < 4) (hn : us (97 * c) = nI n) (hC : Cv n (vw us c)) : ∀ (m N f : Nat) (s : Int32), f + m = 1000 → 0 < f → m < N → F_X4_crossings_35 uw us (nI c) lv N s (nI f) = some (crR (vS n (vw us c)) lv m f s, 0) := by
  intro m
  induction m with
  | zero =>
    intro N f s hf h0 hN
    obtain ⟨N, rfl⟩ : ∃ z, N = z + 1 := ⟨N - 1, by omega⟩
    rw [F_X4_crossings_35, it (show (999 : Int32) < nI f from (n_lt (a := 999) (by omega) (by omega)).mpr (by omega))]
    rfl
  | succ m ih =>
    intro N f s hf h0 hN
    obtain ⟨N, rfl⟩ : ∃ z, N = z + 1 := ⟨N - 1, by omega⟩
    rw [F_X4_crossings_35, if_ (show ¬ (999 : Int32) < nI f from fun q => absurd ((n_lt (a := 999) (by omega) (by omega)).mp q) (by omega)), mValueAt hc hn hC, bd_s, n_s1 (by omega), mValueAt hc hn hC, bd_s, bd_s]
    simp only [vlet_e, nI_1, ad0]
    unfold crR
    by_cases g1 : valS n (vw us c) (nI f) < lv
    · rw [it g1, it g1]
      by_cases g2 : valS n (vw us c) (nI (f - 1)) < lv
      · rw [it g2, it g2]; exact ih N (f + 1) _ (by omega) (by omega) (by omega)
      · rw [if_ g2, if_ g2]; exact ih N (f + 1) _ (by omega) (by omega) (by omega)
    · rw [if_ g1, if_ g1]
      by_cases g2 : valS n (vw us c) (nI (f - 1)) < lv
      · rw [it g2, it g2]; exact ih N (f + 1) _ (by omega) (by omega) (by omega)
      · rw [if_ g2, if_ g2]; exact ih N (f + 1) _ (by omega) (by omega) (by omega)
theorem kBake9 {us cn : Nat → Int32} {cf : Nat → Nat → Int32} {c n : Nat} (h : Rc us cn cf c n) (rv : Nat → Int32) : F_X0_bake (cn c) (cf c) rv 0 999 = some (bk n (vw us c) rv 0 1000) := kBake h rv (a := 0) (b := 999) (by omega) (by omega)
theorem R_crossings {uw : Int32} {us cn : Nat → Int32} {cf : Nat → Nat → Int32} (vv : Nat → Int32) (hR : Rs us cn cf) (p1 p2 : Int32) : (∃ t t', (t < 3 ∧ 0 < t ∧ t' = t) ∧ F_X3_crossings cn cf vv p1 p2 = some (.inl t) ∧ F_X4_crossings uw us p1 p2 = some (0, nI t')) ∨ (∃ a vv', F_X3_crossings cn cf vv p1 p2 = some (.inr (a, vv')) ∧ F_X4_crossings uw us p1 p2 = some (a, 0)) := by
  unfold F_X3_crossings F_X4_crossings
  simp only [u_rfl, bd_s]
  rcases (kCurve p1).symm with ⟨e1, e2⟩ | ⟨c, hc, rfl, e1, e2⟩
  · rw [e1, e2, thr_l, bd_s, it rfl]
    exact Or.inl ⟨1, 1, ⟨by omega, by omega, rfl⟩, rfl, rfl⟩
  rw [e1, e2, thr_r, bd_s, if_ (show ¬ (1 : Int32) = 0 by decide)]
  obtain ⟨n, hn⟩ := hR c hc
  rcases (kRange p2 (-99999) 99999).symm with ⟨-, e1, e2⟩ | ⟨f1, f2, e1, e2⟩
  · rw [e1, e2, thr_l, bd_s, it rfl]
    exact Or.inl ⟨2, 2, ⟨by omega, by omega, rfl⟩, rfl, rfl⟩
  have e3 := cCr (cn := cn) (cf := cf) (lv := p2) (vv := bk n (vw us c) vv 0 1000) (v := vS n (vw us c)) (fun j hj => bk_in (Nat.zero_le _) hj) 999 2000 1 0 (by omega) (by omega) (by omega)
  have e4 := mCr (uw := uw) (lv := p2) hc hn.1 hn.2.2.1 999 2000 1 0 (by omega) (by omega) (by omega)
  rw [show nI 1 = 1 from rfl] at e3 e4
  rw [e1, e2, thr_r, bd_s, if_ (show ¬ (1 : Int32) = 0 by decide), kBake9 hn, bd_s, e3, e4]
  exact Or.inr ⟨_, _, rfl, rfl⟩
/-! the greatest of a row -/
def gdR (g : Nat → Int32) : Nat → Nat → Int32 → Int32
  | 0, _, s => s
  | m + 1, f, s => gdR g m (f + 1) (if s < g f then g f else s)
theorem gdR_s (g : Nat → Int32) (m f : Nat) (s : Int32) : gdR g (m + 1) f s = gdR g m (f + 1) (if s < g f then g f else s) := rfl
theorem gdR_cg {g h : Nat → Int32} : ∀ (m f : Nat) (s : Int32), (∀ j, f ≤ j → j < f + m → g j = h j) → gdR g m f s = gdR h m f s := by
  intro m
  induction m with
  | zero => intro f s _; rfl
  | succ m ih =>
    intro f s e
    rw [gdR_s, gdR_s, e f (Nat.le_refl _) (by omega)]
    exact ih (f + 1) _ (fun j h1 h2 => e j (by omega) (by omega))
theorem mx_sw {s g : Int32} {α : Sort _} {a b : α} : (if g ≤ s then a else b) = if s < g then b else a := by
  by_cases h : g ≤ s
  · rw [it h, if_ (by rw [fa_le] at h; rw [fa_lt]; omega)]
  · rw [if_ h, it (by rw [fa_le] at h; rw [fa_lt]; omega)]
theorem cGd {vv ov : Nat → Int32} {b : Nat} (hb : b ≤ 999) (h1 : ∀ j, j ≤ b → B32 (vv j) 300000000) (h2 : ∀ j, j ≤ b → B32 (ov j) 300000000) : ∀ (m N f : Nat) (s : Int32), f + m = b + 1 → m < N → F_X3_greatestDifference_5 vv ov (nI b) N s (nI f) = some (gdR (fun j => apS (vv j) (ov j)) m f s) := by
  intro m
  induction m with
  | zero =>
    intro N f s hf hN
    obtain ⟨N, rfl⟩ : ∃ z, N = z + 1 := ⟨N - 1, by omega⟩
    rw [F_X3_greatestDifference_5, it ((n_lt (by omega) (by omega)).mpr (by omega))]
    rfl
  | succ m ih =>
    intro N f s hf hN
    obtain ⟨N, rfl⟩ : ∃ z, N = z + 1 := ⟨N - 1, by omega⟩
    rw [F_X3_greatestDifference_5, if_ (fun q => absurd ((n_lt (by omega) (by omega)).mp q) (by omega)), vgd_t (n_ix (by omega) (by omega)), vgd_t (n_ix (by omega) (by omega)), n_C (by omega), cApart (h1 f (by omega)) (h2 f (by omega)), vlet_e, vlet_e, vlet_e, nI_1, ih N (f + 1) _ (by omega) (by omega)]
    rfl
theorem mGd {us : Nat → Int32} {uw : Int32} {c n d k : Nat} (hc : c < 4) (hn : us (97 * c) = nI n) (hC : Cv n (vw us c)) (hd : d < 4) (hk : us (97 * d) = nI k) (hD : Cv k (vw us d)) : ∀ (m N f : Nat) (s : Int32), f + m = 1000 → m < N → F_X4_difference_25 uw us (nI c) (nI d) N s (nI f) = some (gdR (fun j => apS (vS n (vw us c) j) (vS k (vw us d) j)) m f s, 0) := by
  intro m
  induction m with
  | zero =>
    intro N f s hf hN
    obtain ⟨N, rfl⟩ : ∃ z, N = z + 1 := ⟨N - 1, by omega⟩
    rw [F_X4_difference_25, it (show (999 : Int32) < nI f from (n_lt (a := 999) (by omega) (by omega)).mpr (by omega))]
    rfl
  | succ m ih =>
    intro N f s hf hN
    obtain ⟨N, rfl⟩ : ∃ z, N = z + 1 := ⟨N - 1, by omega⟩
    rw [F_X4_difference_25, if_ (show ¬ (999 : Int32) < nI f from fun q => absurd ((n_lt (a := 999) (by omega) (by omega)).mp q) (by omega)), mValueAt hc hn hC, bd_s, mValueAt hd hk hD, bd_s, mApart, bd_s, vlet_e, vlet_e, nI_1, mx_sw, ih N (f + 1) _ (by omega) (by omega), ih N (f + 1) _ (by omega) (by omega), gdR_s]
    split <;> rfl
theorem R_difference {uw : Int32} {us cn : Nat → Int32} {cf : Nat → Nat → Int32} (vv ov : Nat → Int32) (hR : Rs us cn cf) (p1 p2 : Int32) : (∃ t t', (t = 1 ∧ t' = 1) ∧ F_X3_difference cn cf vv ov p1 p2 = some (.inl t) ∧ F_X4_difference uw us p1 p2 = some (0, nI t')) ∨ (∃ a vv' ov', F_X3_difference cn cf vv ov p1 p2 = some (.inr (a, vv', ov')) ∧ F_X4_difference uw us p1 p2 = some (a, 0)) := by
  unfold F_X3_difference F_X4_difference F_X3_greatestDifference
  simp only [u_rfl, bd_s]
  rcases (kCurve p1).symm with ⟨e1, e2⟩ | ⟨c, hc, rfl, e1, e2⟩
  · rw [e1, e2, thr_l, bd_s, it rfl]
    exact Or.inl ⟨1, 1, ⟨rfl, rfl⟩, rfl, rfl⟩
  rw [e1, e2, thr_r, bd_s, if_ (show ¬ (1 : Int32) = 0 by decide)]
  obtain ⟨n, hn⟩ := hR c hc
  rcases (kCurve p2).symm with ⟨e1, e2⟩ | ⟨d, hd, rfl, e1, e2⟩
  · rw [e1, e2, thr_l, bd_s, it rfl]
    exact Or.inl ⟨1, 1, ⟨rfl, rfl⟩, rfl, rfl⟩
  obtain ⟨k, hk⟩ := hR d hd
  have w1 : ∀ j, j ≤ 999 → bk n (vw us c) vv 0 1000 j = vS n (vw us c) j := fun j hj => bk_in (Nat.zero_le _) (by omega)
  have w2 : ∀ j, j ≤ 999 → bk k (vw us d) ov 0 1000 j = vS k (vw us d) j := fun j hj => bk_in (Nat.zero_le _) (by omega)
  have e3 := cGd (vv := bk n (vw us c) vv 0 1000) (ov := bk k (vw us d) ov 0 1000) (b := 999) (by omega) (fun j hj => by rw [w1 j hj]; exact valS_b hn.2.2.1 _) (fun j hj => by rw [w2 j hj]; exact valS_b hk.2.2.1 _) 1000 2000 0 0 (by omega) (by omega)
  have e4 := mGd (uw := uw) hc hn.1 hn.2.2.1 hd hk.1 hk.2.2.1 1000 2000 0 0 (by omega) (by omega)
  have e5 := gdR_cg (g := fun j => apS (bk n (vw us c) vv 0 1000 j) (bk k (vw us d) ov 0 1000 j)) (h := fun j => apS (vS n (vw us c) j) (vS k (vw us d) j)) 1000 0 0 (fun j _ hj => by
    show apS _ _ = apS _ _
    rw [w1 j (by omega), w2 j (by omega)])
  rw [show nI 0 = 0 from rfl] at e3 e4
  rw [show nI 999 = 999 from rfl] at e3
  rw [e5] at e3
  rw [e1, e2, thr_r, bd_s, if_ (show ¬ (1 : Int32) = 0 by decide), kBake9 hn, bd_s, kBake9 hk, bd_s, e3, bd_s, e4]
  exact Or.inr ⟨_, _, _, rfl, rfl⟩
/-! extreme -/
def hiR (v : Nat → Int32) : Nat → Nat → Nat → Nat
  | 0, _, b => b
  | m + 1, f, b => hiR v m (f + 1) (if v f ≤ v b then b else f)
theorem hiR_s (v : Nat → Int32) (m f b : Nat) : hiR v (m + 1) f b = hiR v m (f + 1) (if v f ≤ v b then b else f) := rfl
def loR (v : Nat → Int32) : Nat → Nat → Nat → Nat
  | 0, _, b => b
  | m + 1, f, b => loR v m (f + 1) (if v b ≤ v f then b else f)
theorem loR_s (v : Nat → Int32) (m f b : Nat) : loR v (m + 1) f b = loR v m (f + 1) (if v b ≤ v f then b else f) := rfl
theorem hiR_b (v : Nat → Int32) (x y : Nat) : ∀ m f b, x ≤ b → b ≤ y → x ≤ f → f + m ≤ y + 1 → x ≤ hiR v m f b ∧ hiR v m f b ≤ y := by
  intro m
  induction m with
  | zero => intro f b h1 h2 _ _; exact ⟨h1, h2⟩
  | succ m ih =>
    intro f b h1 h2 h3 h4
    rw [hiR_s]
    exact ih _ _ (by split <;> omega) (by split <;> omega) (by omega) (by omega)
theorem loR_b (v : Nat → Int32) (x y : Nat) : ∀ m f b, x ≤ b → b ≤ y → x ≤ f → f + m ≤ y + 1 → x ≤ loR v m f b ∧ loR v m f b ≤ y := by
  intro m
  induction m with
  | zero => intro f b h1 h2 _ _; exact ⟨h1, h2⟩
  | succ m ih =>
    intro f b h1 h2 h3 h4
    rw [loR_s]
    exact ih _ _ (by split <;> omega) (by split <;> omega) (by omega) (by omega)
theorem cHi {vv v : Nat → Int32} {a b : Nat} (hb : b ≤ 999) (hv : ∀ j, a ≤ j → j ≤ b → vv j = v j) : ∀ (m N f h : Nat), f + m = b + 1 → a ≤ f → a ≤ h → h ≤ b → m < N → F_X3_frameOfGreatest_7 vv (nI b) N (nI h) (nI f) = some (nI (hiR v m f h)) := by
  intro m
  induction m with
  | zero =>
    intro N f h hf ha1 ha2 hh hN
    obtain ⟨N, rfl⟩ : ∃ z, N = z + 1 := ⟨N - 1, by omega⟩
    rw [F_X3_frameOfGreatest_7, it ((n_lt (by omega) (by omega)).mpr (by omega))]
    rfl
  | succ m ih =>
    intro N f h hf ha1 ha2 hh hN
    obtain ⟨N, rfl⟩ : ∃ z, N = z + 1 := ⟨N - 1, by omega⟩
    rw [F_X3_frameOfGreatest_7, if_ (fun q => absurd ((n_lt (by omega) (by omega)).mp q) (by omega)), vgd_t (n_ix (by omega) (by omega)), vgd_t (n_ix (by omega) (by omega)), n_C (by omega), n_C (by omega), hv f ha1 (by omega), hv h ha2 hh, vlet_e, vlet_e, nI_1, hiR_s]
    by_cases g : v f ≤ v h
    · rw [it g, it g]; exact ih N (f + 1) h (by omega) (by omega) ha2 hh (by omega)
    · rw [if_ g, if_ g]; exact ih N (f + 1) f (by omega) (by omega) ha1 (by omega) (by omega)
theorem cLo {vv v : Nat → Int32} {a b : Nat} (hb : b ≤ 999) (hv : ∀ j, a ≤ j → j ≤ b → vv j = v j) : ∀ (m N f h : Nat), f + m = b + 1 → a ≤ f → a ≤ h → h ≤ b → m < N → F_X3_frameOfSmallest_7 vv (nI b) N (nI h) (nI f) = some (nI (loR v m f h)) := by
  intro m
  induction m with
  | zero =>
    intro N f h hf ha1 ha2 hh hN
    obtain ⟨N, rfl⟩ : ∃ z, N = z + 1 := ⟨N - 1, by omega⟩
    rw [F_X3_frameOfSmallest_7, it ((n_lt (by omega) (by omega)).mpr (by omega))]
    rfl
  | succ m ih =>
    intro N f h hf ha1 ha2 hh hN
    obtain ⟨N, rfl⟩ : ∃ z, N = z + 1 := ⟨N - 1, by omega⟩
    rw [F_X3_frameOfSmallest_7, if_ (fun q => absurd ((n_lt (by omega) (by omega)).mp q) (by omega)), vgd_t (n_ix (by omega) (by omega)), vgd_t (n_ix (by omega) (by omega)), n_C (by omega), n_C (by omega), hv f ha1 (by omega), hv h ha2 hh, vlet_e, vlet_e, nI_1, loR_s]
    by_cases g : v h ≤ v f
    · rw [it g, it g]; exact ih N (f + 1) h (by omega) (by omega) ha2 hh (by omega)
    · rw [if_ g, if_ g]; exact ih N (f + 1) f (by omega) (by omega) ha1 (by omega) (by omega)
theorem cSt {vv v : Nat → Int32} {a b : Nat} (hb : b ≤ 999) (hv : ∀ j, a ≤ j → j ≤ b → vv j = v j) (hB : ∀ j, B32 (v j) 300000000) : ∀ (m N f : Nat) (s : Int32), f + m = b + 1 → a < f → m < N → F_X3_greatestStep_7 vv (nI b) N s (nI f) = some (gdR (fun j => apS (v j) (v (j - 1))) m f s) := by
  intro m
  induction m with
  | zero =>
    intro N f s hf ha1 hN
    obtain ⟨N, rfl⟩ : ∃ z, N = z + 1 := ⟨N - 1, by omega⟩
    rw [F_X3_greatestStep_7, it ((n_lt (by omega) (by omega)).mpr (by omega))]
    rfl
  | succ m ih =>
    intro N f s hf ha1 hN
    obtain ⟨N, rfl⟩ : ∃ z, N = z + 1 := ⟨N - 1, by omega⟩
    rw [F_X3_greatestStep_7, if_ (fun q => absurd ((n_lt (by omega) (by omega)).mp q) (by omega)), n_s1 (by omega), vgd_t (n_ix (by omega) (by omega)), vgd_t (n_ix (by omega) (by omega)), n_C (by omega), n_C (by omega), hv f (by omega) (by omega), hv (f - 1) (by omega) (by omega), cApart (hB _) (hB _), vlet_e, vlet_e, vlet_e, nI_1, ih N (f + 1) _ (by omega) (by omega) (by omega)]
    rfl
def exS4 (v : Nat → Int32) (w : Int32) (h l : Nat) (s : Int32) : Int32 := if w = 0 then v h else if w = 1 then nI h else if w = 2 then v l else if w = 3 then nI l else s
theorem mEx_19 {us ub v : Nat → Int32} {w : Int32} {b : Nat} (hb : b ≤ 999) (hv : ∀ j, j ≤ 999 → ub j = v j) : ∀ (m N f h l : Nat) (s : Int32), f + m = b + 1 → 0 < f → h ≤ 999 → l ≤ 999 → m < N → F_X4_extremeOf_19 us ub (nI b) w N (nI h) (nI l) s (nI f) = some (exS4 v w (hiR v m f h) (loR v m f l) (gdR (fun j => apS (v j) (v (j - 1))) m f s), ub) := by
  intro m
  induction m with
  | zero =>
    intro N f h l s hf h0 hh hl hN
    obtain ⟨N, rfl⟩ : ∃ z, N = z + 1 := ⟨N - 1, by omega⟩
    rw [F_X4_extremeOf_19, it ((n_lt (by omega) (by omega)).mpr (by omega)), vgd_t (n_ix (by omega) (by omega)), vgd_t (n_ix (by omega) (by omega)), n_C (by omega), n_C (by omega), hv h hh, hv l hl]
    unfold exS4 hiR loR gdR
    split
    · rfl
    · split
      · rfl
      · split
        · rfl
        · split <;> rfl
  | succ m ih =>
    intro N f h l s hf h0 hh hl hN
    obtain ⟨N, rfl⟩ : ∃ z, N = z + 1 := ⟨N - 1, by omega⟩
    rw [F_X4_extremeOf_19, if_ (fun q => absurd ((n_lt (by omega) (by omega)).mp q) (by omega)), n_s1 (by omega)]
    have g1 : ix (nI f) 1000 := n_ix (by omega) (by omega)
    have g2 : ix (nI h) 1000 := n_ix (by omega) (by omega)
    have g3 : ix (nI l) 1000 := n_ix (by omega) (by omega)
    have g4 : ix (nI (f - 1)) 1000 := n_ix (by omega) (by omega)
    have c1 := n_C (n := f) (by omega)
    have c2 := n_C (n := h) (by omega)
    have c3 := n_C (n := l) (by omega)
    have c4 := n_C (n := f - 1) (by omega)
    simp only [vgd_t g1, vgd_t g2, vgd_t g3, vgd_t g4, c1, c2, c3, c4, hv f (by omega), hv h hh, hv l hl, hv (f - 1) (by omega), mApart]
    simp only [vlet_e, bd_s, nI_1, mx_sw (s := s)]
    rw [hiR_s, loR_s, gdR_s]
    have go := fun h' l' s' (q1 : h' ≤ 999) (q2 : l' ≤ 999) => ih N (f + 1) h' l' s' (by omega) (by omega) q1 q2 (by omega)
    by_cases k1 : v f ≤ v h
    · rw [it k1, it k1]
      by_cases k2 : v l ≤ v f
      · rw [it k2, it k2]
        split
        · exact go _ _ _ hh hl
        · exact go _ _ _ hh hl
      · rw [if_ k2, if_ k2]
        split
        · exact go _ _ _ hh (by omega)
        · exact go _ _ _ hh (by omega)
    · rw [if_ k1, if_ k1]
      by_cases k2 : v l ≤ v f
      · rw [it k2, it k2]
        split
        · exact go _ _ _ (by omega) hl
        · exact go _ _ _ (by omega) hl
      · rw [if_ k2, if_ k2]
        split
        · exact go _ _ _ (by omega) (by omega)
        · exact go _ _ _ (by omega) (by omega)
theorem R_extreme {uw : Int32} {us cn : Nat → Int32} {cf : Nat → Nat → Int32} (vv ub : Nat → Int32) (hR : Rs us cn cf) (p1 p2 p3 p4 : Int32) : (∃ t t', (t < 3 ∧ 0 < t ∧ t' = t) ∧ F_X3_extreme cn cf vv p1 p2 p3 p4 = some (.inl t) ∧ F_X4_extreme uw us ub p1 p2 p3 p4 = some (0, nI t', ub)) ∨ (∃ a vv' ub', F_X3_extreme cn cf vv p1 p2 p3 p4 = some (.inr (a, vv')) ∧ F_X4_extreme uw us ub p1 p2 p3 p4 = some (a, 0, ub')) := by
  unfold F_X3_extreme F_X4_extreme
  simp only [u_rfl, t_rfl, bd_s]
  rcases (kCurve p1).symm with ⟨e1, e2⟩ | ⟨c, hc, rfl, e1, e2⟩
  · rw [e1, e2, thr_l, bd_s, it rfl]
    exact Or.inl ⟨1, 1, ⟨by omega, by omega, rfl⟩, rfl, rfl⟩
  rw [e1, e2, thr_r, bd_s, if_ (show ¬ (1 : Int32) = 0 by decide)]
  obtain ⟨n, hn⟩ := hR c hc
  rcases (kFrames p2 p3).symm with ⟨e1, e2⟩ | ⟨x, y, hxy, hy, rfl, rfl, e1, e2⟩
  · rw [e1, e2, thr_l, bd_s, it rfl]
    exact Or.inl ⟨2, 2, ⟨by omega, by omega, rfl⟩, rfl, rfl⟩
  rw [e1, e2, thr_r, bd_s, if_ (show ¬ (1 : Int32) = 0 by decide)]
  rcases (kRange p4 0 4).symm with ⟨-, e1, e2⟩ | ⟨f1, f2, e1, e2⟩
  · rw [e1, e2, thr_l, bd_s, it rfl]
    exact Or.inl ⟨2, 2, ⟨by omega, by omega, rfl⟩, rfl, rfl⟩
  have hw : ∀ j, x ≤ j → j ≤ y → bk n (vw us c) vv x (y + 1) j = vS n (vw us c) j := fun j h1 h2 => bk_in h1 (by omega)
  have r1 := cHi hy hw (y - x) 2000 (x + 1) x (by omega) (by omega) (by omega) (by omega) (by omega)
  have r2 := cLo hy hw (y - x) 2000 (x + 1) x (by omega) (by omega) (by omega) (by omega) (by omega)
  have r3 := cSt hy hw (fun j => valS_b hn.2.2.1 _) (y - x) 2000 (x + 1) 0 (by omega) (by omega) (by omega)
  have r4 := mEx_19 (us := us) (ub := bk n (vw us c) ub 0 1000) (v := vS n (vw us c)) (w := p4) hy (fun j hj => bk_in (Nat.zero_le _) (by omega)) (y - x) 2000 (x + 1) x x 0 (by omega) (by omega) (by omega) (by omega) (by omega)
  unfold F_X4_extremeOf F_X3_frameOfGreatest F_X3_frameOfSmallest F_X3_greatestStep
  rw [e1, e2, thr_r, bd_s, if_ (show ¬ (1 : Int32) = 0 by decide), kBake hn vv (by omega) (by omega), bd_s, mBakes hc hn.1 hn.2.2.1, bd_s]
  simp only [vlet_e, nI_1, r1, r2, r3, r4, bd_s]
  obtain ⟨i1, i2⟩ := hiR_b (vS n (vw us c)) x y (y - x) (x + 1) x (by omega) (by omega) (by omega) (by omega)
  obtain ⟨l1, l2⟩ := loR_b (vS n (vw us c)) x y (y - x) (x + 1) x (by omega) (by omega) (by omega) (by omega)
  unfold exS4
  by_cases q0 : p4 = 0
  · rw [it q0, it q0, vgd_t (n_ix (by omega) (by omega)), n_C (by omega), hw _ i1 i2]
    exact Or.inr ⟨_, _, _, rfl, rfl⟩
  rw [if_ q0, if_ q0]
  by_cases q1 : p4 = 1
  · rw [it q1, it q1]
    exact Or.inr ⟨_, _, _, rfl, rfl⟩
  rw [if_ q1, if_ q1]
  by_cases q2 : p4 = 2
  · rw [it q2, it q2, vgd_t (n_ix (by omega) (by omega)), n_C (by omega), hw _ l1 l2]
    exact Or.inr ⟨_, _, _, rfl, rfl⟩
  rw [if_ q2, if_ q2]
  by_cases q3 : p4 = 3
  · rw [it q3, it q3]
    exact Or.inr ⟨_, _, _, rfl, rfl⟩
  rw [if_ q3, if_ q3]
  exact Or.inr ⟨_, _, _, rfl, rfl⟩

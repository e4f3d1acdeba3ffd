/-! ===== the law's rows and the class's curves say the same ===== -/
def Lc (an af av ae aw cn : Nat → Int32) (cf : Nat → Nat → Int32) (c m : Nat) : Prop := m ≤ 8 ∧ an c = nI m ∧ cn c = nI m ∧ Cv m (cf c) ∧ Lq m (cf c) c af av ae aw
def Ls (an af av ae aw : Nat → Int32) (sc : Int32) (cn : Nat → Int32) (cf : Nat → Nat → Int32) : Prop := (∀ c, c < 2 → ∃ m, Lc an af av ae aw cn cf c m) ∧ cn 2 = 0 ∧ cn 3 = 0 ∧ Sv sc
theorem Ls.pr {an af av ae aw : Nat → Int32} {sc : Int32} {cn : Nat → Int32} {cf : Nat → Nat → Int32} (h : Ls an af av ae aw sc cn cf) : Pr cn := by
  intro c hc
  rcases (show c = 0 ∨ c = 1 ∨ c = 2 ∨ c = 3 by omega) with rfl | rfl | rfl | rfl
  · obtain ⟨m, h1, -, h2, -⟩ := h.1 0 (by omega)
    exact ⟨m, by omega, h2⟩
  · obtain ⟨m, h1, -, h2, -⟩ := h.1 1 (by omega)
    exact ⟨m, by omega, h2⟩
  · exact ⟨0, by omega, h.2.1⟩
  · exact ⟨0, by omega, h.2.2.1⟩
theorem Lr.ou {m c d : Nat} {G a a' : Nat → Int32} (h : Lr m G d a) (o : Ou c a a') (hd : d ≠ c) (hm : m ≤ 8) : Lr m G d a' := fun k hk => (o _ (by omega)).trans (h k hk)
theorem Lq.ou {m c d : Nat} {F af av ae aw af' av' ae' aw' : Nat → Int32} (h : Lq m F d af av ae aw) (o1 : Ou c af af') (o2 : Ou c av av') (o3 : Ou c ae ae') (o4 : Ou c aw aw') (hd : d ≠ c) (hm : m ≤ 8) : Lq m F d af' av' ae' aw' := ⟨h.1.ou o1 hd hm, h.2.1.ou o2 hd hm, h.2.2.1.ou o3 hd hm, h.2.2.2.ou o4 hd hm⟩
theorem eN_ag {m k : Nat} {F f : Nat → Int32} (a : Ag m F f) (hk : k < m) : eN f k = eN F k := by
  unfold eN
  rw [a _ (by omega), a _ (by omega), a _ (by omega)]
theorem Lq.ag {m c : Nat} {F f af av ae aw : Nat → Int32} (h : Lq m F c af av ae aw) (a : Ag m F f) : Lq m f c af av ae aw :=
  ⟨h.1.cg fun k hk => a _ (by omega), h.2.1.cg fun k hk => a _ (by omega), h.2.2.1.cg fun k hk => eN_ag a hk, h.2.2.2.cg fun k hk => a _ (by omega)⟩
theorem Ls.put {an af av ae aw : Nat → Int32} {sc : Int32} {cn : Nat → Int32} {cf : Nat → Nat → Int32} (h : Ls an af av ae aw sc cn cf) {c m' : Nat} (hc : c < 2) (hm : m' ≤ 8) {an' af' av' ae' aw' : Nat → Int32} {sc' : Int32} {cn' : Nat → Int32} {cf' : Nat → Nat → Int32} (n1 : an' c = nI m') (n2 : ∀ d, d ≠ c → an' d = an d) (k1 : cn' c = nI m') (k2 : ∀ d, d ≠ c → cn' d = cn d) (f2 : ∀ d, d ≠ c → cf' d = cf d) (hC : Cv m' (cf' c)) (hq : Lq m' (cf' c) c af' av' ae' aw') (o1 : Ou c af af') (o2 : Ou c av av') (o3 : Ou c ae ae') (o4 : Ou c aw aw') (hS : Sv sc') : Ls an' af' av' ae' aw' sc' cn' cf' := by
  refine ⟨fun d hd => ?_, by rw [k2 2 (by omega)]; exact h.2.1, by rw [k2 3 (by omega)]; exact h.2.2.1, hS⟩
  by_cases q : d = c
  · subst q
    exact ⟨m', hm, n1, k1, hC, hq⟩
  · obtain ⟨m, a1, a2, a3, a4, a5⟩ := h.1 d hd
    exact ⟨m, a1, by rw [n2 d q]; exact a2, by rw [k2 d q]; exact a3, by rw [f2 d q]; exact a4, by rw [f2 d q]; exact a5.ou o1 o2 o3 o4 q a1⟩
/-! what the class tells -/
def abS (n : Nat) (F : Nat → Int32) (k w : Nat) : Int32 := if w = 5 then tangS n F k else if w = 6 then F (6 * k + 5) else F (6 * k + w)
theorem K_cnt {cn : Nat → Int32} {cf : Nat → Nat → Int32} {c : Nat} (hc : c < 4) {w : Int32} (hw : 0 ≤ w.toInt ∧ w.toInt ≤ 6) : F_L_keyOf cn cf (nI c) (-1) w = some (cn c) := by
  unfold F_L_keyOf F_X3_key F_X3_key_18
  rw [kCur hc, thr_r, it rfl, kRin (a := 0) (b := 6) hw, thr_r, it rfl, bd_s]
theorem K_of {cn : Nat → Int32} {cf : Nat → Nat → Int32} {c n k w : Nat} (hc : c < 4) (hn : cn c = nI n) (hC : Cv n (cf c)) (hk : k < n) (hw : w < 7) : F_L_keyOf cn cf (nI c) (nI k) (nI w) = some (abS n (cf c) k w) := by
  have h16 := hC.1
  have tw := n_T (n := w) (by omega)
  have t0 : (0 : Int32).toInt = 0 := rfl
  have t6 : (6 : Int32).toInt = 6 := rfl
  have core : F_X3_aboutKey (nI n) (cf c) (nI k) (nI w) = some (abS n (cf c) k w) := by
    unfold F_X3_aboutKey abS
    by_cases h5 : w = 5
    · subst h5
      rw [it (show nI 5 = 5 from rfl), it rfl, cTangent hC hk, bd_s]
    · rw [if_ (show ¬ nI w = 5 from fun q => h5 ((n_eq (b := 5) (by omega) (by omega)).mp q)), if_ h5]
      by_cases h6 : w = 6
      · subst h6
        rw [it (show nI 6 = 6 from rfl), it rfl, cCell5 h16 hk, bd_s]
      · rw [if_ (show ¬ nI w = 6 from fun q => h6 ((n_eq (b := 6) (by omega) (by omega)).mp q)), if_ h6, cCell h16 hk (by omega), bd_s]
  unfold F_L_keyOf F_X3_key F_X3_key_18
  rw [kCur hc, thr_r, if_ (nI_ne (by omega)), hn, kKeyI h16 hk, thr_r, kRin (by omega), thr_r, if_ (nI_ne (by omega)), core, bd_s, bd_s]
theorem V_of {cn : Nat → Int32} {cf : Nat → Nat → Int32} {c n : Nat} (hc : c < 4) (hn : cn c = nI n) (hC : Cv n (cf c)) {fr : Int32} (hf : 0 ≤ fr.toInt ∧ fr.toInt ≤ 999) : F_L_valueOf cn cf (nI c) fr = some (valS n (cf c) fr) := by
  unfold F_L_valueOf F_X3_value
  rw [kCur hc, thr_r, kFr hf, thr_r, hn, cValueAt hC hf.1 hf.2, bd_s, bd_s]
theorem val_at {n k : Nat} {F : Nat → Int32} (hC : Cv n F) (hk : k < n) : valS n F (F (6 * k)) = F (6 * k + 1) := by
  have e : cnt n F (F (6 * k)) = k + 1 := cnt_uq (by omega) (fun j hj => by
    rw [fa_le]
    by_cases q : j = k
    · subst q; omega
    · have := hC.2.2 j k (by omega) hk
      omega) (fun h => by rw [fa_lt]; exact hC.2.2 k (k + 1) (by omega) h)
  unfold valS
  rw [e]
  dsimp only
  by_cases q : k + 1 = n
  · rw [it q]
  · rw [if_ q, segS_0]
theorem lLow (x : Int32) {n : Nat} (h0 : 0 < n) (h : n < 2147483648) : ∃ j, j < n ∧ F_L_low x (nI n) = some (nI j) := by
  obtain ⟨j, hj, e⟩ := pk_andE x (m := 2147483647) 31 (by decide)
  refine ⟨j % n, Nat.mod_lt _ h0, ?_⟩
  unfold F_L_low
  rw [vgd_t (fun q => by have := (n_eq (b := 0) h (by omega)).mp q; omega), e, pk_rem (by omega) h0 (by omega)]
section IsSo
variable {an af av ae aw : Nat → Int32} {sc : Int32} {cn : Nat → Int32} {cf : Nat → Nat → Int32}
theorem is_66 {c m : Nat} (hc : c < 2) (h : Lc an af av ae aw cn cf c m) (z : Int32) : ∀ (r N i : Nat), i + r = m → r < N → F_L_isSo_66 an af av ae aw cn cf z (nI c) N 1 (nI i) = some 1 := by
  obtain ⟨hm, han, hcn, hC, hq⟩ := h
  intro r
  induction r with
  | zero =>
    intro N i hi hN
    obtain ⟨N, rfl⟩ : ∃ z, N = z + 1 := ⟨N - 1, by omega⟩
    rw [F_L_isSo_66, vgd_t (v2 hc), n_C (n := c) (by omega), han, it (by rw [n_le (by omega) (by omega)]; omega)]
  | succ r ih =>
    intro N i hi hN
    obtain ⟨N, rfl⟩ : ∃ z, N = z + 1 := ⟨N - 1, by omega⟩
    have hi' : i < m := by omega
    obtain ⟨e1, e2, e3, -⟩ := eN_s hC hi'
    obtain ⟨g1, g2, -⟩ := hC.2.1 i hi'
    have k0 : F_L_keyOf cn cf (nI c) (nI i) 0 = some (cf c (6 * i)) := K_of (w := 0) (by omega) hcn hC hi' (by omega)
    have k1 : F_L_keyOf cn cf (nI c) (nI i) 1 = some (cf c (6 * i + 1)) := K_of (w := 1) (by omega) hcn hC hi' (by omega)
    have k2 : F_L_keyOf cn cf (nI c) (nI i) 2 = some (cf c (6 * i + 2)) := K_of (w := 2) (by omega) hcn hC hi' (by omega)
    have k3 : F_L_keyOf cn cf (nI c) (nI i) 3 = some (cf c (6 * i + 3)) := K_of (w := 3) (by omega) hcn hC hi' (by omega)
    have k4 : F_L_keyOf cn cf (nI c) (nI i) 4 = some (cf c (6 * i + 4)) := K_of (w := 4) (by omega) hcn hC hi' (by omega)
    have k5 : F_L_keyOf cn cf (nI c) (nI i) 5 = some (tangS m (cf c) i) := K_of (w := 5) (by omega) hcn hC hi' (by omega)
    have k6 : F_L_keyOf cn cf (nI c) (nI i) 6 = some (cf c (6 * i + 5)) := K_of (w := 6) (by omega) hcn hC hi' (by omega)
    have kv := V_of (by omega) hcn hC (fr := cf c (6 * i)) ⟨g1, g2⟩
    have kt := lTang hc hm han hC hq hi'
    have a1 := hq.1 i hi'
    have a2 := hq.2.1 i hi'
    have a3 := hq.2.2.1 i hi'
    have a4 := hq.2.2.2 i hi'
    dsimp only at a1 a2 a4
    have V : ix (nI (8 * c + i)) 16 := v16 (by omega)
    rw [F_L_isSo_66, vgd_t (v2 hc), n_C (n := c) (by omega), han, if_ (by rw [n_le (by omega) (by omega)]; omega), if_ (show ¬ (1 : Int32) = 0 by decide), e8, vlet_e, n_C (n := 8 * c + i) (by omega), a1, a2, a3, a4, e1, e2, e3, k0, bd_s, vgd_t V, it rfl, k1, bd_s, vgd_t V, it rfl, k2, bd_s, vgd_t V, it rfl, k3, bd_s, vgd_t V, it rfl, k4, bd_s, vgd_t V, it rfl, k5, bd_s, kt, bd_s, it rfl, k6, bd_s, vgd_t V, it rfl, vgd_t V, kv, bd_s, vgd_t V, it (val_at hC hi'), vlet_e, nI_1]
    exact ih N (i + 1) (by omega) (by omega)
theorem is_262 {c m : Nat} (hc : c < 2) (h : Lc an af av ae aw cn cf c m) (z : Int32) : ∀ (r N i : Nat), i + r = 12 → r < N → F_L_isSo_262 an af av ae aw cn cf z (nI c) N 1 (nI i) = some 1 := by
  obtain ⟨hm, han, hcn, hC, hq⟩ := h
  have both : ∀ j, j < 1000 → ∀ X : Int32 → Int32 → Option Int32, (∀ x, X x x = some 1) → ((F_L_valueOf cn cf (nI c) (nI j)).bind fun a => (F_L_value an af av ae aw (nI c) (nI j)).bind fun b => X a b) = some 1 := by
    intro j hj X hX
    have t := n_T (n := j) (by omega)
    rw [V_of (by omega) hcn hC (by omega), bd_s, lVal hc hm han hC hq, bd_s]
    exact hX _
  intro r
  induction r with
  | zero =>
    intro N i hi hN
    obtain ⟨N, rfl⟩ : ∃ z, N = z + 1 := ⟨N - 1, by omega⟩
    rw [F_L_isSo_262, it (show (12 : Int32) ≤ nI i from (n_le (a := 12) (by omega) (by omega)).mpr (by omega))]
  | succ r ih =>
    intro N i hi hN
    obtain ⟨N, rfl⟩ : ∃ z, N = z + 1 := ⟨N - 1, by omega⟩
    rw [F_L_isSo_262, if_ (show ¬ (12 : Int32) ≤ nI i from fun q => by have := (n_le (a := 12) (by omega) (by omega)).mp q; omega), if_ (show ¬ (1 : Int32) = 0 by decide)]
    simp only [vlet_e, nI_1]
    have nx := ih N (i + 1) (by omega) (by omega)
    by_cases g : nI i - nI i / 2 * 2 = 0
    · rw [it g]
      obtain ⟨j, hj, e⟩ := lLow (z >>> (nI i &&& 31) * 31 + 7 * nI i) (n := 1000) (by omega) (by omega)
      rw [show F_L_low (z >>> (nI i &&& 31) * 31 + 7 * nI i) 1000 = some (nI j) from e, bd_s]
      exact both j hj _ (fun x => (it rfl).trans nx)
    · rw [if_ g]
      obtain ⟨j, hj, e⟩ := lLow (z >>> (nI i &&& 31) * 31 + 7 * nI i) (n := 100) (by omega) (by omega)
      rw [show F_L_low (z >>> (nI i &&& 31) * 31 + 7 * nI i) 100 = some (nI j) from e, bd_s]
      exact both j (by omega) _ (fun x => (it rfl).trans nx)
theorem is_30 (h : Ls an af av ae aw sc cn cf) (z : Int32) : ∀ (r N i : Nat), i + r = 2 → r < N → F_L_isSo_30 an af av ae aw cn cf z N 1 (nI i) = some 1 := by
  intro r
  induction r with
  | zero =>
    intro N i hi hN
    obtain ⟨N, rfl⟩ : ∃ z, N = z + 1 := ⟨N - 1, by omega⟩
    rw [F_L_isSo_30, it (show (2 : Int32) ≤ nI i from (n_le (a := 2) (by omega) (by omega)).mpr (by omega)), vgd_t (Or.inr rfl)]
  | succ r ih =>
    intro N i hi hN
    obtain ⟨N, rfl⟩ : ∃ z, N = z + 1 := ⟨N - 1, by omega⟩
    obtain ⟨m, hL⟩ := h.1 i (by omega)
    have hm := hL.1
    rw [F_L_isSo_30, if_ (show ¬ (2 : Int32) ≤ nI i from fun q => by have := (n_le (a := 2) (by omega) (by omega)).mp q; omega), if_ (show ¬ (1 : Int32) = 0 by decide), K_cnt (by omega) (by decide), bd_s, vgd_t (v2 (by omega)), n_C (n := i) (by omega), it (hL.2.2.1.trans hL.2.1.symm), show (0 : Int32) = nI 0 from rfl, is_66 (by omega) hL z m 2000 0 (by omega) (by omega), bd_s, is_262 (by omega) hL z 12 2000 0 (by omega) (by omega), bd_s, vlet_e, nI_1]
    exact ih N (i + 1) (by omega) (by omega)
theorem A_isSo (h : Ls an af av ae aw sc cn cf) (z : Int32) : F_L_isSo an af av ae aw cn cf z = some 1 := by
  have h2 : F_L_keyOf cn cf 2 (-1) 0 = some 0 := (K_cnt (c := 2) (by omega) (by decide)).trans (congrArg some h.2.1)
  have h3 : F_L_keyOf cn cf 3 (-1) 0 = some 0 := (K_cnt (c := 3) (by omega) (by decide)).trans (congrArg some h.2.2.1)
  unfold F_L_isSo F_L_isSo_25
  rw [h2, bd_s, it rfl, h3, bd_s, it rfl]
  exact is_30 h z 2 2000 0 (by omega) (by omega)
end IsSo

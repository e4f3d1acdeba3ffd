/-! ===== the law's own numbers say what the class's curve says ===== -/
theorem e8 (c k : Nat) : (8 : Int32) * nI c + nI k = nI (8 * c + k) := by rw [show (8 : Int32) = nI 8 from rfl, pk_mul, nI_add]
theorem e80 (c : Nat) : (8 : Int32) * nI c = nI (8 * c) := pk_mul 8 c
theorem v16 {a : Nat} (h : a < 16) : ix (nI a) 16 := n_ix h (by omega)
theorem v2 {a : Nat} (h : a < 2) : ix (nI a) 2 := n_ix h (by omega)
def eN (F : Nat → Int32) (k : Nat) : Int32 := 100 * F (6 * k + 2) + 10 * F (6 * k + 3) + F (6 * k + 5)
/-- a row of the law's, curve c's part of it: m numbers -/
def Lr (m : Nat) (G : Nat → Int32) (c : Nat) (a : Nat → Int32) : Prop := ∀ k, k < m → a (8 * c + k) = G k
def Lq (m : Nat) (F : Nat → Int32) (c : Nat) (af av ae aw : Nat → Int32) : Prop := Lr m (fun k => F (6 * k)) c af ∧ Lr m (fun k => F (6 * k + 1)) c av ∧ Lr m (eN F) c ae ∧ Lr m (fun k => F (6 * k + 4)) c aw
/-- only curve c's part differs -/
def Ou (c : Nat) (a a' : Nat → Int32) : Prop := ∀ j, j / 8 ≠ c → a' j = a j
theorem Ou.rf {c : Nat} {a : Nat → Int32} : Ou c a a := fun _ _ => rfl
theorem Ou.tr {c : Nat} {a b d : Nat → Int32} (h : Ou c a b) (h2 : Ou c b d) : Ou c a d := fun j hj => (h2 j hj).trans (h j hj)
theorem Ou.up {c j : Nat} {a : Nat → Int32} {v : Int32} (h : j / 8 = c) : Ou c a (upd a j v) := fun i hi => upd_n (fun q => hi (by rw [q]; exact h))
theorem Lr.cg {m c : Nat} {G G' a : Nat → Int32} (h : Lr m G c a) (e : ∀ k, k < m → G' k = G k) : Lr m G' c a := fun k hk => (h k hk).trans (e k hk).symm
theorem Lr.mono {m m' c : Nat} {G a : Nat → Int32} (h : Lr m G c a) (hm : m' ≤ m) : Lr m' G c a := fun k hk => h k (by omega)
theorem eN_d : ∀ i, i < 6 → ∀ j, j < 3 → ∀ d, d < 2 → (100 * nI i + 10 * nI j + nI d) / 100 = nI i ∧ ((100 * nI i + 10 * nI j + nI d) / 10) - ((100 * nI i + 10 * nI j + nI d) / 10) / 10 * 10 = nI j ∧ (100 * nI i + 10 * nI j + nI d) - (100 * nI i + 10 * nI j + nI d) / 10 * 10 = nI d ∧ (100 * nI i + 10 * nI j + nI d) - (100 * nI i + 10 * nI j + nI d) / 100 * 100 = 10 * nI j + nI d := by decide +kernel
theorem eN_s {n k : Nat} {F : Nat → Int32} (hC : Cv n F) (hk : k < n) : eN F k / 100 = F (6 * k + 2) ∧ (eN F k / 10) - (eN F k / 10) / 10 * 10 = F (6 * k + 3) ∧ eN F k - eN F k / 10 * 10 = F (6 * k + 5) ∧ eN F k - eN F k / 100 * 100 = 10 * F (6 * k + 3) + F (6 * k + 5) := by
  obtain ⟨-, -, -, -, g5, g6, g7, g8, -, -, g11⟩ := hC.2.1 k hk
  obtain ⟨i, hi, ei⟩ := n_of' (n := 6) g5 (by omega)
  obtain ⟨j, hj, ej⟩ := n_of' (n := 3) g7 (by omega)
  have hd : ∃ d, d < 2 ∧ F (6 * k + 5) = nI d := by
    rcases g11 with q | q
    · exact ⟨0, by omega, q⟩
    · exact ⟨1, by omega, q⟩
  obtain ⟨d, hd, ed⟩ := hd
  unfold eN
  rw [ei, ej, ed]
  exact eN_d i hi j hj d hd
theorem m_min {m k : Nat} (h : k < m) (hm : m ≤ 8) {c : Nat} (hc : c < 2) : 8 * c + k < 16 := by omega
/-! the key at a frame -/
theorem lAt_no {m c : Nat} {an af G : Nat → Int32} (hc : c < 2) (hm : m ≤ 8) (han : an c = nI m) (hf : Lr m G c af) (fr : Int32) : ∀ (r N i : Nat) (v : Int32), i + r = m → r < N → (∀ k, i ≤ k → k < m → G k ≠ fr) → F_L_keyAt_6 an af (nI c) fr N v (nI i) = some v := by
  intro r
  induction r with
  | zero =>
    intro N i v hi hN h
    obtain ⟨N, rfl⟩ : ∃ z, N = z + 1 := ⟨N - 1, by omega⟩
    rw [F_L_keyAt_6, vgd_t (v2 hc), n_C (by omega), han, it (by rw [n_le (by omega) (by omega)]; omega)]
  | succ r ih =>
    intro N i v hi hN h
    obtain ⟨N, rfl⟩ : ∃ z, N = z + 1 := ⟨N - 1, by omega⟩
    rw [F_L_keyAt_6, vgd_t (v2 hc), n_C (n := c) (by omega), han, if_ (by rw [n_le (by omega) (by omega)]; omega), e8, vgd_t (v16 (by omega)), n_C (by omega), hf i (by omega), if_ (h i (Nat.le_refl _) (by omega)), vlet_e, nI_1]
    exact ih N (i + 1) v (by omega) (by omega) (fun k hk hk2 => h k (by omega) hk2)
theorem lAt_is {m c : Nat} {an af G : Nat → Int32} (hc : c < 2) (hm : m ≤ 8) (han : an c = nI m) (hf : Lr m G c af) (fr : Int32) {k : Nat} (hk : k < m) (e : G k = fr) (hu : ∀ j, j < m → G j = fr → j = k) : ∀ (r N i : Nat) (v : Int32), i + r = m → r < N → i ≤ k → F_L_keyAt_6 an af (nI c) fr N v (nI i) = some (nI k) := by
  intro r
  induction r with
  | zero => intro N i v hi hN h; omega
  | succ r ih =>
    intro N i v hi hN h
    obtain ⟨N, rfl⟩ : ∃ z, N = z + 1 := ⟨N - 1, by omega⟩
    rw [F_L_keyAt_6, vgd_t (v2 hc), n_C (n := c) (by omega), han, if_ (by rw [n_le (by omega) (by omega)]; omega), e8, vgd_t (v16 (by omega)), n_C (by omega), hf i (by omega)]
    by_cases g : G i = fr
    · have : i = k := hu i (by omega) g
      subst this
      rw [it g, vlet_e, nI_1]
      exact lAt_no hc hm han hf fr r N (i + 1) _ (by omega) (by omega) (fun j hj hj2 q => by have := hu j hj2 q; omega)
    · have : i ≠ k := fun q => g (by rw [q]; exact e)
      rw [if_ g, vlet_e, nI_1]
      exact ih N (i + 1) v (by omega) (by omega) (by omega)
theorem lKeyAt {m c : Nat} {an af F : Nat → Int32} (hc : c < 2) (hm : m ≤ 8) (han : an c = nI m) (hC : Cv m F) (hf : Lr m (fun k => F (6 * k)) c af) (fr : Int32) : (∃ k, k < m ∧ F (6 * k) = fr ∧ F_L_keyAt an af (nI c) fr = some (nI k)) ∨ (NoF m F fr ∧ F_L_keyAt an af (nI c) fr = some (-1)) := by
  unfold F_L_keyAt
  by_cases hex : ∃ k, k < m ∧ F (6 * k) = fr
  · obtain ⟨k, k1, k2⟩ := hex
    exact Or.inl ⟨k, k1, k2, lAt_is hc hm han hf fr k1 k2 (fun j hj q => one_at hC hj k1 (q.trans k2.symm)) m 2000 0 (-1) (by omega) (by omega) (by omega)⟩
  · exact Or.inr ⟨fun k hk e => hex ⟨k, hk, e⟩, lAt_no hc hm han hf fr m 2000 0 (-1) (by omega) (by omega) (fun k _ hk e => hex ⟨k, hk, e⟩)⟩
/-! locks -/
theorem lHas_5 {m c : Nat} {an ae F : Nat → Int32} (hc : c < 2) (hm : m ≤ 8) (han : an c = nI m) (hC : Cv m F) (he : Lr m (eN F) c ae) : ∀ (r N i : Nat) (a : Bool), i + r = m → r < N → F_L_hasLock_5 an ae (nI c) N (b1 a) (nI i) = some (b1 (a || lkR F r i)) := by
  intro r
  induction r with
  | zero =>
    intro N i a hi hN
    obtain ⟨N, rfl⟩ : ∃ z, N = z + 1 := ⟨N - 1, by omega⟩
    rw [F_L_hasLock_5, vgd_t (v2 hc), n_C (by omega), han, it (by rw [n_le (by omega) (by omega)]; omega), vgd_t (by cases a <;> decide)]
    cases a <;> rfl
  | succ r ih =>
    intro N i a hi hN
    obtain ⟨N, rfl⟩ : ∃ z, N = z + 1 := ⟨N - 1, by omega⟩
    rw [F_L_hasLock_5, vgd_t (v2 hc), n_C (n := c) (by omega), han, if_ (by rw [n_le (by omega) (by omega)]; omega), lkR_s]
    cases a with
    | true =>
      rw [if_ b1t, vlet_e, nI_1]
      exact (ih N (i + 1) true (by omega) (by omega)).trans rfl
    | false =>
      rw [it b1f, e8, vgd_t (v16 (by omega)), n_C (by omega), he i (by omega), (eN_s hC (by omega)).2.2.1, vlet_e, vlet_e, nI_1]
      by_cases g : F (6 * i + 5) = 1
      · rw [it g]
        have := ih N (i + 1) true (by omega) (by omega)
        rw [decide_eq_true g]
        exact this
      · rw [if_ g]
        have := ih N (i + 1) false (by omega) (by omega)
        rw [decide_eq_false g]
        exact this
theorem lHas {m c : Nat} {an ae F : Nat → Int32} (hc : c < 2) (hm : m ≤ 8) (han : an c = nI m) (hC : Cv m F) (he : Lr m (eN F) c ae) : F_L_hasLock an ae (nI c) = some (b1 (lkR F m 0)) := by
  have := lHas_5 hc hm han hC he m 2000 0 false (by omega) (by omega)
  rw [Bool.false_or] at this
  exact this
/-! stretched frames -/
theorem lThen (f x y p : Int32) : F_L_then f x y p = some (strS f x y p) := by
  unfold F_L_then strS
  rw [vlet_e]
  by_cases g : x ≤ f
  · rw [it g, it g]
    by_cases g2 : f ≤ y
    · rw [it g2, if_ (by rw [fa_lt]; rw [fa_le] at g2; omega)]
    · rw [if_ g2, it (by rw [fa_lt]; rw [fa_le] at g2; omega)]
      congr 1
      rw [Int32.sub_eq_add_neg, Int32.sub_eq_add_neg (a := f + (y - x) * p / 100), Int32.add_assoc]
  · rw [if_ g, if_ g]
def noM (F : Nat → Int32) (x y p its : Int32) : Nat → Nat → Bool
  | 0, _ => true
  | r + 1, i => !decide (strS (F (6 * i)) x y p = its) && noM F x y p its r (i + 1)
theorem noM_iff {F : Nat → Int32} {x y p its : Int32} : ∀ r i, noM F x y p its r i = true ↔ ∀ j, i ≤ j → j < i + r → strS (F (6 * j)) x y p ≠ its := by
  intro r
  induction r with
  | zero => intro i; exact ⟨fun _ j h1 h2 => absurd h2 (by omega), fun _ => rfl⟩
  | succ r ih =>
    intro i
    rw [noM, Bool.and_eq_true, ih, Bool.not_eq_true', decide_eq_false_iff_not]
    constructor
    · intro h j h1 h2
      by_cases q : j = i
      · subst q; exact h.1
      · exact h.2 j (by omega) (by omega)
    · intro h
      exact ⟨h i (by omega) (by omega), fun j h1 h2 => h j (by omega) (by omega)⟩
theorem lMay_82 {m c : Nat} {an af ae F : Nat → Int32} (hc : c < 2) (hm : m ≤ 8) (hf : Lr m (fun k => F (6 * k)) c af) (x y p its : Int32) {k : Nat} (hk : k ≤ m) : ∀ (r N i : Nat) (a : Bool), i + r = k → r < N → F_L_mayStretch_82 an af ae (nI c) x y p (nI (8 * c + k)) its N (b1 a) (nI (8 * c + i)) = some (b1 (a && noM F x y p its r i)) := by
  intro r
  induction r with
  | zero =>
    intro N i a hi hN
    obtain ⟨N, rfl⟩ : ∃ z, N = z + 1 := ⟨N - 1, by omega⟩
    rw [F_L_mayStretch_82, it (by rw [n_le (by omega) (by omega)]; omega)]
    cases a <;> rfl
  | succ r ih =>
    intro N i a hi hN
    obtain ⟨N, rfl⟩ : ∃ z, N = z + 1 := ⟨N - 1, by omega⟩
    rw [F_L_mayStretch_82, if_ (by rw [n_le (by omega) (by omega)]; omega), noM, vlet_e, nI_1, show 8 * c + i + 1 = 8 * c + (i + 1) by omega]
    cases a with
    | false =>
      rw [it b1f]
      exact (ih N (i + 1) false (by omega) (by omega)).trans rfl
    | true =>
      rw [if_ b1t, vgd_t (v16 (by omega)), n_C (by omega), hf i (by omega), lThen, bd_s]
      dsimp only
      by_cases g : strS (F (6 * i)) x y p = its
      · rw [it g, decide_eq_true g]
        exact (ih N (i + 1) false (by omega) (by omega)).trans rfl
      · rw [if_ g, decide_eq_false g]
        exact (ih N (i + 1) true (by omega) (by omega)).trans rfl
def allM (F : Nat → Int32) (x y p : Int32) : Nat → Nat → Bool
  | 0, _ => true
  | r + 1, i => (decide (strS (F (6 * i)) x y p ≤ 999) && (decide (F (6 * i + 5) = 0) || decide (strS (F (6 * i)) x y p = F (6 * i))) && noM F x y p (strS (F (6 * i)) x y p) i 0) && allM F x y p r (i + 1)
theorem lMay_9 {m c : Nat} {an af ae F : Nat → Int32} (hc : c < 2) (hm : m ≤ 8) (han : an c = nI m) (hC : Cv m F) (hf : Lr m (fun k => F (6 * k)) c af) (he : Lr m (eN F) c ae) (x y p : Int32) : ∀ (r N i : Nat) (a : Bool), i + r = m → r < N → F_L_mayStretch_9 an af ae (nI c) x y p N (b1 a) (nI (8 * c + i)) = some (b1 (a && allM F x y p r i)) := by
  intro r
  induction r with
  | zero =>
    intro N i a hi hN
    obtain ⟨N, rfl⟩ : ∃ z, N = z + 1 := ⟨N - 1, by omega⟩
    rw [F_L_mayStretch_9, vgd_t (v2 hc), n_C (n := c) (by omega), han, e8, it (by rw [n_le (by omega) (by omega)]; omega), vgd_t (by cases a <;> decide)]
    cases a <;> rfl
  | succ r ih =>
    intro N i a hi hN
    obtain ⟨N, rfl⟩ : ∃ z, N = z + 1 := ⟨N - 1, by omega⟩
    have inn : ∀ b : Bool, (F_L_mayStretch_82 an af ae (nI c) x y p (nI (8 * c + i)) (strS (F (6 * i)) x y p) 2000 (b1 b) (nI (8 * c))).bind (fun o => F_L_mayStretch_9 an af ae (nI c) x y p N o (nI (8 * c + (i + 1)))) = some (b1 ((b && noM F x y p (strS (F (6 * i)) x y p) i 0) && allM F x y p r (i + 1))) := by
      intro b
      have h82 := lMay_82 (an := an) (ae := ae) hc hm hf x y p (strS (F (6 * i)) x y p) (k := i) (by omega) i 2000 0 b (by omega) (by omega)
      rw [Nat.add_zero] at h82
      rw [h82, bd_s]
      exact ih N (i + 1) _ (by omega) (by omega)
    have e999 : (1000 : Int32) ≤ strS (F (6 * i)) x y p ↔ ¬ strS (F (6 * i)) x y p ≤ 999 := by
      rw [fa_le, fa_le]
      have h1 : (1000 : Int32).toInt = 1000 := rfl
      have h2 : (999 : Int32).toInt = 999 := rfl
      omega
    rw [F_L_mayStretch_9, vgd_t (v2 hc), n_C (n := c) (by omega), han, e8, if_ (by rw [n_le (by omega) (by omega)]; omega), vgd_t (v16 (by omega)), n_C (n := 8 * c + i) (by omega), hf i (by omega), lThen, bd_s, allM, he i (by omega), (eN_s hC (by omega)).2.2.1, nI_1, e80, show 8 * c + i + 1 = 8 * c + (i + 1) by omega]
    simp only [vlet_e]
    cases a with
    | false =>
      rw [it b1f]
      exact (inn false).trans rfl
    | true =>
      rw [if_ b1t]
      by_cases g1 : strS (F (6 * i)) x y p ≤ 999
      · rw [if_ (fun q => e999.mp q g1), vgd_t (v16 (by omega)), decide_eq_true g1]
        by_cases g2 : F (6 * i + 5) = 0
        · rw [it g2, decide_eq_true g2]
          exact (inn true).trans (by simp)
        · rw [if_ g2, vgd_t (v16 (by omega)), decide_eq_false g2]
          by_cases g3 : strS (F (6 * i)) x y p = F (6 * i)
          · rw [it g3, decide_eq_true g3]
            exact (inn true).trans (by simp)
          · rw [if_ g3, decide_eq_false g3]
            exact (inn false).trans (by simp)
      · rw [it (e999.mpr g1), decide_eq_false g1]
        exact (inn false).trans (by simp)
theorem lMay {m c : Nat} {an af ae F : Nat → Int32} (hc : c < 2) (hm : m ≤ 8) (han : an c = nI m) (hC : Cv m F) (hf : Lr m (fun k => F (6 * k)) c af) (he : Lr m (eN F) c ae) (x y p : Int32) : F_L_mayStretch an af ae (nI c) x y p = some (b1 (allM F x y p m 0)) := by
  unfold F_L_mayStretch
  rw [vlet_e, e80]
  exact lMay_9 hc hm han hC hf he x y p m 2000 0 true (by omega) (by omega)

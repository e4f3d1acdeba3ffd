/-! ===== stretching: all pairs apart, or neighbors apart ===== -/
theorem allM_iff {F : Nat → Int32} {x y p : Int32} : ∀ r i, allM F x y p r i = true ↔ ∀ k, i ≤ k → k < i + r → strS (F (6 * k)) x y p ≤ 999 ∧ (F (6 * k + 5) = 0 ∨ strS (F (6 * k)) x y p = F (6 * k)) ∧ ∀ j, j < k → strS (F (6 * j)) x y p ≠ strS (F (6 * k)) x y p := by
  intro r
  induction r with
  | zero => intro i; exact ⟨fun _ k h1 h2 => absurd h2 (by omega), fun _ => rfl⟩
  | succ r ih =>
    intro i
    rw [allM, Bool.and_eq_true, ih, Bool.and_eq_true, Bool.and_eq_true, Bool.or_eq_true, decide_eq_true_eq, decide_eq_true_eq, decide_eq_true_eq, noM_iff]
    constructor
    · intro h k h1 h2
      by_cases q : k = i
      · subst q
        exact ⟨h.1.1.1, h.1.1.2, fun j hj => h.1.2 j (Nat.zero_le _) (by omega)⟩
      · exact h.2 k (by omega) (by omega)
    · intro h
      obtain ⟨a, b, d⟩ := h i (by omega) (by omega)
      exact ⟨⟨⟨a, b⟩, fun j _ hj => d j (by omega)⟩, fun k h1 h2 => h k (by omega) (by omega)⟩
theorem mayR_iff {F : Nat → Int32} {x y p : Int32} : ∀ r i b, mayR F x y p r i b = true ↔ (∀ k, i ≤ k → k < i + r → strS (F (6 * k)) x y p ≤ 999 ∧ (F (6 * k + 5) = 0 ∨ strS (F (6 * k)) x y p = F (6 * k))) ∧ (0 < r → strS (F (6 * i)) x y p ≠ b) ∧ ∀ k, i ≤ k → k + 1 < i + r → strS (F (6 * (k + 1))) x y p ≠ strS (F (6 * k)) x y p := by
  intro r
  induction r with
  | zero => intro i b; exact ⟨fun _ => ⟨fun k h1 h2 => absurd h2 (by omega), fun h => absurd h (by omega), fun k h1 h2 => absurd h2 (by omega)⟩, fun _ => rfl⟩
  | succ r ih =>
    intro i b
    rw [mayR_s, Bool.and_eq_true, ih, Bool.and_eq_true, Bool.and_eq_true, Bool.or_eq_true, decide_eq_true_eq, decide_eq_true_eq, decide_eq_true_eq, decide_eq_true_eq]
    constructor
    · intro h
      refine ⟨fun k h1 h2 => ?_, fun _ => h.1.1.2, fun k h1 h2 => ?_⟩
      · by_cases q : k = i
        · subst q
          exact ⟨h.1.1.1, h.1.2⟩
        · exact h.2.1 k (by omega) (by omega)
      · by_cases q : k = i
        · subst q
          exact h.2.2.1 (by omega)
        · exact h.2.2.2 k (by omega) (by omega)
    · intro h
      obtain ⟨a, b'⟩ := h.1 i (by omega) (by omega)
      exact ⟨⟨⟨a, h.2.1 (by omega)⟩, b'⟩, fun k h1 h2 => h.1 k (by omega) (by omega), fun _ => h.2.2 i (by omega) (by omega), fun k h1 h2 => h.2.2 k (by omega) (by omega)⟩
theorem allM_mayR {n x y p : Nat} {F : Nat → Int32} (h : Cv n F) (hxy : x < y) (hy : y ≤ 999) (hp : p ≤ 500) : allM F (nI x) (nI y) (nI p) n 0 = mayR F (nI x) (nI y) (nI p) n 0 (-1) := by
  have fr : ∀ j, j < n → ∃ a, a ≤ 999 ∧ F (6 * j) = nI a := by
    intro j hj
    obtain ⟨g1, g2, -⟩ := h.2.1 j hj
    obtain ⟨a, ha, e⟩ := n_of' (n := 1000) g1 (by omega)
    exact ⟨a, by omega, e⟩
  have st : ∀ j, j < n → ∃ a, a < 10000 ∧ strS (F (6 * j)) (nI x) (nI y) (nI p) = nI a := by
    intro j hj
    obtain ⟨a, ha, e⟩ := fr j hj
    exact ⟨_, strN_sm (p := p) ha hxy hy hp, by rw [e, strS_N ha hxy hy hp]⟩
  have mono : ∀ i j, i ≤ j → j < n → (strS (F (6 * i)) (nI x) (nI y) (nI p)).toInt ≤ (strS (F (6 * j)) (nI x) (nI y) (nI p)).toInt := by
    intro i j hij hj
    obtain ⟨a, ha, ea⟩ := fr i (by omega)
    obtain ⟨b, hb, eb⟩ := fr j hj
    have q : a ≤ b := by
      by_cases q : i = j
      · subst q
        have e : nI a = nI b := ea.symm.trans eb
        rw [n_eq (by omega) (by omega)] at e
        omega
      · have := h.2.2 i j (by omega) hj
        rw [ea, eb, n_T (by omega), n_T (by omega)] at this
        omega
    have s1 := strN_le (p := p) q hxy
    have b1 := strN_sm (p := p) ha hxy hy hp
    have b2 := strN_sm (p := p) hb hxy hy hp
    rw [ea, eb, strS_N ha hxy hy hp, strS_N hb hxy hy hp, n_T (by omega), n_T (by omega)]
    omega
  rw [Bool.eq_iff_iff, allM_iff, mayR_iff]
  constructor
  · intro g
    refine ⟨fun k h1 h2 => ⟨(g k h1 h2).1, (g k h1 h2).2.1⟩, fun h0 q => ?_, fun k h1 h2 q => ?_⟩
    · obtain ⟨a, ha, ea⟩ := st 0 (by omega)
      rw [ea] at q
      exact nI_ne (by omega) q
    · exact (g (k + 1) (by omega) h2).2.2 k (by omega) q.symm
  · intro g k h1 h2
    refine ⟨(g.1 k h1 h2).1, (g.1 k h1 h2).2, fun j hj q => ?_⟩
    have ne := g.2.2 (k - 1) (Nat.zero_le _) (by omega)
    rw [show k - 1 + 1 = k by omega] at ne
    have m1 := mono j (k - 1) (by omega) (by omega)
    have m2 := mono (k - 1) k (by omega) (by omega)
    rw [q] at m1
    exact ne (Int32.toInt_inj.mp (by omega))
/-! ===== tangents ===== -/
theorem lTang {m c k : Nat} {an af av ae aw F : Nat → Int32} (hc : c < 2) (hm : m ≤ 8) (han : an c = nI m) (hC : Cv m F) (hq : Lq m F c af av ae aw) (hk : k < m) : F_L_tangent an af av ae aw (nI c) (nI k) = some (tangS m F k) := by
  obtain ⟨hf, hv, he, hw⟩ := hq
  unfold F_L_tangent tangS
  rw [e8, vlet_e, vgd_t (v16 (by omega)), n_C (n := 8 * c + k) (by omega), he k hk, (eN_s hC hk).2.1, vlet_e, hw k hk]
  by_cases h1 : F (6 * k + 3) = 0
  · rw [it h1, it h1, it h1, vgd_t (v16 (by omega))]
  · rw [if_ h1, if_ h1, if_ h1]
    by_cases h2 : k = 0
    · rw [it (show nI k = 0 by rw [h2]; rfl), it h2]
    · have hk0 : ¬ nI k = 0 := fun q => h2 ((n_eq (b := 0) (by omega) (by omega)).mp q)
      rw [if_ hk0, if_ h2, vgd_t (v2 hc), n_C (n := c) (by omega), han, n_s1 (by omega)]
      by_cases h3 : k + 1 = m
      · rw [it (show nI k = nI (m - 1) by congr 1; omega), it h3]
      · have hk1 : ¬ nI k = nI (m - 1) := fun q => h3 (by have := (n_eq (by omega) (by omega)).mp q; omega)
        rw [if_ hk1, if_ h3, vgd_t (v16 (by omega)), n_s1 (by omega), nI_1, vgd_t (v16 (by omega)), n_C (n := 8 * c + k - 1) (by omega), n_C (n := 8 * c + k + 1) (by omega), show 8 * c + k - 1 = 8 * c + (k - 1) by omega, show 8 * c + k + 1 = 8 * c + (k + 1) by omega, hv k hk, hv (k - 1) (by omega), hv (k + 1) (by omega), vlet_e, vgd_t (v16 (by omega)), vgd_t (v16 (by omega)), vlet_e]
        dsimp only
        obtain ⟨-, -, a1, a2, -⟩ := hC.2.1 k hk
        obtain ⟨-, -, b1', b2, -⟩ := hC.2.1 (k - 1) (by omega)
        obtain ⟨-, -, d1, d2, -⟩ := hC.2.1 (k + 1) (by omega)
        have t1 := fb_subI (x := (F (6 * k + 1))) (y := (F (6 * (k - 1) + 1))) (by omega) (by omega)
        have t2 := fb_subI (x := (F (6 * (k + 1) + 1))) (y := (F (6 * k + 1))) (by omega) (by omega)
        have es : (F (6 * k + 1)) - (F (6 * (k - 1) + 1)) + ((F (6 * (k + 1) + 1)) - (F (6 * k + 1))) = (F (6 * (k + 1) + 1)) - (F (6 * (k - 1) + 1)) := by
          rw [Int32.sub_eq_add_neg, Int32.sub_eq_add_neg (a := (F (6 * (k + 1) + 1))), Int32.sub_eq_add_neg (a := (F (6 * (k + 1) + 1))), Int32.add_comm ((F (6 * k + 1)) + -(F (6 * (k - 1) + 1))), Int32.add_assoc, ← Int32.add_assoc (-(F (6 * k + 1))), Int32.add_left_neg, Int32.zero_add]
        obtain ⟨p1, p2⟩ := frame_pos hC (j := k - 1) (k := k + 1) (by omega) (by omega)
        have hz : ¬ F (6 * (k + 1)) - F (6 * (k - 1)) = 0 := fun q => by rw [q] at p1; exact absurd p1 (by decide)
        have e126 : F_L_tangent_126 an af av ae aw (nI (8 * c + k)) ((F (6 * k + 1)) - (F (6 * (k - 1) + 1))) ((F (6 * (k + 1) + 1)) - (F (6 * k + 1))) = some ((1000 * ((F (6 * (k + 1) + 1)) - (F (6 * (k - 1) + 1)))) / (F (6 * (k + 1)) - F (6 * (k - 1)))) := by
          unfold F_L_tangent_126
          rw [nI_1, n_s1 (by omega), vgd_t (v16 (by omega)), vgd_t (v16 (by omega)), n_C (n := 8 * c + k - 1) (by omega), n_C (n := 8 * c + k + 1) (by omega), show 8 * c + k - 1 = 8 * c + (k - 1) by omega, show 8 * c + k + 1 = 8 * c + (k + 1) by omega, hf (k - 1) (by omega), hf (k + 1) (by omega), vgd_t hz, es]
        have e104 : F_L_tangent_104 an af av ae aw (nI (8 * c + k)) (F (6 * k + 3)) ((F (6 * k + 1)) - (F (6 * (k - 1) + 1))) ((F (6 * (k + 1) + 1)) - (F (6 * k + 1))) = some ((1000 * ((F (6 * (k + 1) + 1)) - (F (6 * (k - 1) + 1)))) / (F (6 * (k + 1)) - F (6 * (k - 1)))) := by
          unfold F_L_tangent_104 F_L_tangent_109
          rw [e126, if_ (show ¬ (1 : Int32) = 0 by decide)]
          by_cases g : F (6 * k + 3) = 2
          · rw [it g]
          · rw [if_ g]
        have e108 : F_L_tangent_108 an af av ae aw (nI (8 * c + k)) (F (6 * k + 3)) ((F (6 * k + 1)) - (F (6 * (k - 1) + 1))) ((F (6 * (k + 1) + 1)) - (F (6 * k + 1))) = some (if F (6 * k + 3) = 2 then 0 else (1000 * ((F (6 * (k + 1) + 1)) - (F (6 * (k - 1) + 1)))) / (F (6 * (k + 1)) - F (6 * (k - 1)))) := by
          unfold F_L_tangent_108 F_L_tangent_109
          rw [e126, it (show (0 : Int32) = 0 from rfl)]
          by_cases g : F (6 * k + 3) = 2
          · rw [it g, it g]
          · rw [if_ g, if_ g]
        unfold F_L_tangent_94
        rw [e104, e108]
        have z0 : (0 : Int32).toInt = 0 := rfl
        have tb : turnB (F (6 * (k - 1) + 1)) (F (6 * k + 1)) (F (6 * (k + 1) + 1)) = true ↔ ((F (6 * (k - 1) + 1)).toInt ≤ (F (6 * k + 1)).toInt ∧ (F (6 * (k + 1) + 1)).toInt ≤ (F (6 * k + 1)).toInt) ∨ ((F (6 * k + 1)).toInt ≤ (F (6 * (k - 1) + 1)).toInt ∧ (F (6 * k + 1)).toInt ≤ (F (6 * (k + 1) + 1)).toInt) := by
          unfold turnB
          rw [Bool.or_eq_true, Bool.and_eq_true, Bool.and_eq_true, decide_eq_true_eq, decide_eq_true_eq, decide_eq_true_eq, decide_eq_true_eq, fa_le, fa_le, fa_le, fa_le]
        by_cases hT : turnB (F (6 * (k - 1) + 1)) (F (6 * k + 1)) (F (6 * (k + 1) + 1)) = true
        · have hT' := tb.mp hT
          have e2 : (if F (6 * k + 3) = 2 ∧ turnB (F (6 * (k - 1) + 1)) (F (6 * k + 1)) (F (6 * (k + 1) + 1)) = true then (0 : Int32) else 1000 * ((F (6 * (k + 1) + 1)) - (F (6 * (k - 1) + 1))) / (F (6 * (k + 1)) - F (6 * (k - 1)))) = if F (6 * k + 3) = 2 then 0 else 1000 * ((F (6 * (k + 1) + 1)) - (F (6 * (k - 1) + 1))) / (F (6 * (k + 1)) - F (6 * (k - 1))) := by
            by_cases g : F (6 * k + 3) = 2
            · rw [it ⟨g, hT⟩, it g]
            · rw [if_ (fun q => g q.1), if_ g]
          rw [e2]
          by_cases g1 : (F (6 * k + 1)) - (F (6 * (k - 1) + 1)) ≤ 0
          · rw [it g1]
            by_cases g2 : 0 ≤ (F (6 * k + 1)) - (F (6 * (k - 1) + 1))
            · rw [it g2]
            · rw [if_ g2, it (show 0 ≤ (F (6 * (k + 1) + 1)) - (F (6 * k + 1)) from by rw [fa_le] at g1 g2 ⊢; omega)]
          · rw [if_ g1, if_ (show ¬ 0 < (F (6 * (k + 1) + 1)) - (F (6 * k + 1)) from by rw [fa_le] at g1; rw [fa_lt]; omega)]
            by_cases g2 : 0 ≤ (F (6 * k + 1)) - (F (6 * (k - 1) + 1))
            · rw [it g2]
            · exact absurd g2 (by rw [fa_le] at g1 ⊢; omega)
        · have hT' : ¬ (((F (6 * (k - 1) + 1)).toInt ≤ (F (6 * k + 1)).toInt ∧ (F (6 * (k + 1) + 1)).toInt ≤ (F (6 * k + 1)).toInt) ∨ ((F (6 * k + 1)).toInt ≤ (F (6 * (k - 1) + 1)).toInt ∧ (F (6 * k + 1)).toInt ≤ (F (6 * (k + 1) + 1)).toInt)) := fun q => hT (tb.mpr q)
          rw [if_ (fun q : _ ∧ _ => hT q.2)]
          by_cases g1 : (F (6 * k + 1)) - (F (6 * (k - 1) + 1)) ≤ 0
          · rw [it g1, if_ (show ¬ 0 ≤ (F (6 * k + 1)) - (F (6 * (k - 1) + 1)) from by rw [fa_le] at g1 ⊢; omega), if_ (show ¬ 0 ≤ (F (6 * (k + 1) + 1)) - (F (6 * k + 1)) from by rw [fa_le] at g1 ⊢; omega)]
          · rw [if_ g1, it (show 0 < (F (6 * (k + 1) + 1)) - (F (6 * k + 1)) from by rw [fa_le] at g1; rw [fa_lt]; omega)]
/-! ===== values ===== -/
theorem rise_eq (d t m n : Int64) : (((d * t) * t) * (3000 - (2 * t)) + ((m * t) * (1000 - t)) * (1000 - t)) - ((n * t) * t) * (1000 - t) = ((d * ((3000 * (t * t)) - (2 * ((t * t) * t)))) + (m * ((((t * t) * t) - (2000 * (t * t))) + (1000000 * t)))) + (n * (((t * t) * t) - (1000 * (t * t)))) := by grind
theorem zero32 (v : Int32) : v + (0 : Int64).toInt32 = v := Int32.add_zero v
theorem lSeg {m c a : Nat} {an af av ae aw F : Nat → Int32} (hc : c < 2) (hm : m ≤ 8) (han : an c = nI m) (hC : Cv m F) (hq : Lq m F c af av ae aw) (ha : a + 1 < m) {fr : Int32} (h2 : fr < F (6 * (a + 1))) (N : Nat) : F_L_value_68 an af av ae aw (nI c) fr (nI (8 * c)) (N + 1) (nI a) = some (segS m F a fr) := by
  have hT1 := lTang hc hm han hC hq (k := a) (by omega)
  have hT2 := lTang hc hm han hC hq (k := a + 1) (by omega)
  obtain ⟨hf, hv, he, hw⟩ := hq
  obtain ⟨p1, p2⟩ := frame_pos hC (j := a) (k := a + 1) (by omega) (by omega)
  have hz : ¬ (F (6 * (a + 1)) - F (6 * a)).toInt64 = 0 := fun q => by
    have h1 : (F (6 * (a + 1)) - F (6 * a)).toInt64.toInt = 0 := by rw [q]; rfl
    rw [Int32.toInt_toInt64] at h1
    rw [fa_lt] at p1
    have z0 : (0 : Int32).toInt = 0 := rfl
    omega
  obtain ⟨-, -, -, -, g5, g6, -⟩ := hC.2.1 a (by omega)
  obtain ⟨i, hi, ei⟩ := n_of' (n := 6) g5 (by omega)
  unfold segS
  rw [F_L_value_68, nI_add, nI_1, vgd_t (v16 (by omega)), n_C (n := 8 * c + a) (by omega), n_C (n := 8 * c + a + 1) (by omega), show 8 * c + a + 1 = 8 * c + (a + 1) by omega, hf (a + 1) (by omega), it h2, vgd_t (v16 (by omega)), vgd_t (v16 (by omega)), hf a (by omega), vlet_e, vgd_t (v16 (by omega)), vgd_t hz, vlet_e, vgd_t (v16 (by omega)), vgd_t (v16 (by omega)), hv a (by omega), hv (a + 1) (by omega), vlet_e, vlet_e, vgd_t (v16 (by omega)), he a (by omega), (eN_s hC (by omega)).1, vlet_e, ei]
  dsimp only
  rcases (show i = 0 ∨ i = 1 ∨ i = 2 ∨ i = 3 ∨ i = 4 ∨ i = 5 by omega) with rfl | rfl | rfl | rfl | rfl | rfl
  · rw [if_ (by decide), it (by decide), it (by decide), vgd_t (v16 (by omega)), zero32]
  · rw [if_ (by decide), if_ (by decide), it (by decide), if_ (by decide), it (by decide), vlet_e, vgd_t (v16 (by omega))]
  · rw [if_ (by decide), if_ (by decide), if_ (by decide), it (by decide), if_ (by decide), if_ (by decide), it (by decide), vlet_e, vgd_t (v16 (by omega))]
  · rw [if_ (by decide), if_ (by decide), if_ (by decide), if_ (by decide), it (by decide), if_ (by decide), if_ (by decide), if_ (by decide), it (by decide), vlet_e, vgd_t (v16 (by omega))]
  · rw [if_ (by decide), if_ (by decide), if_ (by decide), if_ (by decide), if_ (by decide), if_ (by decide), if_ (by decide), if_ (by decide), if_ (by decide), it (by decide), vlet_e, vgd_t (v16 (by omega))]
  · rw [it (by decide), if_ (by decide), if_ (by decide), if_ (by decide), if_ (by decide), if_ (by decide), hT1, bd_s, vlet_e, nI_1, hT2, bd_s, vlet_e, vgd_t (v16 (by omega)), rise_eq]
theorem segS_0 {m a : Nat} {F : Nat → Int32} : segS m F a (F (6 * a)) = F (6 * a + 1) := by
  have e0 : (F (6 * a) - F (6 * a)).toInt64 = 0 := by rw [Int32.sub_self]; rfl
  unfold segS
  dsimp only
  rw [e0]
  have t0 : (1000 * (0 : Int64)) / (F (6 * (a + 1)) - F (6 * a)).toInt64 = 0 := by
    rw [show (1000 : Int64) * 0 = 0 from rfl]
    exact Int64.zero_div
  rw [t0]
  have z (x : Int64) : x * 0 = 0 := Int64.mul_zero
  simp only [Int64.mul_zero, Int64.zero_mul, show ((0 : Int64) / 1000).toInt32 = 0 from rfl, show ((0 : Int64) / 1000000).toInt32 = 0 from rfl, show ((0 : Int64) / 1000000000).toInt32 = 0 from rfl, show (1000000 - (1000 - (0 : Int64)) * (1000 - 0)) = 0 from by decide, show (3000 * 0 - 2 * 0 : Int64) = 0 from rfl, show (0 - 0 + 0 : Int64) = 0 from rfl, show (0 - 0 : Int64) = 0 from rfl, show (0 + 0 : Int64) = 0 from rfl, Int32.add_zero, ite_self]
theorem lVal_68 {m c : Nat} {an af av ae aw F : Nat → Int32} (hc : c < 2) (hm : m ≤ 8) (han : an c = nI m) (hC : Cv m F) (hq : Lq m F c af av ae aw) {fr : Int32} (hl : fr < F (6 * (m - 1))) : ∀ (r N a : Nat), a + 1 + r = m → r ≤ N → (∀ k, k < a + 1 → F (6 * k) ≤ fr) → F_L_value_68 an af av ae aw (nI c) fr (nI (8 * c)) (N + 1) (nI a) = some (valS m F fr) := by
  intro r
  induction r with
  | zero =>
    intro N a ha hN h
    have := h a (by omega)
    rw [show m - 1 = a by omega] at hl
    rw [fa_lt] at hl
    rw [fa_le] at this
    omega
  | succ r ih =>
    intro N a ha hN h
    by_cases g : fr < F (6 * (a + 1))
    · rw [lSeg hc hm han hC hq (by omega) g]
      have e : cnt m F fr = a + 1 := cnt_uq (by omega) h (fun _ => g)
      unfold valS
      rw [e]
      dsimp only
      rw [if_ (by omega)]
    · obtain ⟨N, rfl⟩ : ∃ z, N = z + 1 := ⟨N - 1, by omega⟩
      have hf := hq.1
      rw [F_L_value_68, nI_add, nI_1, vgd_t (v16 (by omega)), n_C (n := 8 * c + a + 1) (by omega), show 8 * c + a + 1 = 8 * c + (a + 1) by omega, hf (a + 1) (by omega), if_ g, vlet_e, nI_1]
      refine ih N (a + 1) (by omega) (by omega) (fun k hk => ?_)
      by_cases q : k = a + 1
      · subst q
        rw [fa_lt] at g
        rw [fa_le]
        omega
      · exact h k (by omega)
theorem lVal {m c : Nat} {an af av ae aw F : Nat → Int32} (hc : c < 2) (hm : m ≤ 8) (han : an c = nI m) (hC : Cv m F) (hq : Lq m F c af av ae aw) (fr : Int32) : F_L_value an af av ae aw (nI c) fr = some (valS m F fr) := by
  have hf := hq.1
  have hv := hq.2.1
  unfold F_L_value
  rw [e80, vlet_e, vgd_t (v2 hc), n_C (n := c) (by omega), han, vlet_e]
  by_cases h0 : m = 0
  · subst h0
    rw [it (show nI 0 = 0 from rfl), it (show nI 0 = 0 from rfl)]
    rfl
  · have hm0 : ¬ nI m = 0 := fun q => h0 ((n_eq (b := 0) (by omega) (by omega)).mp q)
    have f0 := hf 0 (by omega)
    have v0 := hv 0 (by omega)
    rw [Nat.add_zero] at f0 v0
    rw [if_ hm0, if_ hm0, vgd_t (v16 (by omega)), n_C (n := 8 * c) (by omega), f0, v0, nI_add, n_s1 (by omega), vgd_t (v16 (by omega)), n_C (n := 8 * c + m - 1) (by omega), show 8 * c + m - 1 = 8 * c + (m - 1) by omega, hf (m - 1) (by omega), hv (m - 1) (by omega)]
    dsimp only
    by_cases g : F (6 * 0) < fr
    · rw [it g]
      by_cases g2 : fr < F (6 * (m - 1))
      · rw [it g2]
        exact lVal_68 hc hm han hC hq g2 (m - 1) 1999 0 (by omega) (by omega) (fun k hk => by rw [show k = 0 by omega, fa_le]; rw [fa_lt] at g; omega)
      · rw [if_ g2]
        have e : cnt m F fr = m - 1 + 1 := cnt_uq (by omega) (fun k hk => by
          rw [fa_le]
          rw [fa_lt] at g2
          by_cases q : k = m - 1
          · subst q; omega
          · have := hC.2.2 k (m - 1) (by omega) (by omega)
            omega) (fun h => absurd h (by omega))
        unfold valS
        rw [e]
        dsimp only
        rw [it (by omega)]
        exact vgd_t (v16 (by omega))
    · rw [if_ g]
      have hle : fr ≤ F (6 * 0) := by rw [fa_lt] at g; rw [fa_le]; omega
      by_cases q : fr = F (6 * 0)
      · subst q
        unfold valS
        by_cases h1 : m = 1
        · subst h1
          have e : cnt 1 F (F (6 * 0)) = 0 + 1 := cnt_uq (by omega) (fun k hk => by rw [show k = 0 by omega, fa_le]; omega) (fun h => absurd h (by omega))
          rw [e]
          dsimp only
          rw [it rfl]
          exact vgd_t (v16 (by omega))
        · have e : cnt m F (F (6 * 0)) = 0 + 1 := cnt_uq (by omega) (fun k hk => by rw [show k = 0 by omega, fa_le]; omega) (fun h => by have := hC.2.2 0 (0 + 1) (by omega) h; rw [fa_lt]; exact this)
          rw [e]
          dsimp only
          rw [if_ (by omega), segS_0]
          exact vgd_t (v16 (by omega))
      · have hlt : fr < F (6 * 0) := by
          rw [fa_eq] at q
          rw [fa_le] at hle
          rw [fa_lt]
          omega
        have e : cnt m F fr = 0 := cnt_uq (by omega) (fun k hk => absurd hk (by omega)) (fun _ => hlt)
        unfold valS
        rw [e]
        dsimp only
        rw [if_ h0]
        exact vgd_t (v16 (by omega))

/-! ===== the law's own rows: swapped, sorted in, dropped ===== -/
def swp (a : Nat → Int32) (i j : Nat) : Nat → Int32 := upd (upd a i (a j)) j (a i)
theorem lSwap {a : Nat → Int32} {i j : Nat} (hi : i < 16) (hj : j < 16) : F_L_swap a (nI i) (nI j) = some (swp a i j) := by
  unfold F_L_swap swp
  rw [vgd_t (v16 hi), vlet_e, vgd_t (v16 hj), vgd_t (v16 hi), vlet_e, vgd_t (v16 hj), vlet_e, n_C (n := i) (by omega), n_C (n := j) (by omega)]
/-- x put in behind p numbers of G -/
def gIn (p : Nat) (G : Nat → Int32) (x : Int32) : Nat → Int32 := fun j => if j = p then x else G (if j < p then j else j - 1)
def gDe (k : Nat) (G : Nat → Int32) : Nat → Int32 := fun j => G (if j < k then j else j + 1)
theorem gIn_p {p : Nat} {G : Nat → Int32} {x : Int32} : gIn p G x p = x := it rfl
theorem gIn_lo {p j : Nat} {G : Nat → Int32} {x : Int32} (h : j < p) : gIn p G x j = G j := by
  unfold gIn
  rw [if_ (by omega), it h]
theorem gIn_hi {p j : Nat} {G : Nat → Int32} {x : Int32} (h : p < j) : gIn p G x j = G (j - 1) := by
  unfold gIn
  rw [if_ (by omega), if_ (by omega)]
theorem swp_l {a : Nat → Int32} {i j : Nat} (h : i ≠ j) : swp a i j i = a j := by
  unfold swp
  rw [upd_n h, upd_s]
theorem swp_r {a : Nat → Int32} {i j : Nat} : swp a i j j = a i := upd_s
theorem swp_o {a : Nat → Int32} {i j q : Nat} (h1 : q ≠ i) (h2 : q ≠ j) : swp a i j q = a q := by
  unfold swp
  rw [upd_n h2, upd_n h1]
theorem swp_ou {c i j : Nat} {a : Nat → Int32} (h1 : i / 8 = c) (h2 : j / 8 = c) : Ou c a (swp a i j) := (Ou.up h1).tr (Ou.up h2)
theorem Lr_down {M c k : Nat} {G a : Nat → Int32} {x : Int32} (h : Lr (M + 1) (gIn (k + 1) G x) c a) (hk : k + 1 ≤ M) : Lr (M + 1) (gIn k G x) c (swp a (8 * c + (k + 1)) (8 * c + k)) := by
  intro j hj
  by_cases q : j = k
  · subst q
    rw [swp_r, h (j + 1) (by omega), gIn_p, gIn_p]
  · by_cases q2 : j = k + 1
    · subst q2
      rw [swp_l (by omega), h k (by omega), gIn_lo (by omega), gIn_hi (by omega)]
      rfl
    · rw [swp_o (by omega) (by omega), h j hj]
      by_cases q3 : j < k
      · rw [gIn_lo (by omega), gIn_lo q3]
      · rw [gIn_hi (by omega), gIn_hi (by omega)]
theorem Lr_up {M c k : Nat} {G a : Nat → Int32} {x : Int32} (h : Lr (M + 1) (gIn k G x) c a) (hk : k + 1 ≤ M) : Lr (M + 1) (gIn (k + 1) G x) c (swp a (8 * c + k) (8 * c + (k + 1))) := by
  intro j hj
  by_cases q : j = k
  · subst q
    rw [swp_l (by omega), h (j + 1) (by omega), gIn_hi (by omega), gIn_lo (by omega)]
    rfl
  · by_cases q2 : j = k + 1
    · subst q2
      rw [swp_r, h k (by omega), gIn_p, gIn_p]
    · rw [swp_o (by omega) (by omega), h j hj]
      by_cases q3 : j < k
      · rw [gIn_lo (by omega), gIn_lo (by omega)]
      · rw [gIn_hi (by omega), gIn_hi (by omega)]
/-- what sinks brings about: the key x1..x4 among the M others G1..G4 -/
def SkR (M p c : Nat) (G1 G2 G3 G4 : Nat → Int32) (x1 x2 x3 x4 : Int32) (af av ae aw : Nat → Int32) (r : Option (Int32 × (Nat → Int32) × (Nat → Int32) × (Nat → Int32) × (Nat → Int32))) : Prop :=
  ∃ af' av' ae' aw', r = some (nI p, af', av', ae', aw') ∧ Lr (M + 1) (gIn p G1 x1) c af' ∧ Lr (M + 1) (gIn p G2 x2) c av' ∧ Lr (M + 1) (gIn p G3 x3) c ae' ∧ Lr (M + 1) (gIn p G4 x4) c aw' ∧ Ou c af af' ∧ Ou c av av' ∧ Ou c ae ae' ∧ Ou c aw aw'
theorem SkR.to {M p c : Nat} {G1 G2 G3 G4 : Nat → Int32} {x1 x2 x3 x4 : Int32} {af av ae aw af1 av1 ae1 aw1 : Nat → Int32} {r : Option (Int32 × (Nat → Int32) × (Nat → Int32) × (Nat → Int32) × (Nat → Int32))} (h : SkR M p c G1 G2 G3 G4 x1 x2 x3 x4 af1 av1 ae1 aw1 r) (h1 : Ou c af af1) (h2 : Ou c av av1) (h3 : Ou c ae ae1) (h4 : Ou c aw aw1) : SkR M p c G1 G2 G3 G4 x1 x2 x3 x4 af av ae aw r := by
  obtain ⟨a, b, d, e, q, l1, l2, l3, l4, o1, o2, o3, o4⟩ := h
  exact ⟨a, b, d, e, q, l1, l2, l3, l4, h1.tr o1, h2.tr o2, h3.tr o3, h4.tr o4⟩
section Sinks
variable {M p c : Nat} {an G1 G2 G3 G4 : Nat → Int32} {x1 x2 x3 x4 : Int32}
theorem sk_end (hc : c < 2) (hM : M + 1 ≤ 8) (han : an c = nI (M + 1)) (hp : p ≤ M) (lo : ∀ j, j < p → G1 j < x1) (hi : ∀ j, p ≤ j → j < M → x1 < G1 j) {af av ae aw : Nat → Int32} {N : Nat} (h1 : Lr (M + 1) (gIn p G1 x1) c af) (h2 : Lr (M + 1) (gIn p G2 x2) c av) (h3 : Lr (M + 1) (gIn p G3 x3) c ae) (h4 : Lr (M + 1) (gIn p G4 x4) c aw) : SkR M p c G1 G2 G3 G4 x1 x2 x3 x4 af av ae aw (F_L_sinks_4 an (nI c) (N + 1) af av ae aw (nI p)) := by
  refine ⟨af, av, ae, aw, ?_, h1, h2, h3, h4, Ou.rf, Ou.rf, Ou.rf, Ou.rf⟩
  have ap := h1 p (by omega)
  rw [gIn_p] at ap
  have fin : (vgd (ix (nI c) 2) <| if an (nI c).toNatClampNeg ≤ nI (p + 1) then some (nI p, af, av, ae, aw) else vgd (ix (nI (8 * c + (p + 1))) 16) <| vgd (ix (nI (8 * c + p)) 16) <| if af (nI (8 * c + p)).toNatClampNeg ≤ af (nI (8 * c + (p + 1))).toNatClampNeg then some (nI p, af, av, ae, aw) else none) = some (nI p, af, av, ae, aw) := by
    rw [vgd_t (v2 hc), n_C (n := c) (by omega), han]
    by_cases g : M = p
    · rw [it (by rw [n_le (by omega) (by omega)]; omega)]
    · have an1 := h1 (p + 1) (by omega)
      rw [gIn_hi (by omega), Nat.add_sub_cancel] at an1
      have := hi p (Nat.le_refl _) (by omega)
      rw [if_ (by rw [n_le (by omega) (by omega)]; omega), vgd_t (v16 (by omega)), vgd_t (v16 (by omega)), n_C (n := 8 * c + p) (by omega), n_C (n := 8 * c + (p + 1)) (by omega), ap, an1, it (by rw [fa_le]; rw [fa_lt] at this; omega)]
  rw [vgd_t (v2 hc), n_C (n := c) (by omega), han] at fin
  rw [F_L_sinks_4, e8, nI_1, nI_1, show 8 * c + p + 1 = 8 * c + (p + 1) by omega]
  by_cases h0 : p = 0
  · rw [it (show nI p ≤ 0 from (n_le (b := 0) (by omega) (by omega)).mpr (by omega)), vgd_t (v2 hc), n_C (n := c) (by omega), han]
    by_cases g : nI (M + 1) ≤ nI (p + 1)
    · rw [it g]
    · rw [if_ g] at fin ⊢
      rw [vgd_t (v16 (by omega)), vgd_t (v16 (by omega))] at fin ⊢
      by_cases g2 : af (nI (8 * c + p)).toNatClampNeg ≤ af (nI (8 * c + (p + 1))).toNatClampNeg
      · rw [it g2]
      · rw [if_ g2] at fin
        cases fin
  · have an1 := h1 (p - 1) (by omega)
    rw [gIn_lo (by omega)] at an1
    have := lo (p - 1) (by omega)
    rw [if_ (show ¬ nI p ≤ 0 from fun q => by have := (n_le (b := 0) (by omega) (by omega)).mp q; omega), n_s1 (by omega), vgd_t (v16 (by omega)), vgd_t (v16 (by omega)), n_C (n := 8 * c + p) (by omega), n_C (n := 8 * c + p - 1) (by omega), show 8 * c + p - 1 = 8 * c + (p - 1) by omega, ap, an1, if_ (show ¬ x1 < G1 (p - 1) from by rw [fa_lt] at this ⊢; omega), vgd_t (v2 hc), n_C (n := c) (by omega), han]
    rw [n_C (n := 8 * c + p) (by omega), ap] at fin
    by_cases g : nI (M + 1) ≤ nI (p + 1)
    · rw [it g]
    · have gp : p + 1 < M + 1 := Nat.not_le.mp fun q => g ((n_le (by omega) (by omega)).mpr q)
      rw [if_ g] at fin ⊢
      rw [vgd_t (v16 (by omega)), vgd_t (v16 (by omega))] at fin ⊢
      by_cases g2 : x1 ≤ af (nI (8 * c + (p + 1))).toNatClampNeg
      · rw [it g2]
      · rw [if_ g2] at fin
        cases fin
theorem sk_down (hc : c < 2) (hM : M + 1 ≤ 8) (han : an c = nI (M + 1)) (hp : p ≤ M) (lo : ∀ j, j < p → G1 j < x1) (hi : ∀ j, p ≤ j → j < M → x1 < G1 j) : ∀ (d N : Nat) (af av ae aw : Nat → Int32), p + d ≤ M → d ≤ N → Lr (M + 1) (gIn (p + d) G1 x1) c af → Lr (M + 1) (gIn (p + d) G2 x2) c av → Lr (M + 1) (gIn (p + d) G3 x3) c ae → Lr (M + 1) (gIn (p + d) G4 x4) c aw → SkR M p c G1 G2 G3 G4 x1 x2 x3 x4 af av ae aw (F_L_sinks_4 an (nI c) (N + 1) af av ae aw (nI (p + d))) := by
  intro d
  induction d with
  | zero => intro N af av ae aw _ _ h1 h2 h3 h4; exact sk_end hc hM han hp lo hi h1 h2 h3 h4
  | succ d ih =>
    intro N af av ae aw hd hN h1 h2 h3 h4
    obtain ⟨N, rfl⟩ : ∃ z, N = z + 1 := ⟨N - 1, by omega⟩
    have ak := h1 (p + (d + 1)) (by omega)
    have ak1 := h1 (p + d) (by omega)
    rw [gIn_p] at ak
    rw [gIn_lo (by omega)] at ak1
    have := hi (p + d) (by omega) (by omega)
    rw [F_L_sinks_4, e8, if_ (show ¬ nI (p + (d + 1)) ≤ 0 from fun q => by have := (n_le (b := 0) (by omega) (by omega)).mp q; omega), n_s1 (by omega), n_s1 (by omega), vgd_t (v16 (by omega)), vgd_t (v16 (by omega)), n_C (n := 8 * c + (p + (d + 1))) (by omega), n_C (n := 8 * c + (p + (d + 1)) - 1) (by omega), show 8 * c + (p + (d + 1)) - 1 = 8 * c + (p + d) by omega, show p + (d + 1) - 1 = p + d by omega, ak, ak1, it this, if_ (show ¬ nI (p + (d + 1)) ≤ 0 from fun q => by have := (n_le (b := 0) (by omega) (by omega)).mp q; omega), vgd_t (v16 (by omega)), vgd_t (v16 (by omega)), if_ (show ¬ G1 (p + d) ≤ x1 from by rw [fa_lt] at this; rw [fa_le]; omega), vlet_e, e8, lSwap (by omega) (by omega), bd_s, lSwap (by omega) (by omega), bd_s, lSwap (by omega) (by omega), bd_s, lSwap (by omega) (by omega), bd_s]
    exact (ih N _ _ _ _ (by omega) (by omega) (Lr_down h1 (by omega)) (Lr_down h2 (by omega)) (Lr_down h3 (by omega)) (Lr_down h4 (by omega))).to (swp_ou (by omega) (by omega)) (swp_ou (by omega) (by omega)) (swp_ou (by omega) (by omega)) (swp_ou (by omega) (by omega))
theorem sk_up (hc : c < 2) (hM : M + 1 ≤ 8) (han : an c = nI (M + 1)) (hp : p ≤ M) (lo : ∀ j, j < p → G1 j < x1) (hi : ∀ j, p ≤ j → j < M → x1 < G1 j) : ∀ (d N k : Nat) (af av ae aw : Nat → Int32), k + d = p → d ≤ N → Lr (M + 1) (gIn k G1 x1) c af → Lr (M + 1) (gIn k G2 x2) c av → Lr (M + 1) (gIn k G3 x3) c ae → Lr (M + 1) (gIn k G4 x4) c aw → SkR M p c G1 G2 G3 G4 x1 x2 x3 x4 af av ae aw (F_L_sinks_4 an (nI c) (N + 1) af av ae aw (nI k)) := by
  intro d
  induction d with
  | zero => intro N k af av ae aw hk _ h1 h2 h3 h4; rw [Nat.add_zero] at hk; subst hk; exact sk_end hc hM han hp lo hi h1 h2 h3 h4
  | succ d ih =>
    intro N k af av ae aw hd hN h1 h2 h3 h4
    obtain ⟨N, rfl⟩ : ∃ z, N = z + 1 := ⟨N - 1, by omega⟩
    have ak := h1 k (by omega)
    have ak1 := h1 (k + 1) (by omega)
    rw [gIn_p] at ak
    rw [gIn_hi (by omega), Nat.add_sub_cancel] at ak1
    have := lo k (by omega)
    have nx : SkR M p c G1 G2 G3 G4 x1 x2 x3 x4 af av ae aw ((F_L_swap af (nI (8 * c + k)) (nI (8 * c + (k + 1)))).bind fun y11 => (F_L_swap av (nI (8 * c + k)) (nI (8 * c + (k + 1)))).bind fun y13 => (F_L_swap ae (nI (8 * c + k)) (nI (8 * c + (k + 1)))).bind fun y15 => (F_L_swap aw (nI (8 * c + k)) (nI (8 * c + (k + 1)))).bind fun y17 => F_L_sinks_4 an (nI c) (N + 1) y11 y13 y15 y17 (nI (k + 1))) := by
      rw [lSwap (by omega) (by omega), bd_s, lSwap (by omega) (by omega), bd_s, lSwap (by omega) (by omega), bd_s, lSwap (by omega) (by omega), bd_s]
      exact (ih N (k + 1) _ _ _ _ (by omega) (by omega) (Lr_up h1 (by omega)) (Lr_up h2 (by omega)) (Lr_up h3 (by omega)) (Lr_up h4 (by omega))).to (swp_ou (by omega) (by omega)) (swp_ou (by omega) (by omega)) (swp_ou (by omega) (by omega)) (swp_ou (by omega) (by omega))
    have hgt : ¬ x1 ≤ G1 k := by rw [fa_lt] at this; rw [fa_le]; omega
    rw [F_L_sinks_4]
    simp only [e8, nI_1, vlet_e]
    by_cases h0 : k = 0
    · have hk0 : nI k ≤ 0 := (n_le (b := 0) (by omega) (by omega)).mpr (by omega)
      rw [it hk0, vgd_t (v2 hc), n_C (n := c) (by omega), han, if_ (by rw [n_le (by omega) (by omega)]; omega), vgd_t (v16 (by omega)), vgd_t (v16 (by omega)), n_C (n := 8 * c + k) (by omega), n_C (n := 8 * c + k + 1) (by omega), show 8 * c + k + 1 = 8 * c + (k + 1) by omega, ak, ak1, if_ hgt, it hk0]
      exact nx
    · have hk0 : ¬ nI k ≤ 0 := fun q => by have := (n_le (b := 0) (by omega) (by omega)).mp q; omega
      have ak2 := h1 (k - 1) (by omega)
      rw [gIn_lo (by omega)] at ak2
      have hlo := lo (k - 1) (by omega)
      rw [if_ hk0, n_s1 (by omega), vgd_t (v16 (by omega)), vgd_t (v16 (by omega)), n_C (n := 8 * c + k) (by omega), n_C (n := 8 * c + k - 1) (by omega), show 8 * c + k - 1 = 8 * c + (k - 1) by omega, ak, ak2, if_ (show ¬ x1 < G1 (k - 1) from by rw [fa_lt] at hlo ⊢; omega), vgd_t (v2 hc), n_C (n := c) (by omega), han, if_ (by rw [n_le (by omega) (by omega)]; omega), vgd_t (v16 (by omega)), vgd_t (v16 (by omega)), n_C (n := 8 * c + k + 1) (by omega), show 8 * c + k + 1 = 8 * c + (k + 1) by omega, ak1, if_ hgt, if_ hk0, vgd_t (v16 (by omega)), vgd_t (v16 (by omega)), it (show G1 (k - 1) ≤ x1 from by rw [fa_lt] at hlo; rw [fa_le]; omega)]
      exact nx
end Sinks
/-- the new key's numbers -/
abbrev eR (e m l : Int32) : Int32 := 100 * e + 10 * m + l
theorem gIn_F {p : Nat} {F : Nat → Int32} {fr v e m s l : Int32} : (fun k => insS p F (r6 fr v e m s l) (6 * k)) = gIn p (fun k => F (6 * k)) fr ∧ (fun k => insS p F (r6 fr v e m s l) (6 * k + 1)) = gIn p (fun k => F (6 * k + 1)) v ∧ eN (insS p F (r6 fr v e m s l)) = gIn p (eN F) (eR e m l) ∧ (fun k => insS p F (r6 fr v e m s l) (6 * k + 4)) = gIn p (fun k => F (6 * k + 4)) s := by
  have k0 : ∀ k, insS p F (r6 fr v e m s l) (6 * k) = if k = p then fr else F (6 * (if k < p then k else k - 1)) := fun k => insS_key (w := 0) (by omega)
  have k1 : ∀ k, insS p F (r6 fr v e m s l) (6 * k + 1) = if k = p then v else F (6 * (if k < p then k else k - 1) + 1) := fun k => insS_key (w := 1) (by omega)
  have k2 : ∀ k, insS p F (r6 fr v e m s l) (6 * k + 2) = if k = p then e else F (6 * (if k < p then k else k - 1) + 2) := fun k => insS_key (w := 2) (by omega)
  have k3 : ∀ k, insS p F (r6 fr v e m s l) (6 * k + 3) = if k = p then m else F (6 * (if k < p then k else k - 1) + 3) := fun k => insS_key (w := 3) (by omega)
  have k4 : ∀ k, insS p F (r6 fr v e m s l) (6 * k + 4) = if k = p then s else F (6 * (if k < p then k else k - 1) + 4) := fun k => insS_key (w := 4) (by omega)
  have k5 : ∀ k, insS p F (r6 fr v e m s l) (6 * k + 5) = if k = p then l else F (6 * (if k < p then k else k - 1) + 5) := fun k => insS_key (w := 5) (by omega)
  refine ⟨funext k0, funext k1, funext fun k => ?_, funext k4⟩
  unfold eN gIn
  rw [k2, k3, k5]
  by_cases q : k = p
  · rw [it q, it q, it q, it q]
  · rw [if_ q, if_ q, if_ q, if_ q]
theorem gDe_F {k : Nat} {F : Nat → Int32} : (fun j => delS k F (6 * j)) = gDe k (fun j => F (6 * j)) ∧ (fun j => delS k F (6 * j + 1)) = gDe k (fun j => F (6 * j + 1)) ∧ eN (delS k F) = gDe k (eN F) ∧ (fun j => delS k F (6 * j + 4)) = gDe k (fun j => F (6 * j + 4)) := by
  have d0 : ∀ j, delS k F (6 * j) = F (6 * (if j < k then j else j + 1)) := fun j => delS_key (w := 0) (by omega)
  refine ⟨funext d0, funext fun j => delS_key (w := 1) (by omega), funext fun j => ?_, funext fun j => delS_key (w := 4) (by omega)⟩
  unfold eN gDe
  rw [delS_key (w := 2) (by omega), delS_key (w := 3) (by omega), delS_key (w := 5) (by omega)]
theorem cnt_sides {n : Nat} {F : Nat → Int32} {fr : Int32} (hC : Cv n F) (hno : NoF n F fr) : (∀ j, j < cnt n F fr → F (6 * j) < fr) ∧ ∀ j, cnt n F fr ≤ j → j < n → fr < F (6 * j) := by
  obtain ⟨-, g2, g3, g4⟩ := cntS_spec F fr n 0
  refine ⟨fun j hj => ?_, fun j h1 h2 => ?_⟩
  · have a := g3 j (Nat.zero_le _) hj
    have b := hno j (by have : cnt n F fr ≤ n := cnt_le; omega)
    rw [fa_le] at a
    rw [fa_lt]
    have : (F (6 * j)).toInt ≠ fr.toInt := fun q => b (Int32.toInt_inj.mp q)
    omega
  · have a := g4 (by show cnt n F fr < 0 + n; omega)
    rw [fa_lt] at a ⊢
    by_cases q : j = cnt n F fr
    · subst q; exact a
    · have := hC.2.2 (cnt n F fr) j (by omega) h2
      exact Int.lt_trans a this
/-- the law's sinks, the key anywhere among the others -/
theorem lSinks {M c k : Nat} {an F : Nat → Int32} {fr v e m s l : Int32} (hc : c < 2) (hM : M + 1 ≤ 8) (hk : k ≤ M) (han : an c = nI (M + 1)) (hC : Cv M F) (hno : NoF M F fr) {af av ae aw : Nat → Int32} (h : Lq (M + 1) (insS k F (r6 fr v e m s l)) c af av ae aw) : ∃ af' av' ae' aw', F_L_sinks an af av ae aw (nI c) (nI k) = some (nI (cnt M F fr), af', av', ae', aw') ∧ Lq (M + 1) (insS (cnt M F fr) F (r6 fr v e m s l)) c af' av' ae' aw' ∧ Ou c af af' ∧ Ou c av av' ∧ Ou c ae ae' ∧ Ou c aw aw' := by
  obtain ⟨i1, i2, i3, i4⟩ := gIn_F (p := k) (F := F) (fr := fr) (v := v) (e := e) (m := m) (s := s) (l := l)
  obtain ⟨j1, j2, j3, j4⟩ := gIn_F (p := cnt M F fr) (F := F) (fr := fr) (v := v) (e := e) (m := m) (s := s) (l := l)
  obtain ⟨h1, h2, h3, h4⟩ := h
  rw [i1] at h1
  rw [i2] at h2
  rw [i3] at h3
  rw [i4] at h4
  obtain ⟨lo, hi⟩ := cnt_sides hC hno
  have hp : cnt M F fr ≤ M := cnt_le
  unfold F_L_sinks Lq
  rw [j1, j2, j3, j4]
  have fin : SkR M (cnt M F fr) c (fun k => F (6 * k)) (fun k => F (6 * k + 1)) (eN F) (fun k => F (6 * k + 4)) fr v (eR e m l) s af av ae aw (F_L_sinks_4 an (nI c) 2000 af av ae aw (nI k)) := by
    generalize cnt M F fr = p at lo hi hp
    rcases Nat.lt_or_ge k p with q | q
    · obtain ⟨d, rfl⟩ : ∃ d, p = k + d := ⟨p - k, by omega⟩
      exact sk_up hc hM han hp lo hi d 1999 k af av ae aw rfl (by omega) h1 h2 h3 h4
    · obtain ⟨d, rfl⟩ : ∃ d, k = p + d := ⟨k - p, by omega⟩
      exact sk_down hc hM han hp lo hi d 1999 af av ae aw (by omega) (by omega) h1 h2 h3 h4
  obtain ⟨a, b, d, e', q, l1, l2, l3, l4, o1, o2, o3, o4⟩ := fin
  exact ⟨a, b, d, e', q, ⟨l1, l2, l3, l4⟩, o1, o2, o3, o4⟩
/-! a key is dropped -/
def Mid (m k i : Nat) (G : Nat → Int32) (c : Nat) (a : Nat → Int32) : Prop := ∀ j, j < m → a (8 * c + j) = if j < k then G j else if j < i then G (j + 1) else G j
theorem Mid.up {m k i c : Nat} {G a : Nat → Int32} (h : Mid m k i G c a) (hk : k ≤ i) (hi : i + 1 < m) : Mid m k (i + 1) G c (upd a (8 * c + i) (a (8 * c + (i + 1)))) := by
  intro j hj
  by_cases q : j = i
  · subst q
    rw [upd_s, h (j + 1) (by omega), if_ (by omega), if_ (by omega), if_ (by omega), it (by omega)]
  · rw [upd_n (by omega), h j hj]
    by_cases q2 : j < k
    · rw [it q2, it q2]
    · rw [if_ q2, if_ q2]
      by_cases q3 : j < i
      · rw [it q3, it (by omega)]
      · rw [if_ q3, if_ (by omega)]
theorem Mid.fin {m k c : Nat} {G a : Nat → Int32} (h : Mid m k (m - 1) G c a) : Lr (m - 1) (gDe k G) c a := by
  intro j hj
  rw [h j (by omega)]
  unfold gDe
  by_cases q : j < k
  · rw [it q, it q]
  · rw [if_ q, if_ q, it hj]
theorem lDrop_18 {m c k : Nat} {an G1 G2 G3 G4 : Nat → Int32} (hc : c < 2) (hm : m ≤ 8) (han : an c = nI (m - 1)) (hk : k < m) : ∀ (r N i : Nat) (af av ae aw : Nat → Int32), i + r = m - 1 → r < N → k ≤ i → Mid m k i G1 c af → Mid m k i G2 c av → Mid m k i G3 c ae → Mid m k i G4 c aw → ∃ af' av' ae' aw', F_L_drop_18 an (nI c) N af av ae aw (nI (8 * c + i)) = some (an, af', av', ae', aw') ∧ Lr (m - 1) (gDe k G1) c af' ∧ Lr (m - 1) (gDe k G2) c av' ∧ Lr (m - 1) (gDe k G3) c ae' ∧ Lr (m - 1) (gDe k G4) c aw' ∧ Ou c af af' ∧ Ou c av av' ∧ Ou c ae ae' ∧ Ou c aw aw' := by
  intro r
  induction r with
  | zero =>
    intro N i af av ae aw hi hN hki h1 h2 h3 h4
    obtain ⟨N, rfl⟩ : ∃ z, N = z + 1 := ⟨N - 1, by omega⟩
    have : i = m - 1 := by omega
    subst this
    rw [F_L_drop_18, vgd_t (v2 hc), n_C (n := c) (by omega), han, e8, it (by rw [n_le (by omega) (by omega)]; omega)]
    exact ⟨_, _, _, _, rfl, h1.fin, h2.fin, h3.fin, h4.fin, Ou.rf, Ou.rf, Ou.rf, Ou.rf⟩
  | succ r ih =>
    intro N i af av ae aw hi hN hki h1 h2 h3 h4
    obtain ⟨N, rfl⟩ : ∃ z, N = z + 1 := ⟨N - 1, by omega⟩
    rw [F_L_drop_18, vgd_t (v2 hc), n_C (n := c) (by omega), han, e8, if_ (by rw [n_le (by omega) (by omega)]; omega)]
    simp only [nI_1, vlet_e]
    rw [vgd_t (v16 (by omega)), vgd_t (v16 (by omega)), vgd_t (v16 (by omega)), vgd_t (v16 (by omega)), vgd_t (v16 (by omega)), vgd_t (v16 (by omega)), vgd_t (v16 (by omega)), vgd_t (v16 (by omega)), n_C (n := 8 * c + i) (by omega), n_C (n := 8 * c + i + 1) (by omega), show 8 * c + i + 1 = 8 * c + (i + 1) by omega]
    obtain ⟨a, b, d, e, q, l1, l2, l3, l4, o1, o2, o3, o4⟩ := ih N (i + 1) _ _ _ _ (by omega) (by omega) (by omega) (h1.up hki (by omega)) (h2.up hki (by omega)) (h3.up hki (by omega)) (h4.up hki (by omega))
    exact ⟨a, b, d, e, q, l1, l2, l3, l4, (Ou.up (by omega)).tr o1, (Ou.up (by omega)).tr o2, (Ou.up (by omega)).tr o3, (Ou.up (by omega)).tr o4⟩
theorem lDrop {m c k : Nat} {an F : Nat → Int32} (hc : c < 2) (hm : m ≤ 8) (han : an c = nI m) (hk : k < m) {af av ae aw : Nat → Int32} (h : Lq m F c af av ae aw) : ∃ af' av' ae' aw', F_L_drop an af av ae aw (nI c) (nI k) = some (upd an c (nI (m - 1)), af', av', ae', aw') ∧ Lq (m - 1) (delS k F) c af' av' ae' aw' ∧ Ou c af af' ∧ Ou c av av' ∧ Ou c ae ae' ∧ Ou c aw aw' := by
  obtain ⟨h1, h2, h3, h4⟩ := h
  obtain ⟨d1, d2, d3, d4⟩ := gDe_F (k := k) (F := F)
  have md : ∀ {G a : Nat → Int32}, Lr m G c a → Mid m k k G c a := fun hl j hj => by
    rw [hl j hj]
    by_cases q : j < k
    · rw [it q]
    · rw [if_ q, if_ q]
  unfold F_L_drop Lq
  rw [vgd_t (v2 hc), vgd_t (v2 hc), vlet_e, n_C (n := c) (by omega), han, n_s1 (by omega), vlet_e, e8, d1, d2, d3, d4]
  obtain ⟨a, b, d, e, q, l1, l2, l3, l4, o1, o2, o3, o4⟩ := lDrop_18 (an := upd an c (nI (m - 1))) hc hm upd_s hk (m - 1 - k) 2000 k af av ae aw (by omega) (by omega) (Nat.le_refl _) (md h1) (md h2) (md h3) (md h4)
  exact ⟨a, b, d, e, q, ⟨l1, l2, l3, l4⟩, o1, o2, o3, o4⟩

/-! ===== the law's turns: stretching, copying ===== -/
section Acts2
variable {an af av ae aw : Nat → Int32} {bd : Nat → Nat → Nat} {sc : Int32} {cn : Nat → Int32} {cf : Nat → Nat → Int32} {sn : Nat → Nat → Int32} {sf : Nat → Nat → Nat → Int32} {c m k : Nat}
theorem str_1045 {F : Nat → Int32} (hc : c < 2) (hm : m ≤ 8) (han : an c = nI m) (x y p : Int32) : ∀ (r N i : Nat) (a0 : Nat → Int32) (v : Int32), i + r = m → r < N → (∀ j, j < i → a0 (8 * c + j) = strS (F (6 * j)) x y p) → (∀ j, i ≤ j → j < m → a0 (8 * c + j) = F (6 * j)) → ∃ a1, Lr m (fun j => strS (F (6 * j)) x y p) c a1 ∧ Ou c a0 a1 ∧ F_L_acts_1045 an av ae aw bd sc cn cf sn sf (nI c) x y p N a0 v (nI (8 * c + i)) = (F_L_stretches bd sc cn cf sn sf (nI c) x y p).bind fun o16 => if o16.1 = chg F x y p r i v then (some (1, an, a1, av, ae, aw, o16.2.1, o16.2.2.1, cn, o16.2.2.2.1, o16.2.2.2.2.1, o16.2.2.2.2.2)) else (some (0, an, a1, av, ae, aw, o16.2.1, o16.2.2.1, cn, o16.2.2.2.1, o16.2.2.2.2.1, o16.2.2.2.2.2)) := by
  intro r
  induction r with
  | zero =>
    intro N i a0 v hi hN h1 h2
    obtain ⟨N, rfl⟩ : ∃ z, N = z + 1 := ⟨N - 1, by omega⟩
    refine ⟨a0, fun j hj => h1 j (by omega), Ou.rf, ?_⟩
    rw [F_L_acts_1045, vgd_t (v2 hc), n_C (n := c) (by omega), han, e8, it (by rw [n_le (by omega) (by omega)]; omega)]
    rfl
  | succ r ih =>
    intro N i a0 v hi hN h1 h2
    obtain ⟨N, rfl⟩ : ∃ z, N = z + 1 := ⟨N - 1, by omega⟩
    have V : ix (nI (8 * c + i)) 16 := v16 (by omega)
    have a := h2 i (Nat.le_refl _) (by omega)
    have go := fun v' => ih N (i + 1) (upd a0 (8 * c + i) (strS (F (6 * i)) x y p)) v' (by omega) (by omega) (fun j hj => by
        by_cases q : j = i
        · subst q
          rw [upd_s]
        · rw [upd_n (by omega)]
          exact h1 j (by omega)) (fun j hj hj2 => by
        rw [upd_n (by omega)]
        exact h2 j (by omega) hj2)
    rw [F_L_acts_1045, vgd_t (v2 hc), n_C (n := c) (by omega), han, e8, if_ (by rw [n_le (by omega) (by omega)]; omega), vgd_t V, n_C (n := 8 * c + i) (by omega), a, lThen, bd_s]
    simp only [vlet_e, vgd_t V, nI_1]
    rw [show 8 * c + i + 1 = 8 * c + (i + 1) by omega, chg]
    by_cases g : strS (F (6 * i)) x y p = F (6 * i)
    · rw [it g, it g, Int32.add_zero]
      obtain ⟨a1, l1, o1, e⟩ := go v
      exact ⟨a1, l1, (Ou.up (by omega)).tr o1, e⟩
    · rw [if_ g, if_ g]
      obtain ⟨a1, l1, o1, e⟩ := go (v + 1)
      exact ⟨a1, l1, (Ou.up (by omega)).tr o1, e⟩
theorem A_str990 (h : Ls an af av ae aw sc cn cf) (hc : c < 2) {x y q d : Nat} (hxy : x < y) (hy : y ≤ 999) (hq0 : q < 100000) (hd : 0 < d ∧ d ≤ 491) : Ok (F_L_acts_990 an af av ae aw bd sc cn cf sn sf (nI c) (nI x) (nI y) 10 (nI q) (nI d)) := by
  obtain ⟨m, hL⟩ := h.1 c hc
  obtain ⟨hm, han, hcn, hC, hq⟩ := id hL
  have hc4 : c < 4 := by omega
  have hd0 : ¬ nI d = 0 := fun z => by have := (n_eq (b := 0) (by omega) (by omega)).mp z; omega
  have hr : q % d < d := Nat.mod_lt _ hd.1
  have ep : (10 : Int32) + nI (q % d) = nI (10 + q % d) := nI_add 10 _
  have hp : 10 ≤ 10 + q % d ∧ 10 + q % d ≤ 500 := ⟨by omega, by omega⟩
  unfold F_L_acts_990
  rw [vgd_t hd0, pk_rem (by omega) hd.1 (by omega), ep, vlet_e, lMay hc hm han hC hq.1 hq.2.2.1, bd_s, allM_mayR hC hxy hy hp.2]
  generalize 10 + q % d = p at hp
  cases hM : mayR (cf c) (nI x) (nI y) (nI p) m 0 (-1) with
  | false =>
    rw [it b1f, C_strN hc4 hcn hC hxy hy hp hM, bd_s]
    exact ⟨_, _, _, _, _, _, _, _, _, _, _, it rfl, h⟩
  | true =>
    obtain ⟨bd', sc', sn', sf', f', e1, hS', s1, s2⟩ := C_str (bd := bd) (cf := cf) (sn := sn) (sf := sf) h.2.2.2 h.pr hc4 hcn hC hxy hy hp hM
    obtain ⟨a1, l1, o1, e2⟩ := str_1045 (an := an) (av := av) (ae := ae) (aw := aw) (bd := bd) (sc := sc) (cn := cn) (cf := cf) (sn := sn) (sf := sf) (F := cf c) hc hm han (nI x) (nI y) (nI p) m 2000 0 af 0 (by omega) (by omega) (fun j hj => absurd hj (by omega)) (fun j _ hj => hq.1 j hj)
    rw [Nat.add_zero] at e2
    rw [if_ b1t, vlet_e, e80, e2, e1, bd_s]
    dsimp only
    have hC' := stretch_Cv hC hxy hy hp.2 s1 s2 hM
    refine ⟨_, _, _, _, _, _, _, _, _, _, _, it rfl, h.put hc hm han (fun d q => rfl) hcn (fun d q => rfl) (fun d q => vu_n q) (by rw [vu_s]; exact hC') ?_ o1 Ou.rf Ou.rf Ou.rf hS'⟩
    rw [vu_s]
    exact ⟨l1.cg fun j hj => s1 j hj, hq.2.1.cg fun j hj => s2 j 1 hj (by omega) (by omega), hq.2.2.1.cg fun j hj => by
      unfold eN
      rw [s2 j 2 hj (by omega) (by omega), s2 j 3 hj (by omega) (by omega), s2 j 5 hj (by omega) (by omega)], hq.2.2.2.cg fun j hj => s2 j 4 hj (by omega) (by omega)⟩
theorem A_str (h : Ls an af av ae aw sc cn cf) (hc : c < 2) {r : Nat} (hr : r < 100000) : Ok (F_L_acts_932 an af av ae aw bd sc cn cf sn sf (nI c) (nI r)) := by
  have e7 : nI r - nI r / 700 * 700 = nI (r % 700) := pk_rem (d := 700) (by omega) (by omega) (by omega)
  have d7 : nI r / 7 = nI (r / 7) := pk_div (d := 7) (by omega) (by omega) (by omega)
  have d11 : nI r / 11 = nI (r / 11) := pk_div (d := 11) (by omega) (by omega) (by omega)
  have hx : r % 700 < 700 := Nat.mod_lt _ (by omega)
  have go : ∀ D, 0 < D → D ≤ 299 → ∀ D' : Int32, D' = nI D → Ok (F_L_acts_964 an af av ae aw bd sc cn cf sn sf (nI c) (nI r) (nI (r % 700)) (nI (r % 700 + 1)) (nI (r / 7)) D') := by
    intro D h0 h1 D' hD'
    subst hD'
    have hD0 : ¬ nI D = 0 := fun z => by have := (n_eq (b := 0) (by omega) (by omega)).mp z; omega
    have hq : r / 7 % D < D := Nat.mod_lt _ h0
    unfold F_L_acts_964
    rw [vgd_t hD0, pk_rem (by omega) h0 (by omega), nI_add, vlet_e, d11]
    by_cases g : nI r - nI r / 2 * 2 = 0
    · rw [it g]
      exact A_str990 (d := 491) h hc (by omega) (by omega) (by omega) ⟨by omega, by omega⟩
    · rw [if_ g]
      exact A_str990 (d := 110) h hc (by omega) (by omega) (by omega) ⟨by omega, by omega⟩
  unfold F_L_acts_932
  rw [e7, vlet_e, nI_1, d7]
  by_cases g : nI r - nI r / 3 * 3 = 0
  · rw [it g]
    exact go 299 (by omega) (by omega) _ rfl
  · rw [if_ g]
    exact go 40 (by omega) (by omega) _ rfl
/-! copies -/
def Cpy (c d m i : Nat) (G G' a : Nat → Int32) : Prop := (∀ j, j < i → a (8 * c + j) = G' j) ∧ ∀ j, i ≤ j → j < m → a (8 * d + j) = G j
theorem Cpy.up {d i : Nat} {G G' a : Nat → Int32} {x : Int32} (hc : c < 2) (hd : d < 2) (hm : m ≤ 8) (hi : i < m) (h : Cpy c d m i G G' a) (hx : x = G' i) : Cpy c d m (i + 1) G G' (upd a (8 * c + i) x) := by
  refine ⟨fun j hj => ?_, fun j h1 h2 => ?_⟩
  · by_cases q : j = i
    · subst q
      rw [upd_s, hx]
    · rw [upd_n (by omega)]
      exact h.1 j (by omega)
  · rw [upd_n (by omega)]
    exact h.2 j (by omega) h2
theorem cpy_1313 {d : Nat} {an : Nat → Int32} {G1 G2 G3 G4 : Nat → Int32} (hc : c < 2) (hd : d < 2) (hm : m ≤ 8) (han : an c = nI m) (o : Int32) : ∀ (r N i : Nat) (af av ae aw : Nat → Int32), i + r = m → r < N → Cpy c d m i G1 G1 af → Cpy c d m i G2 (fun j => G2 j + o) av → Cpy c d m i G3 G3 ae → Cpy c d m i G4 G4 aw → ∃ af' av' ae' aw', Lr m G1 c af' ∧ Lr m (fun j => G2 j + o) c av' ∧ Lr m G3 c ae' ∧ Lr m G4 c aw' ∧ Ou c af af' ∧ Ou c av av' ∧ Ou c ae ae' ∧ Ou c aw aw' ∧ F_L_acts_1313 an bd sc cn cf sn sf (nI c) o (nI d) N af av ae aw (nI i) = (F_L_copies bd sc cn cf sn sf (nI c) (nI d) o).bind fun o15 => if o15.1 = nI m then (some (1, an, af', av', ae', aw', o15.2.1, o15.2.2.1, o15.2.2.2.1, o15.2.2.2.2.1, o15.2.2.2.2.2.1, o15.2.2.2.2.2.2)) else (some (0, an, af', av', ae', aw', o15.2.1, o15.2.2.1, o15.2.2.2.1, o15.2.2.2.2.1, o15.2.2.2.2.2.1, o15.2.2.2.2.2.2)) := by
  intro r
  induction r with
  | zero =>
    intro N i af av ae aw hi hN h1 h2 h3 h4
    obtain ⟨N, rfl⟩ : ∃ z, N = z + 1 := ⟨N - 1, by omega⟩
    have : i = m := by omega
    subst this
    refine ⟨af, av, ae, aw, h1.1, h2.1, h3.1, h4.1, Ou.rf, Ou.rf, Ou.rf, Ou.rf, ?_⟩
    rw [F_L_acts_1313, vgd_t (v2 hc), n_C (n := c) (by omega), han, it (by rw [n_le (by omega) (by omega)]; omega)]
    congr 1
    funext o15
    exact vgd_t (v2 hc)
  | succ r ih =>
    intro N i af av ae aw hi hN h1 h2 h3 h4
    obtain ⟨N, rfl⟩ : ∃ z, N = z + 1 := ⟨N - 1, by omega⟩
    have V : ix (nI (8 * c + i)) 16 := v16 (by omega)
    have V2 : ix (nI (8 * d + i)) 16 := v16 (by omega)
    have a1 := h1.2 i (Nat.le_refl _) (by omega)
    have a2 := h2.2 i (Nat.le_refl _) (by omega)
    have a3 := h3.2 i (Nat.le_refl _) (by omega)
    have a4 := h4.2 i (Nat.le_refl _) (by omega)
    rw [F_L_acts_1313, vgd_t (v2 hc), n_C (n := c) (by omega), han, if_ (by rw [n_le (by omega) (by omega)]; omega)]
    simp only [e8, vlet_e, vgd_t V, vgd_t V2, n_C (show 8 * c + i < 2147483648 by omega), n_C (show 8 * d + i < 2147483648 by omega), nI_1, a1, a2, a3, a4]
    obtain ⟨b1', b2, b3, b4, l1, l2, l3, l4, o1, o2, o3, o4, e⟩ := ih N (i + 1) _ _ _ _ (by omega) (by omega) (h1.up hc hd hm (by omega) rfl) (h2.up hc hd hm (by omega) rfl) (h3.up hc hd hm (by omega) rfl) (h4.up hc hd hm (by omega) rfl)
    exact ⟨b1', b2, b3, b4, l1, l2, l3, l4, (Ou.up (by omega)).tr o1, (Ou.up (by omega)).tr o2, (Ou.up (by omega)).tr o3, (Ou.up (by omega)).tr o4, e⟩
theorem okV_lt {v o : Int32} (h : -19998 ≤ (v + o).toInt ∧ (v + o).toInt ≤ 19998) : okV (v + o) = true ↔ ¬ (10000 : Int32) ≤ v + o ∧ ¬ v + o ≤ -10000 := by
  unfold okV
  rw [Bool.and_eq_true, decide_eq_true_eq, decide_eq_true_eq, fa_le, fa_le]
  have e1 : (10000 : Int32).toInt = 10000 := rfl
  have e2 : (-10000 : Int32).toInt = -10000 := rfl
  omega
theorem A_1254 (h : Ls an af av ae aw sc cn cf) (hc : c < 2) {d : Nat} (hd : d < 2) {o : Int32} (ho : -20 ≤ o.toInt ∧ o.toInt ≤ 20) {md : Nat} (hD : Lc an af av ae aw cn cf d md) (hL : Lc an af av ae aw cn cf c m) {b : Bool} (hb : b = false → lkR (cf c) m 0 = true ∨ raR (cf d) o md 0 = false) : Ok (F_L_acts_1254 an af av ae aw bd sc cn cf sn sf (nI c) o (nI d) (b1 b)) := by
  unfold F_L_acts_1254
  cases b with
  | false =>
    rw [it b1f, C_copyN (by omega) hL.2.2.1 hL.2.2.2.1 (by omega) hD.2.2.1 hD.2.2.2.1 (by omega) (hb rfl), bd_s]
    exact ⟨_, _, _, _, _, _, _, _, _, _, _, it rfl, h⟩
  | true =>
    rw [if_ b1t, C_copy4 (by omega), bd_s]
    exact ⟨_, _, _, _, _, _, _, _, _, _, _, it rfl, h⟩
theorem A_1183 (h : Ls an af av ae aw sc cn cf) (hc : c < 2) {d : Nat} (hd : d < 2) (R : Int32) {o : Int32} (ho : -20 ≤ o.toInt ∧ o.toInt ≤ 20) {md : Nat} (hD : Lc an af av ae aw cn cf d md) (hL : Lc an af av ae aw cn cf c m) : ∀ (r N i : Nat) (b : Bool), i + r = md → r < N → (∀ z, z = (b && raR (cf d) o r i) → (z = false → lkR (cf c) m 0 = true ∨ raR (cf d) o md 0 = false) ∧ (z = true → lkR (cf c) m 0 = false ∧ raR (cf d) o md 0 = true)) → Ok (F_L_acts_1183 an af av ae aw bd sc cn cf sn sf (nI c) R o (nI d) N (b1 b) (nI (8 * d + i))) := by
  obtain ⟨hmd, hand, hcnd, hCd, hqd⟩ := id hD
  obtain ⟨hm, han, hcn, hC, hq⟩ := id hL
  intro r
  induction r with
  | zero =>
    intro N i b hi hN hb
    obtain ⟨N, rfl⟩ : ∃ z, N = z + 1 := ⟨N - 1, by omega⟩
    have hb2 := hb b (by cases b <;> rfl)
    rw [F_L_acts_1183, vgd_t (v2 hd), n_C (n := d) (by omega), hand, e8, it (by rw [n_le (by omega) (by omega)]; omega)]
    cases b with
    | false =>
      rw [it b1f]
      exact A_1254 (b := false) h hc hd ho hD hL hb2.1
    | true =>
      rw [if_ b1t]
      by_cases g : R - R / 3 * 3 ≤ 0
      · obtain ⟨l0, r0⟩ := hb2.2 rfl
        obtain ⟨bd', sc', sn', sf', f', e1, hS', s1, s2⟩ := C_copy (bd := bd) (cf := cf) (sn := sn) (sf := sf) h.2.2.2 h.pr (by omega) hcn hC (by omega) hcnd hCd (show -9999 ≤ o.toInt ∧ o.toInt ≤ 9999 by omega) l0 r0
        obtain ⟨b1', b2, b3, b4, l1, l2, l3, l4, o1, o2, o3, o4, e2⟩ := cpy_1313 (bd := bd) (sc := sc) (cn := cn) (cf := cf) (sn := sn) (sf := sf) (an := upd an c (nI md)) (G1 := fun j => cf d (6 * j)) (G2 := fun j => cf d (6 * j + 1)) (G3 := eN (cf d)) (G4 := fun j => cf d (6 * j + 4)) hc hd hmd upd_s o md 2000 0 af av ae aw (by omega) (by omega) ⟨fun j hj => absurd hj (by omega), fun j _ hj => hqd.1 j hj⟩ ⟨fun j hj => absurd hj (by omega), fun j _ hj => hqd.2.1 j hj⟩ ⟨fun j hj => absurd hj (by omega), fun j _ hj => hqd.2.2.1 j hj⟩ ⟨fun j hj => absurd hj (by omega), fun j _ hj => hqd.2.2.2 j hj⟩
        have e2 : F_L_acts_1313 (upd an c (nI md)) bd sc cn cf sn sf (nI c) o (nI d) 2000 af av ae aw 0 = _ := e2
        rw [it g, vgd_t (v2 hd), vgd_t (v2 hc), n_C (n := c) (by omega), vlet_e, e2, e1, bd_s]
        dsimp only
        have hC' := raise_Cv hCd s1 s2 r0
        refine ⟨_, _, _, _, _, _, _, _, _, _, _, it rfl, h.put hc hmd upd_s (fun d q => upd_n q) vu_s (fun d q => vu_n q) (fun d q => vu_n q) (by rw [vu_s]; exact hC') ?_ o1 o2 o3 o4 hS'⟩
        rw [vu_s]
        exact ⟨l1.cg fun j hj => s2 j 0 hj (by omega) (by omega), l2.cg fun j hj => s1 j hj, l3.cg fun j hj => by
          unfold eN
          rw [s2 j 2 hj (by omega) (by omega), s2 j 3 hj (by omega) (by omega), s2 j 5 hj (by omega) (by omega)], l4.cg fun j hj => s2 j 4 hj (by omega) (by omega)⟩
      · rw [if_ g]
        exact A_1254 (b := true) h hc hd ho hD hL (fun z => by cases z)
  | succ r ih =>
    intro N i b hi hN hb
    obtain ⟨N, rfl⟩ : ∃ z, N = z + 1 := ⟨N - 1, by omega⟩
    have V : ix (nI (8 * d + i)) 16 := v16 (by omega)
    have a := hqd.2.1 i (by omega)
    dsimp only at a
    obtain ⟨-, -, g3, g4, -⟩ := hCd.2.1 i (by omega)
    have es := fb_addI (x := cf d (6 * i + 1)) (y := o) (by omega) (by omega)
    have ok := okV_lt (v := cf d (6 * i + 1)) (o := o) (by omega)
    rw [F_L_acts_1183, vgd_t (v2 hd), n_C (n := d) (by omega), hand, e8, if_ (by rw [n_le (by omega) (by omega)]; omega)]
    simp only [vlet_e, vgd_t V, n_C (show 8 * d + i < 2147483648 by omega), a, nI_1]
    rw [show 8 * d + i + 1 = 8 * d + (i + 1) by omega]
    cases b with
    | false =>
      rw [it b1f]
      exact ih N (i + 1) false (by omega) (by omega) (fun z hz => hb z (by rw [hz]; rfl))
    | true =>
      rw [if_ b1t]
      have no : okV (cf d (6 * i + 1) + o) = false → Ok (F_L_acts_1183 an af av ae aw bd sc cn cf sn sf (nI c) R o (nI d) N 0 (nI (8 * d + (i + 1)))) := fun q => ih N (i + 1) false (by omega) (by omega) (fun z hz => hb z (by rw [hz, raR_s, q]; rfl))
      by_cases g1 : (10000 : Int32) ≤ cf d (6 * i + 1) + o
      · rw [it g1]
        exact no (Bool.eq_false_iff.mpr fun q => (ok.mp q).1 g1)
      · rw [if_ g1]
        by_cases g2 : cf d (6 * i + 1) + o ≤ -10000
        · rw [it g2]
          exact no (Bool.eq_false_iff.mpr fun q => (ok.mp q).2 g2)
        · rw [if_ g2]
          have q := ok.mpr ⟨g1, g2⟩
          exact ih N (i + 1) true (by omega) (by omega) (fun z hz => hb z (by rw [hz, raR_s, q]; rfl))
theorem A_copy (h : Ls an af av ae aw sc cn cf) (hc : c < 2) {r : Nat} (hr : r < 100000) {o : Int32} (ho : -20 ≤ o.toInt ∧ o.toInt ≤ 20) : Ok (F_L_acts_1148 an af av ae aw bd sc cn cf sn sf (nI c) (nI r) o) := by
  have d2 : nI r / 2 = nI (r / 2) := pk_div (d := 2) (by omega) (by omega) (by omega)
  have e2 : nI (r / 2) - nI (r / 2) / 2 * 2 = nI (r / 2 % 2) := pk_rem (d := 2) (by omega) (by omega) (by omega)
  have hd : r / 2 % 2 < 2 := Nat.mod_lt _ (by omega)
  generalize r / 2 % 2 = d at e2 hd
  obtain ⟨m, hL⟩ := h.1 c hc
  obtain ⟨md, hD⟩ := h.1 d hd
  have hm := hL.1
  have hmd := hD.1
  unfold F_L_acts_1148 F_L_acts_1174
  rw [d2, e2, vlet_e, lHas hc hL.1 hL.2.1 hL.2.2.2.1 hL.2.2.2.2.2.2.1, bd_s, vlet_e, vlet_e, e80]
  cases hl : lkR (cf c) m 0 with
  | false =>
    rw [it b1f]
    exact A_1183 h hc hd (nI r) ho hD hL md 2000 0 true (by omega) (by omega) (fun z hz => ⟨fun q => Or.inr (by rw [q] at hz; exact hz.symm), fun q => ⟨hl, by rw [q] at hz; exact hz.symm⟩⟩)
  | true =>
    rw [if_ b1t]
    exact A_1183 h hc hd (nI r) ho hD hL md 2000 0 false (by omega) (by omega) (fun z hz => ⟨fun q => Or.inl hl, fun q => by rw [q] at hz; cases hz⟩)
end Acts2

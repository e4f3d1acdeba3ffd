/-! ===== the law's turns, case by case ===== -/
def Ok (r : Option (Int32 × (Nat → Int32) × (Nat → Int32) × (Nat → Int32) × (Nat → Int32) × (Nat → Int32) × (Nat → Nat → Nat) × Int32 × (Nat → Int32) × (Nat → Nat → Int32) × (Nat → Nat → Int32) × (Nat → Nat → Nat → Int32))) : Prop :=
  ∃ an af av ae aw bd sc cn cf sn sf, r = some (1, an, af, av, ae, aw, bd, sc, cn, cf, sn, sf) ∧ Ls an af av ae aw sc cn cf
/-- the key that a turn speaks of: none, a locked one, one that is free -/
def Kl (m : Nat) (F : Nat → Int32) (k : Nat) (v : Int32) : Prop := (m = 0 ∧ k = 0 ∧ v = 0) ∨ (k < m ∧ F (6 * k + 5) = 1 ∧ v = 1) ∨ (k < m ∧ F (6 * k + 5) ≠ 1 ∧ v = 0)
theorem Lr.app {m c : Nat} {G a : Nat → Int32} {x : Int32} (h : Lr m G c a) : Lr (m + 1) (gIn m G x) c (upd a (8 * c + m) x) := by
  intro j hj
  by_cases q : j = m
  · subst q
    rw [upd_s, gIn_p]
  · rw [upd_n (by omega), gIn_lo (by omega)]
    exact h j (by omega)
theorem Lr.set {m c k : Nat} {G a : Nat → Int32} {x : Int32} (h : Lr m G c a) : Lr m (fun j => if j = k then x else G j) c (upd a (8 * c + k) x) := by
  intro j hj
  dsimp only
  by_cases q : j = k
  · subst q
    rw [upd_s, it rfl]
  · rw [upd_n (by omega), if_ q]
    exact h j hj
theorem Lq.app {m c : Nat} {F af av ae aw : Nat → Int32} {fr v e mo s l : Int32} (h : Lq m F c af av ae aw) : Lq (m + 1) (insS m F (r6 fr v e mo s l)) c (upd af (8 * c + m) fr) (upd av (8 * c + m) v) (upd ae (8 * c + m) (eR e mo l)) (upd aw (8 * c + m) s) := by
  obtain ⟨i1, i2, i3, i4⟩ := gIn_F (p := m) (F := F) (fr := fr) (v := v) (e := e) (m := mo) (s := s) (l := l)
  unfold Lq
  rw [i1, i2, i3, i4]
  exact ⟨h.1.app, h.2.1.app, h.2.2.1.app, h.2.2.2.app⟩
theorem eR0 (g : Int32) : eR g 0 0 = 100 * g := by
  show 100 * g + 10 * 0 + 0 = 100 * g
  rw [show (10 : Int32) * 0 = 0 from rfl, Int32.add_zero, Int32.add_zero]
theorem gIn_gDe {k : Nat} {G : Nat → Int32} {x : Int32} : gIn k (gDe k G) x = fun j => if j = k then x else G j := by
  funext j
  by_cases q : j = k
  · subst q
    rw [gIn_p, it rfl]
  · rw [if_ q]
    unfold gIn gDe
    rw [if_ q]
    by_cases q2 : j < k
    · rw [it q2, it q2]
    · rw [if_ q2, if_ (by omega), show j - 1 + 1 = j by omega]
theorem if_self {k : Nat} {G : Nat → Int32} : (fun j => if j = k then G k else G j) = G := by
  funext j
  by_cases q : j = k
  · subst q
    exact it rfl
  · exact if_ q
theorem Lq.mov {m c k : Nat} {F af av ae aw : Nat → Int32} {fr : Int32} (h : Lq m F c af av ae aw) : Lq m (insS k (delS k F) (r6 fr (F (6 * k + 1)) (F (6 * k + 2)) (F (6 * k + 3)) (F (6 * k + 4)) (F (6 * k + 5)))) c (upd af (8 * c + k) fr) av ae aw := by
  obtain ⟨i1, i2, i3, i4⟩ := gIn_F (p := k) (F := delS k F) (fr := fr) (v := F (6 * k + 1)) (e := F (6 * k + 2)) (m := F (6 * k + 3)) (s := F (6 * k + 4)) (l := F (6 * k + 5))
  obtain ⟨d1, d2, d3, d4⟩ := gDe_F (k := k) (F := F)
  have s2 := if_self (k := k) (G := fun j => F (6 * j + 1))
  have s3 := if_self (k := k) (G := eN F)
  have s4 := if_self (k := k) (G := fun j => F (6 * j + 4))
  unfold Lq
  rw [i1, i2, i3, i4, d1, d2, d3, d4, gIn_gDe, gIn_gDe, gIn_gDe, gIn_gDe]
  refine ⟨h.1.set, ?_, ?_, ?_⟩
  · exact h.2.1.cg fun j _ => congrFun s2 j
  · exact h.2.2.1.cg fun j _ => congrFun s3 j
  · exact h.2.2.2.cg fun j _ => congrFun s4 j
theorem add_rot (a b d : Int32) : a + b + d = d + a + b := by rw [Int32.add_comm (a + b), ← Int32.add_assoc]
section Acts
variable {an af av ae aw : Nat → Int32} {bd : Nat → Nat → Nat} {sc : Int32} {cn : Nat → Int32} {cf : Nat → Nat → Int32} {sn : Nat → Nat → Int32} {sf : Nat → Nat → Nat → Int32} {c m k : Nat}
theorem A_add (h : Ls an af av ae aw sc cn cf) (hc : c < 2) {r : Nat} (hr : r < 100000) {v fr : Int32} (hf : 0 ≤ fr.toInt ∧ fr.toInt ≤ 999) (hv : -9999 ≤ v.toInt ∧ v.toInt ≤ 9999) : Ok (F_L_acts_213 an af av ae aw bd sc cn cf sn sf (nI c) (nI r) v fr) := by
  obtain ⟨m, hL⟩ := h.1 c hc
  obtain ⟨hm, han, hcn, hC, hq⟩ := id hL
  have hc4 : c < 4 := by omega
  have eg : nI r - nI r / 6 * 6 = nI (r % 6) := pk_rem (d := 6) (by omega) (by omega) (by omega)
  have tg := n_T (n := r % 6) (by omega)
  have hg : 0 ≤ (nI (r % 6)).toInt ∧ (nI (r % 6)).toInt ≤ 5 := by omega
  unfold F_L_acts_213
  rw [vgd_t (v2 hc), n_C (n := c) (by omega), han, eg]
  by_cases g8 : m = 8
  · rw [it (show nI m = 8 by rw [g8]; rfl), C_add6 hc4 hf hv, bd_s]
    exact ⟨_, _, _, _, _, _, _, _, _, _, _, it rfl, h⟩
  · rw [if_ (show ¬ nI m = 8 from fun q => g8 ((n_eq (b := 8) (by omega) (by omega)).mp q))]
    rcases lKeyAt hc hm han hC hq.1 fr with ⟨k, k1, k2, e⟩ | ⟨hno, e⟩
    · rw [e, bd_s, if_ (n_nn (by omega)), C_addAt hc4 hcn hC (by omega) hf hv hg k1 k2, bd_s]
      exact ⟨_, _, _, _, _, _, _, _, _, _, _, it rfl, h⟩
    · obtain ⟨bd', sc', sn', sf', f', e1, hS', a1⟩ := C_add (bd := bd) (cf := cf) (sn := sn) (sf := sf) h.2.2.2 h.pr hc4 hcn hC (by omega) hf hv hg hno
      have hq1 := hq.app (fr := fr) (v := v) (e := nI (r % 6)) (mo := 0) (s := 0) (l := 0)
      rw [eR0] at hq1
      obtain ⟨af', av', ae', aw', e2, q2, o1, o2, o3, o4⟩ := lSinks (an := upd an c (nI (m + 1))) hc (M := m) (k := m) (by omega) (Nat.le_refl _) upd_s hC hno hq1
      have V : ix (nI (8 * c + m)) 16 := v16 (by omega)
      have hN : 8 * c + m < 2147483648 := by omega
      rw [e, bd_s, it (show (-1 : Int32) < 0 by decide)]
      simp only [vlet_e, e8, nI_1, vgd_t (v2 hc), vgd_t V, n_C hN, e1, bd_s]
      rw [upd_s, nI_pred, e2, bd_s]
      have hC' := hC.ins (fr := fr) (v := v) (e := nI (r % 6)) (m := 0) (s := 0) (l := 0) (by omega) hf hv hg (by decide) (by decide) (Or.inl rfl) hno
      exact ⟨_, _, _, _, _, _, _, _, _, _, _, it rfl, h.put hc (by omega) upd_s (fun d q => upd_n q) vu_s (fun d q => vu_n q) (fun d q => vu_n q) (by rw [vu_s]; exact hC'.ag a1) (by rw [vu_s]; exact q2.ag a1) ((Ou.up (by omega)).tr o1) ((Ou.up (by omega)).tr o2) ((Ou.up (by omega)).tr o3) ((Ou.up (by omega)).tr o4) hS'⟩
theorem A_drop (h : Ls an af av ae aw sc cn cf) (hc : c < 2) (hL : Lc an af av ae aw cn cf c m) {v : Int32} (hk : Kl m (cf c) k v) : Ok (F_L_acts_378 an af av ae aw bd sc cn cf sn sf (nI c) (nI k) v) := by
  obtain ⟨hm, han, hcn, hC, hq⟩ := id hL
  have hc4 : c < 4 := by omega
  unfold F_L_acts_378
  rw [vgd_t (v2 hc), n_C (n := c) (by omega), han]
  rcases hk with ⟨rfl, rfl, rfl⟩ | ⟨hk, hl, rfl⟩ | ⟨hk, hl, rfl⟩
  · rw [it (show nI 0 = 0 from rfl)]
    unfold F_L_acts_390
    rw [C_drop0 hc4 hcn hC (Nat.le_refl _) (by omega), bd_s, vgd_t (v2 hc), n_C (n := c) (by omega), han, it (show nI 0 = 0 from rfl)]
    exact ⟨_, _, _, _, _, _, _, _, _, _, _, it rfl, h⟩
  · have hm0 : ¬ nI m = 0 := fun q => by have := (n_eq (b := 0) (by omega) (by omega)).mp q; omega
    rw [if_ hm0, if_ (show ¬ (1 : Int32) = 0 by decide)]
    unfold F_L_acts_390
    rw [C_dropL hc4 hcn hC hk hl, bd_s, vgd_t (v2 hc), n_C (n := c) (by omega), han, if_ hm0]
    exact ⟨_, _, _, _, _, _, _, _, _, _, _, it rfl, h⟩
  · have hm0 : ¬ nI m = 0 := fun q => by have := (n_eq (b := 0) (by omega) (by omega)).mp q; omega
    obtain ⟨bd', sc', sn', sf', f', e1, hS', a1⟩ := C_drop (bd := bd) (cf := cf) (sn := sn) (sf := sf) h.2.2.2 h.pr hc4 hcn hC hk hl
    obtain ⟨af', av', ae', aw', e2, q2, o1, o2, o3, o4⟩ := lDrop hc hm han hk hq
    rw [if_ hm0, it rfl, e2, bd_s, e1, bd_s, vgd_t (v2 hc)]
    dsimp only
    refine ⟨_, _, _, _, _, _, _, _, _, _, _, it ?_, h.put hc (m' := m - 1) (by omega) upd_s (fun d q => upd_n q) vu_s (fun d q => vu_n q) (fun d q => vu_n q) (by rw [vu_s]; exact (hC.del hk).ag a1) (by rw [vu_s]; exact q2.ag a1) o1 o2 o3 o4 hS'⟩
    rw [upd_s]
theorem A_set (h : Ls an af av ae aw sc cn cf) (hc : c < 2) (hL : Lc an af av ae aw cn cf c m) {l : Int32} (hk : Kl m (cf c) k l) {r : Nat} (hr : r < 100000) {v : Int32} (hv : -9999 ≤ v.toInt ∧ v.toInt ≤ 9999) : Ok (F_L_acts_456 an af av ae aw bd sc cn cf sn sf (nI c) (nI r) (nI k) (nI (8 * c + k)) l v) := by
  obtain ⟨hm, han, hcn, hC, hq⟩ := id hL
  have hc4 : c < 4 := by omega
  have eg : nI r - nI r / 6 * 6 = nI (r % 6) := pk_rem (d := 6) (by omega) (by omega) (by omega)
  have tg := n_T (n := r % 6) (by omega)
  have hg : 0 ≤ (nI (r % 6)).toInt ∧ (nI (r % 6)).toInt ≤ 5 := by omega
  unfold F_L_acts_456 F_L_acts_468
  rw [vgd_t (v2 hc), n_C (n := c) (by omega), han, eg]
  rcases hk with ⟨rfl, rfl, rfl⟩ | ⟨hk, hl, rfl⟩ | ⟨hk, hl, rfl⟩
  · rw [it (show nI 0 = 0 from rfl), C_set0 hc4 hcn hC (Nat.le_refl _) (by omega), bd_s, vgd_t (v2 hc), it (show nI 0 = 0 from rfl)]
    exact ⟨_, _, _, _, _, _, _, _, _, _, _, it rfl, h⟩
  · have hm0 : ¬ nI m = 0 := fun q => by have := (n_eq (b := 0) (by omega) (by omega)).mp q; omega
    rw [if_ hm0, if_ (show ¬ (1 : Int32) = 0 by decide), C_setL hc4 hcn hC hk hl hv hg, bd_s, vgd_t (v2 hc), if_ hm0]
    exact ⟨_, _, _, _, _, _, _, _, _, _, _, it rfl, h⟩
  · have hm0 : ¬ nI m = 0 := fun q => by have := (n_eq (b := 0) (by omega) (by omega)).mp q; omega
    obtain ⟨bd', sc', sn', sf', e1, hS'⟩ := C_set (bd := bd) (cf := cf) (sn := sn) (sf := sf) h.2.2.2 h.pr hc4 hcn hC hk hl hv hg
    have V : ix (nI (8 * c + k)) 16 := v16 (by omega)
    have hN : 8 * c + k < 2147483648 := by omega
    have a2 := hq.2.1 k hk
    have a3 := hq.2.2.1 k hk
    dsimp only at a2
    rw [if_ hm0, it rfl]
    simp only [vlet_e, vgd_t V, n_C hN, e1, bd_s, a2, a3, (eN_s hC hk).2.2.2]
    have hC' : Cv m (upd (upd (cf c) (6 * k + 1) v) (6 * k + 2) (nI (r % 6))) := Cv_upd (Cv_upd hC (by omega) (by omega) (fun _ => hv) (fun q => absurd q (by omega)) (fun q => absurd q (by omega)) (fun q => absurd q (by omega)) (fun q => absurd q (by omega))) (by omega) (by omega) (fun q => absurd q (by omega)) (fun _ => hg) (fun q => absurd q (by omega)) (fun q => absurd q (by omega)) (fun q => absurd q (by omega))
    have hq' : Lq m (upd (upd (cf c) (6 * k + 1) v) (6 * k + 2) (nI (r % 6))) c af (upd av (8 * c + k) v) (upd ae (8 * c + k) (10 * cf c (6 * k + 3) + cf c (6 * k + 5) + 100 * nI (r % 6))) aw := by
      refine ⟨hq.1.cg fun j hj => by rw [upd_n (by omega), upd_n (by omega)], (hq.2.1.set).cg fun j hj => ?_, (hq.2.2.1.set).cg fun j hj => ?_, hq.2.2.2.cg fun j hj => by rw [upd_n (by omega), upd_n (by omega)]⟩
      · rw [upd_n (by omega)]
        by_cases q : j = k
        · subst q
          rw [upd_s, it rfl]
        · rw [upd_n (by omega), if_ q]
      · unfold eN
        by_cases q : j = k
        · subst q
          rw [upd_s, it rfl, upd_n (by omega), upd_n (by omega), upd_n (by omega), upd_n (by omega)]
          exact (add_rot _ _ _).symm
        · rw [if_ q, upd_n (by omega), upd_n (by omega), upd_n (by omega), upd_n (by omega), upd_n (by omega), upd_n (by omega)]
    exact ⟨_, _, _, _, _, _, _, _, _, _, _, it trivial, h.put hc hm han (fun d q => rfl) hcn (fun d q => rfl) (fun d q => vu_n q) (by rw [vu_s]; exact hC') (by rw [vu_s]; exact hq') Ou.rf (Ou.up (by omega)) (Ou.up (by omega)) Ou.rf hS'⟩
theorem A_lean (h : Ls an af av ae aw sc cn cf) (hc : c < 2) (hL : Lc an af av ae aw cn cf c m) {l : Int32} (hk : Kl m (cf c) k l) {r : Nat} (hr : r < 100000) {v : Int32} (hv : -99999 ≤ v.toInt ∧ v.toInt ≤ 99999) : Ok (F_L_acts_719 an af av ae aw bd sc cn cf sn sf (nI c) (nI r) (nI k) (nI (8 * c + k)) l v) := by
  obtain ⟨hm, han, hcn, hC, hq⟩ := id hL
  have hc4 : c < 4 := by omega
  have eg : nI r - nI r / 3 * 3 = nI (r % 3) := pk_rem (d := 3) (by omega) (by omega) (by omega)
  have tg := n_T (n := r % 3) (by omega)
  have hg : 0 ≤ (nI (r % 3)).toInt ∧ (nI (r % 3)).toInt ≤ 2 := by omega
  unfold F_L_acts_719 F_L_acts_733
  rw [vgd_t (v2 hc), n_C (n := c) (by omega), han, eg]
  rcases hk with ⟨rfl, rfl, rfl⟩ | ⟨hk, hl, rfl⟩ | ⟨hk, hl, rfl⟩
  · rw [it (show nI 0 = 0 from rfl), C_lean0 hc4 hcn hC (Nat.le_refl _) (by omega), bd_s, vgd_t (v2 hc), it (show nI 0 = 0 from rfl)]
    exact ⟨_, _, _, _, _, _, _, _, _, _, _, it rfl, h⟩
  · have hm0 : ¬ nI m = 0 := fun q => by have := (n_eq (b := 0) (by omega) (by omega)).mp q; omega
    rw [if_ hm0, if_ (show ¬ (1 : Int32) = 0 by decide), C_leanL hc4 hcn hC hk hl hg hv, bd_s, vgd_t (v2 hc), if_ hm0]
    exact ⟨_, _, _, _, _, _, _, _, _, _, _, it rfl, h⟩
  · have hm0 : ¬ nI m = 0 := fun q => by have := (n_eq (b := 0) (by omega) (by omega)).mp q; omega
    obtain ⟨bd', sc', sn', sf', e1, hS'⟩ := C_lean (bd := bd) (cf := cf) (sn := sn) (sf := sf) h.2.2.2 h.pr hc4 hcn hC hk hl hg hv
    have V : ix (nI (8 * c + k)) 16 := v16 (by omega)
    have hN : 8 * c + k < 2147483648 := by omega
    have a3 := hq.2.2.1 k hk
    obtain ⟨-, -, -, -, -, -, -, -, -, -, g11⟩ := hC.2.1 k hk
    have l0 : cf c (6 * k + 5) = 0 := by
      rcases g11 with q | q
      · exact q
      · exact absurd q hl
    rw [if_ hm0, it rfl, lTang hc hm han hC hq hk]
    simp only [vlet_e, vgd_t V, n_C hN, e1, bd_s, a3, (eN_s hC hk).1]
    have hC' : Cv m (upd (upd (cf c) (6 * k + 3) (nI (r % 3))) (6 * k + 4) v) := Cv_upd (Cv_upd hC (by omega) (by omega) (fun q => absurd q (by omega)) (fun q => absurd q (by omega)) (fun _ => hg) (fun q => absurd q (by omega)) (fun q => absurd q (by omega))) (by omega) (by omega) (fun q => absurd q (by omega)) (fun q => absurd q (by omega)) (fun q => absurd q (by omega)) (fun _ => hv) (fun q => absurd q (by omega))
    have hq' : Lq m (upd (upd (cf c) (6 * k + 3) (nI (r % 3))) (6 * k + 4) v) c af av (upd ae (8 * c + k) (cf c (6 * k + 2) * 100 + 10 * nI (r % 3))) (upd aw (8 * c + k) v) := by
      refine ⟨hq.1.cg fun j hj => by rw [upd_n (by omega), upd_n (by omega)], hq.2.1.cg fun j hj => by rw [upd_n (by omega), upd_n (by omega)], (hq.2.2.1.set).cg fun j hj => ?_, (hq.2.2.2.set).cg fun j hj => ?_⟩
      · unfold eN
        by_cases q : j = k
        · subst q
          rw [it rfl, upd_n (by omega), upd_n (by omega), upd_n (by omega), upd_s, upd_n (by omega), upd_n (by omega), l0, Int32.add_zero, Int32.mul_comm 100]
        · rw [if_ q, upd_n (by omega), upd_n (by omega), upd_n (by omega), upd_n (by omega), upd_n (by omega), upd_n (by omega)]
      · by_cases q : j = k
        · subst q
          rw [upd_s, it rfl]
        · rw [upd_n (by omega), upd_n (by omega), if_ q]
    exact ⟨_, _, _, _, _, _, _, _, _, _, _, it trivial, h.put hc hm han (fun d q => rfl) hcn (fun d q => rfl) (fun d q => vu_n q) (by rw [vu_s]; exact hC') (by rw [vu_s]; exact hq') Ou.rf Ou.rf (Ou.up (by omega)) (Ou.up (by omega)) hS'⟩
theorem A_lock (h : Ls an af av ae aw sc cn cf) (hc : c < 2) (hL : Lc an af av ae aw cn cf c m) {l : Int32} (hk : Kl m (cf c) k l) (v : Int32) : Ok (F_L_acts_842 an af av ae aw bd sc cn cf sn sf (nI c) v (nI k) (nI (8 * c + k))) := by
  obtain ⟨hm, han, hcn, hC, hq⟩ := id hL
  have hc4 : c < 4 := by omega
  unfold F_L_acts_842
  rw [vgd_t (v2 hc), n_C (n := c) (by omega), han]
  by_cases h0 : m = 0
  · subst h0
    rw [it (show nI 0 = 0 from rfl), show (0 : Int32) = nI 0 from rfl, C_lock0 hc4 hcn hC (Nat.le_refl _) (by omega), bd_s]
    exact ⟨_, _, _, _, _, _, _, _, _, _, _, it rfl, h⟩
  · have hm0 : ¬ nI m = 0 := fun q => h0 ((n_eq (b := 0) (by omega) (by omega)).mp q)
    have hk : k < m := by
      rcases hk with ⟨q, -⟩ | ⟨q, -⟩ | ⟨q, -⟩
      · exact absurd q h0
      · exact q
      · exact q
    have V : ix (nI (8 * c + k)) 16 := v16 (by omega)
    have hN : 8 * c + k < 2147483648 := by omega
    have a3 := hq.2.2.1 k hk
    have go : ∀ b : Int32, b = 0 ∨ b = 1 → ∃ bd' sc' sn' sf', F_L_locks bd sc cn cf sn sf (nI c) (nI k) b = some (cf c (6 * k + 5), bd', sc', vu cf c (upd (cf c) (6 * k + 5) b), sn', sf') ∧ Ls an af av (upd ae (8 * c + k) (eN (cf c) k + (b - cf c (6 * k + 5)))) aw sc' cn (vu cf c (upd (cf c) (6 * k + 5) b)) := by
      intro b hb
      obtain ⟨bd', sc', sn', sf', e1, hS'⟩ := C_lock (bd := bd) (cf := cf) (sn := sn) (sf := sf) h.2.2.2 h.pr hc4 hcn hC hk hb
      refine ⟨bd', sc', sn', sf', e1, h.put hc hm han (fun d q => rfl) hcn (fun d q => rfl) (fun d q => vu_n q) ?_ ?_ Ou.rf Ou.rf (Ou.up (by omega)) Ou.rf hS'⟩
      · rw [vu_s]
        exact Cv_upd hC (by omega) (by omega) (fun q => absurd q (by omega)) (fun q => absurd q (by omega)) (fun q => absurd q (by omega)) (fun q => absurd q (by omega)) (fun _ => hb)
      · rw [vu_s]
        refine ⟨hq.1.cg fun j hj => by rw [upd_n (by omega)], hq.2.1.cg fun j hj => by rw [upd_n (by omega)], (hq.2.2.1.set).cg fun j hj => ?_, hq.2.2.2.cg fun j hj => by rw [upd_n (by omega)]⟩
        by_cases q : j = k
        · subst q
          rw [it rfl]
          unfold eN
          rw [upd_n (by omega), upd_n (by omega), upd_s, Int32.add_assoc (100 * cf c (6 * j + 2) + 10 * cf c (6 * j + 3)), Int32.add_comm (cf c (6 * j + 5)), Int32.sub_add_cancel]
        · rw [if_ q]
          unfold eN
          rw [upd_n (by omega), upd_n (by omega), upd_n (by omega)]
    rw [if_ hm0, vgd_t V, n_C hN, a3, (eN_s hC hk).2.2.1, vlet_e, vgd_t V]
    unfold F_L_acts_896
    by_cases g : v - v / 4 * 4 = 0
    · obtain ⟨bd', sc', sn', sf', e1, hl⟩ := go 1 (Or.inr rfl)
      rw [it g, vgd_t V, n_C hN, vlet_e, it g, e1, bd_s]
      exact ⟨_, _, _, _, _, _, _, _, _, _, _, it rfl, hl⟩
    · obtain ⟨bd', sc', sn', sf', e1, hl⟩ := go 0 (Or.inl rfl)
      rw [if_ g, vgd_t V, n_C hN, vlet_e, if_ g, e1, bd_s]
      exact ⟨_, _, _, _, _, _, _, _, _, _, _, it rfl, hl⟩
theorem A_move (h : Ls an af av ae aw sc cn cf) (hc : c < 2) (hL : Lc an af av ae aw cn cf c m) {l : Int32} (hk : Kl m (cf c) k l) {r : Nat} (hr : r < 100000) : Ok (F_L_acts_566 an af av ae aw bd sc cn cf sn sf (nI c) (nI r) (nI k) (nI (8 * c + k)) l) := by
  obtain ⟨hm, han, hcn, hC, hq⟩ := id hL
  have hc4 : c < 4 := by omega
  have ed : nI r / 8 = nI (r / 8) := pk_div (d := 8) (by omega) (by omega) (by omega)
  have et : nI (r / 8) - nI (r / 8) / 1000 * 1000 = nI (r / 8 % 1000) := pk_rem (d := 1000) (by omega) (by omega) (by omega)
  have tt := n_T (n := r / 8 % 1000) (by omega)
  have hf : 0 ≤ (nI (r / 8 % 1000)).toInt ∧ (nI (r / 8 % 1000)).toInt ≤ 999 := by omega
  unfold F_L_acts_566
  rw [ed, et, vlet_e, vgd_t (v2 hc), n_C (n := c) (by omega), han]
  generalize nI (r / 8 % 1000) = fr at hf
  rcases hk with ⟨rfl, rfl, rfl⟩ | ⟨hk, hl, rfl⟩ | ⟨hk, hl, rfl⟩
  · rw [it (show nI 0 = 0 from rfl), show (0 : Int32) = nI 0 from rfl, C_move0 hc4 hcn hC (Nat.le_refl _) (by omega), bd_s]
    exact ⟨_, _, _, _, _, _, _, _, _, _, _, it rfl, h⟩
  · have hm0 : ¬ nI m = 0 := fun q => by have := (n_eq (b := 0) (by omega) (by omega)).mp q; omega
    rw [if_ hm0]
    have fin : ∀ x : Int32, Ok ((some x).bind fun r9 => if (1 : Int32) = 0 then (if r9 < 0 then (F_L_acts_653 an af av ae aw bd sc cn cf sn sf (nI c) (nI k) (nI (8 * c + k)) fr) else (if r9 = nI k then (F_L_acts_653 an af av ae aw bd sc cn cf sn sf (nI c) (nI k) (nI (8 * c + k)) fr) else ((F_L_moves bd sc cn cf sn sf (nI c) (nI k) fr).bind fun o32 => if o32.1 = (-10000003) then (some (1, an, af, av, ae, aw, o32.2.1, o32.2.2.1, o32.2.2.2.1, o32.2.2.2.2.1, o32.2.2.2.2.2.1, o32.2.2.2.2.2.2)) else (some (0, an, af, av, ae, aw, o32.2.1, o32.2.2.1, o32.2.2.2.1, o32.2.2.2.2.1, o32.2.2.2.2.2.1, o32.2.2.2.2.2.2))))) else ((F_L_moves bd sc cn cf sn sf (nI c) (nI k) fr).bind fun o20 => if o20.1 = (-10000003) then (some (1, an, af, av, ae, aw, o20.2.1, o20.2.2.1, o20.2.2.2.1, o20.2.2.2.2.1, o20.2.2.2.2.2.1, o20.2.2.2.2.2.2)) else (some (0, an, af, av, ae, aw, o20.2.1, o20.2.2.1, o20.2.2.2.1, o20.2.2.2.2.1, o20.2.2.2.2.2.1, o20.2.2.2.2.2.2)))) := by
      intro x
      rw [bd_s, if_ (show ¬ (1 : Int32) = 0 by decide), C_moveL hc4 hcn hC hk hl hf, bd_s]
      exact ⟨_, _, _, _, _, _, _, _, _, _, _, it rfl, h⟩
    rcases lKeyAt hc hm han hC hq.1 fr with ⟨j, -, -, e⟩ | ⟨-, e⟩
    · rw [e]
      exact fin _
    · rw [e]
      exact fin _
  · have hm0 : ¬ nI m = 0 := fun q => by have := (n_eq (b := 0) (by omega) (by omega)).mp q; omega
    rw [if_ hm0]
    have V : ix (nI (8 * c + k)) 16 := v16 (by omega)
    have hN : 8 * c + k < 2147483648 := by omega
    have mv : (∀ j, j < m → j ≠ k → cf c (6 * j) ≠ fr) → Ok (F_L_acts_653 an af av ae aw bd sc cn cf sn sf (nI c) (nI k) (nI (8 * c + k)) fr) := by
      intro hno
      obtain ⟨bd', sc', sn', sf', f', e1, hS', a1⟩ := C_move (bd := bd) (cf := cf) (sn := sn) (sf := sf) h.2.2.2 h.pr hc4 hcn hC hk hl hf hno
      have hno' : NoF (m - 1) (delS k (cf c)) fr := NoF.del hk hno
      have hC1 := hC.del hk
      have hq1 := hq.mov (k := k) (fr := fr)
      obtain ⟨g1, g2, g3, g4, g5, g6, g7, g8, g9, g10, g11⟩ := hC.2.1 k hk
      have hm1 : m - 1 + 1 = m := by omega
      have hq2 : Lq (m - 1 + 1) (insS k (delS k (cf c)) (r6 fr (cf c (6 * k + 1)) (cf c (6 * k + 2)) (cf c (6 * k + 3)) (cf c (6 * k + 4)) (cf c (6 * k + 5)))) c (upd af (8 * c + k) fr) av ae aw := by rw [hm1]; exact hq1
      obtain ⟨af', av', ae', aw', e2, q2, o1, o2, o3, o4⟩ := lSinks (an := an) hc (M := m - 1) (k := k) (by omega) (by omega) (by rw [hm1]; exact han) hC1 hno' hq2
      have hC' := hC1.ins (fr := fr) (v := cf c (6 * k + 1)) (e := cf c (6 * k + 2)) (m := cf c (6 * k + 3)) (s := cf c (6 * k + 4)) (l := cf c (6 * k + 5)) (by omega) hf ⟨g3, g4⟩ ⟨g5, g6⟩ ⟨g7, g8⟩ ⟨g9, g10⟩ g11 hno'
      rw [hm1] at q2 hC'
      unfold F_L_acts_653
      rw [vgd_t V, n_C hN, vlet_e, e1, bd_s, e2, bd_s]
      dsimp only
      exact ⟨_, _, _, _, _, _, _, _, _, _, _, it rfl, h.put hc hm han (fun d q => rfl) vu_s (fun d q => vu_n q) (fun d q => vu_n q) (by rw [vu_s]; exact hC'.ag a1) (by rw [vu_s]; exact q2.ag a1) ((Ou.up (by omega)).tr o1) o2 o3 o4 hS'⟩
    rcases lKeyAt hc hm han hC hq.1 fr with ⟨j, j1, j2, e⟩ | ⟨hno, e⟩
    · rw [e, bd_s, it rfl, if_ (n_nn (by omega))]
      by_cases hjk : j = k
      · subst hjk
        rw [it rfl]
        exact mv (fun i hi hik q => hik (one_at hC hi j1 (q.trans j2.symm)))
      · rw [if_ (fun q => hjk ((n_eq (by omega) (by omega)).mp q)), C_moveX hc4 hcn hC hk hl hf j1 hjk j2, bd_s]
        exact ⟨_, _, _, _, _, _, _, _, _, _, _, it rfl, h⟩
    · rw [e, bd_s, it rfl, it (show (-1 : Int32) < 0 by decide)]
      exact mv (fun i hi _ => hno i hi)
end Acts

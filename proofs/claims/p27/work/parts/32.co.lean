/-! ===== what the class's methods answer, called by the law ===== -/
def Sv (sc : Int32) : Prop := ∃ S, S ≤ 4 ∧ sc = nI S
def Pr (cn : Nat → Int32) : Prop := ∀ c, c < 4 → ∃ n, n ≤ 16 ∧ cn c = nI n
theorem cBecome4 {dn : Nat → Int32} {df : Nat → Nat → Int32} (h : Pr dn) (a0 : Int32) (f0 : Nat → Int32) (a1 : Int32) (f1 : Nat → Int32) (a2 : Int32) (f2 : Nat → Int32) (a3 : Int32) (f3 : Nat → Int32) : ∃ b0 g0 b1 g1 b2 g2 b3 g3, F_X2_become a0 f0 a1 f1 a2 f2 a3 f3 (dn 0) (df 0) (dn 1) (df 1) (dn 2) (df 2) (dn 3) (df 3) = some (b0, g0, b1, g1, b2, g2, b3, g3) := by
  obtain ⟨n0, h0, k0⟩ := h 0 (by omega)
  obtain ⟨n1, h1, k1⟩ := h 1 (by omega)
  obtain ⟨n2, h2, k2⟩ := h 2 (by omega)
  obtain ⟨n3, h3, k3⟩ := h 3 (by omega)
  obtain ⟨g0, e0, -⟩ := cBecome (f := df 0) h0 a0 f0
  obtain ⟨g1, e1, -⟩ := cBecome (f := df 1) h1 a1 f1
  obtain ⟨g2, e2, -⟩ := cBecome (f := df 2) h2 a2 f2
  obtain ⟨g3, e3, -⟩ := cBecome (f := df 3) h3 a3 f3
  refine ⟨nI n0, g0, nI n1, g1, nI n2, g2, nI n3, g3, ?_⟩
  unfold F_X2_become
  rw [k0, k1, k2, k3, e0, bd_s, e1, bd_s, e2, bd_s, e3, bd_s]
theorem kSave {sc : Int32} {cn : Nat → Int32} (cf : Nat → Nat → Int32) (sn : Nat → Nat → Int32) (sf : Nat → Nat → Nat → Int32) (bd : Nat → Nat → Nat) (h : Sv sc) (hR : Pr cn) : ∃ bd' sc' sn' sf', F_X3_saveState bd sc cn cf sn sf = some (bd', sc', sn', sf') ∧ Sv sc' := by
  obtain ⟨S, hS, rfl⟩ := h
  have core : ∀ (bd1 : Nat → Nat → Nat) (S1 : Nat) (sn1 : Nat → Nat → Int32) (sf1 : Nat → Nat → Nat → Int32), S1 < 4 → ∃ sn' sf', F_X3_saveState_12 bd1 (nI S1) cn cf sn1 sf1 = some (bd1, nI (S1 + 1), sn', sf') := by
    intro bd1 S1 sn1 sf1 h1
    obtain ⟨b0, g0, b1, g1, b2, g2, b3, g3, e⟩ := cBecome4 (df := cf) hR (sn1 S1 0) (sf1 S1 0) (sn1 S1 1) (sf1 S1 1) (sn1 S1 2) (sf1 S1 2) (sn1 S1 3) (sf1 S1 3)
    unfold F_X3_saveState_12
    rw [vgd_t (n_ix (by omega) (by omega)), vlet_e, n_C (by omega), e, bd_s, vlet_e, vlet_e, vlet_e, nI_1]
    exact ⟨_, _, rfl⟩
  unfold F_X3_saveState
  by_cases h4 : S = 4
  · subst h4
    obtain ⟨sn', sf', e⟩ := core (rot4 bd) 3 (rot4 sn) (rot4 sf) (by omega)
    unfold F_X3_dropOldestState
    rw [if_ (show ¬ nI 4 < 4 from by decide), bd_s, vlet_e, vlet_e, vlet_e, show (3 : Int32) = nI 3 from rfl, e]
    exact ⟨rot4 bd, nI 4, sn', sf', rfl, 4, by omega, rfl⟩
  · obtain ⟨sn', sf', e⟩ := core bd S sn sf (by omega)
    rw [it (show nI S < 4 from (n_lt (b := 4) (by omega) (by omega)).mpr (by omega)), e]
    exact ⟨bd, nI (S + 1), sn', sf', rfl, S + 1, by omega, rfl⟩
/-! what the arguments must be -/
theorem kRin {p a b : Int32} (h : a.toInt ≤ p.toInt ∧ p.toInt ≤ b.toInt) : F_X3_requireRange p a b = some (.inr ()) := by
  unfold F_X3_requireRange
  rw [if_ (by rw [fa_lt]; omega), it (by rw [fa_le]; omega)]
theorem kRout {p a b : Int32} (h : ¬ (a.toInt ≤ p.toInt ∧ p.toInt ≤ b.toInt)) : F_X3_requireRange p a b = some (.inl 2) := by
  unfold F_X3_requireRange
  by_cases g : p < a
  · rw [it g]
  · rw [if_ g, if_]
    rw [fa_lt] at g
    rw [fa_le]
    intro q
    exact h ⟨by omega, q⟩
theorem kFr {p : Int32} (h : 0 ≤ p.toInt ∧ p.toInt ≤ 999) : F_X3_requireRange p 0 999 = some (.inr ()) := kRin h
theorem kVa {p : Int32} (h : -9999 ≤ p.toInt ∧ p.toInt ≤ 9999) : F_X3_requireRange p (-9999) 9999 = some (.inr ()) := kRin h
theorem kCur {c : Nat} (hc : c < 4) : F_X3_curveNumbered (nI c) = some (.inr c) := by
  unfold F_X3_curveNumbered
  rw [if_ (n_nn (by omega)), it (show nI c < 4 from (n_lt (b := 4) (by omega) (by omega)).mpr hc), vgd_t (n_ix hc (by omega)), vlet_e, n_C (by omega)]
theorem kCur4 : F_X3_curveNumbered 4 = some (.inl 1) := by decide
theorem kKeyI {n k : Nat} (hn : n ≤ 16) (hk : k < n) : F_X3_requireKey (nI n) (nI k) = some (.inr ()) := by
  unfold F_X3_requireKey
  rw [if_ (n_nn (by omega)), it ((n_lt (by omega) (by omega)).mpr hk)]
theorem kKeyO {n k : Nat} (hn : n ≤ 16) (hk : n ≤ k) (hk2 : k < 1000) : F_X3_requireKey (nI n) (nI k) = some (.inl 1) := by
  unfold F_X3_requireKey
  rw [if_ (n_nn (by omega)), if_ (by rw [n_lt (by omega) (by omega)]; omega)]
theorem kUn0 {n k : Nat} {F : Nat → Int32} (hn : n ≤ 16) (hk : k < n) (h : F (6 * k + 5) ≠ 1) : F_X3_requireUnlocked (nI n) F (nI k) = some (.inr ()) := by
  unfold F_X3_requireUnlocked
  rw [cIsLocked hn hk, bd_s, if_ h, it rfl]
theorem kUn1 {n k : Nat} {F : Nat → Int32} (hn : n ≤ 16) (hk : k < n) (h : F (6 * k + 5) = 1) : F_X3_requireUnlocked (nI n) F (nI k) = some (.inl 3) := by
  unfold F_X3_requireUnlocked
  rw [cIsLocked hn hk, bd_s, it h, if_ (by decide)]
theorem cHas {n : Nat} {F : Nat → Int32} (hn : n ≤ 16) : F_X0_hasLock (nI n) F = some (b1 (lkR F n 0)) := cHas_2 hn Ag.rf n 2000 0 (by omega) (by omega)
theorem cRai {n : Nat} {F : Nat → Int32} (hC : Cv n F) {o : Int32} (ho : -9999 ≤ o.toInt ∧ o.toInt ≤ 9999) : F_X0_canRaise (nI n) F o = some (b1 (raR F o n 0)) := cRaise_2 hC Ag.rf ho n 2000 0 (by have := hC.1; omega) (by have := hC.1; omega)
theorem cCan {n : Nat} {F : Nat → Int32} (hC : Cv n F) (x y p : Int32) : F_X0_canStretch (nI n) F x y p = some (b1 (mayR F x y p n 0 (-1))) := cCan_6 hC Ag.rf x y p n 2000 0 (-1) (by omega) (by have := hC.1; omega)
theorem cAt {n : Nat} {F : Nat → Int32} (hC : Cv n F) (fr : Int32) : (∃ k, k < n ∧ F (6 * k) = fr ∧ F_X0_numberAtFrame (nI n) F fr = some (nI k)) ∨ (NoF n F fr ∧ F_X0_numberAtFrame (nI n) F fr = some (-1)) := by
  have h16 := hC.1
  obtain ⟨-, -, g3, g4⟩ := cntS_spec F fr n 0
  have hp := cnt_le (n := n) (F := F) (fr := fr)
  have lo : ∀ k, k < n → F (6 * k) = fr → k + 1 = cnt n F fr := by
    intro k hk e
    rcases Nat.lt_trichotomy (k + 1) (cnt n F fr) with q | q | q
    · have a := g3 (k + 1) (Nat.zero_le _) q
      have b := hC.2.2 k (k + 1) (by omega) (by omega)
      rw [fa_le] at a
      rw [e] at b
      omega
    · exact q
    · have a := g4 (by show cnt n F fr < 0 + n; omega)
      rw [fa_lt] at a
      rcases Nat.lt_or_ge (cnt n F fr) k with z | z
      · have b := hC.2.2 _ k z hk
        rw [e] at b
        exact absurd (Int.lt_trans a b) (by omega)
      · have : k = cnt n F fr := by omega
        rw [this] at e
        rw [e] at a
        omega
  have e1 : F_X0_numberAtFrame (nI n) F fr = if cnt n F fr = 0 then some (-1) else if F (6 * (cnt n F fr - 1)) = fr then some (nI (cnt n F fr - 1)) else some (-1) := by
    unfold F_X0_numberAtFrame
    rw [cCountUpTo h16, bd_s, vlet_e]
    by_cases q : cnt n F fr = 0
    · rw [q, it (show nI 0 - 1 < 0 from by decide), it rfl]
    · rw [n_s1 (by omega), if_ (n_nn (by omega)), if_ q, cCell0 h16 (by omega), bd_s]
  by_cases hex : ∃ k, k < n ∧ F (6 * k) = fr
  · obtain ⟨k, k1, k2⟩ := hex
    refine Or.inl ⟨k, k1, k2, ?_⟩
    have e := lo k k1 k2
    rw [e1, if_ (by omega), show cnt n F fr - 1 = k by omega, it k2]
  · have k1 : NoF n F fr := fun k hk e => hex ⟨k, hk, e⟩
    refine Or.inr ⟨k1, ?_⟩
    rw [e1]
    by_cases q : cnt n F fr = 0
    · rw [it q]
    · rw [if_ q, if_ (k1 _ (by omega))]
theorem one_at {n j k : Nat} {F : Nat → Int32} (hC : Cv n F) (hj : j < n) (hk : k < n) (e : F (6 * j) = F (6 * k)) : j = k := by
  rcases Nat.lt_trichotomy j k with q | q | q
  · have := hC.2.2 j k q hk
    rw [e] at this
    omega
  · exact q
  · have := hC.2.2 k j q hj
    rw [e] at this
    omega
/-! loops that write -/
theorem cRaiseL {n : Nat} {f0 : Nat → Int32} (h16 : n ≤ 16) (o : Int32) : ∀ (m N i : Nat) (f : Nat → Int32), i + m = n → m < N → (∀ j, j < i → f (6 * j + 1) = f0 (6 * j + 1) + o) → (∀ j, i ≤ j → j < n → f (6 * j + 1) = f0 (6 * j + 1)) → (∀ j w, j < n → w ≠ 1 → w < 6 → f (6 * j + w) = f0 (6 * j + w)) → ∃ f', F_X0_raise_2 (nI n) o N f (nI i) = some f' ∧ (∀ j, j < n → f' (6 * j + 1) = f0 (6 * j + 1) + o) ∧ ∀ j w, j < n → w ≠ 1 → w < 6 → f' (6 * j + w) = f0 (6 * j + w) := by
  intro m
  induction m with
  | zero =>
    intro N i f hi hN h1 h2 h3
    obtain ⟨N, rfl⟩ : ∃ z, N = z + 1 := ⟨N - 1, by omega⟩
    rw [F_X0_raise_2, it (by rw [n_le (by omega) (by omega)]; omega)]
    exact ⟨f, rfl, fun j hj => h1 j (by omega), h3⟩
  | succ m ih =>
    intro N i f hi hN h1 h2 h3
    obtain ⟨N, rfl⟩ : ∃ z, N = z + 1 := ⟨N - 1, by omega⟩
    rw [F_X0_raise_2, if_ (by rw [n_le (by omega) (by omega)]; omega), cCell1 h16 (by omega), bd_s, cPut1 h16 (by omega), bd_s, vlet_e, nI_1]
    refine ih N (i + 1) _ (by omega) (by omega) (fun j hj => ?_) (fun j hj hj2 => ?_) (fun j w hj hw hw6 => ?_)
    · by_cases q : j = i
      · subst q
        rw [upd_s, h2 j (by omega) (by omega)]
      · rw [upd_n (by omega)]
        exact h1 j (by omega)
    · rw [upd_n (by omega)]
      exact h2 j (by omega) hj2
    · rw [upd_n (by omega)]
      exact h3 j w hj hw hw6
/-- how many frames change -/
def chg (F : Nat → Int32) (x y p : Int32) : Nat → Nat → Int32 → Int32
  | 0, _, s => s
  | m + 1, i, s => chg F x y p m (i + 1) (if strS (F (6 * i)) x y p = F (6 * i) then s else s + 1)
theorem cSpanL {n : Nat} {f0 : Nat → Int32} (h16 : n ≤ 16) (x y p : Int32) : ∀ (m N i : Nat) (f : Nat → Int32) (v : Int32), i + m = n → m < N → (∀ j, j < i → f (6 * j) = strS (f0 (6 * j)) x y p) → (∀ j, i ≤ j → j < n → f (6 * j) = f0 (6 * j)) → (∀ j w, j < n → 0 < w → w < 6 → f (6 * j + w) = f0 (6 * j + w)) → ∃ f', F_X0_stretchSpan_6 (nI n) x y p N f v (nI i) = some (chg f0 x y p m i v, f') ∧ (∀ j, j < n → f' (6 * j) = strS (f0 (6 * j)) x y p) ∧ ∀ j w, j < n → 0 < w → w < 6 → f' (6 * j + w) = f0 (6 * j + w) := by
  intro m
  induction m with
  | zero =>
    intro N i f v hi hN h1 h2 h3
    obtain ⟨N, rfl⟩ : ∃ z, N = z + 1 := ⟨N - 1, by omega⟩
    rw [F_X0_stretchSpan_6, it (by rw [n_le (by omega) (by omega)]; omega)]
    exact ⟨f, rfl, fun j hj => h1 j (by omega), h3⟩
  | succ m ih =>
    intro N i f v hi hN h1 h2 h3
    obtain ⟨N, rfl⟩ : ∃ z, N = z + 1 := ⟨N - 1, by omega⟩
    rw [F_X0_stretchSpan_6, if_ (by rw [n_le (by omega) (by omega)]; omega), cCell0 h16 (by omega), bd_s, cStr, bd_s, cPut0 h16 (by omega), bd_s, vlet_e, nI_1, h2 i (by omega) (by omega), vlet_e, bd_s, vlet_e]
    have go := fun v' => ih N (i + 1) (upd f (6 * i) (strS (f0 (6 * i)) x y p)) v' (by omega) (by omega) (fun j hj => by
        by_cases q : j = i
        · subst q
          rw [upd_s]
        · rw [upd_n (by omega)]
          exact h1 j (by omega)) (fun j hj hj2 => by
        rw [upd_n (by omega)]
        exact h2 j (by omega) hj2) (fun j w hj hw hw6 => by
        rw [upd_n (by omega)]
        exact h3 j w hj hw hw6)
    rw [chg]
    by_cases g : strS (f0 (6 * i)) x y p = f0 (6 * i)
    · rw [it g, it g]
      exact go v
    · rw [if_ g, if_ g]
      exact go (v + 1)

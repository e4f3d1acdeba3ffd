/-! ===== the text's signs ===== -/
abbrev TxN (T : Nat) (ut tb : Nat → Int32) : Prop := T ≤ 150 ∧ ∀ j, j < T → tb j = ut j ∧ 0 ≤ (ut j).toInt ∧ (ut j).toInt ≤ 127
def sg (T : Nat) (ut : Nat → Int32) (a : Nat) (lo hi : Int32) : Bool := decide (a < T) && (decide (lo ≤ ut a) && decide (ut a ≤ hi))
theorem cSign {T a : Nat} {ut tb : Nat → Int32} (h : TxN T ut tb) (ha : a < 1000) (lo hi : Int32) : F_X1_isSign (nI T) tb (nI a) lo hi = some (b1 (sg T ut a lo hi)) := by
  have h1 := h.1
  unfold F_X1_isSign sg
  rw [if_ (n_nn (by omega))]
  by_cases g : a < T
  · rw [if_ (show ¬ nI T ≤ nI a by rw [n_le (by omega) (by omega)]; omega), vgd_t (n_ix (by omega) (by omega)), vgd_t (n_ix (by omega) (by omega)), n_C (by omega), (h.2 a g).1]
    by_cases g1 : ut a < lo
    · rw [it g1]
      have : ¬ lo ≤ ut a := by rw [fa_lt] at g1; rw [fa_le]; omega
      simp [this, b1]
    · have g1' : lo ≤ ut a := by rw [fa_lt] at g1; rw [fa_le]; omega
      rw [if_ g1]
      by_cases g2 : hi < ut a
      · have : ¬ ut a ≤ hi := by rw [fa_lt] at g2; rw [fa_le]; omega
        rw [it g2]
        simp [this, b1]
      · have : ut a ≤ hi := by rw [fa_lt] at g2; rw [fa_le]; omega
        rw [if_ g2]
        simp [this, g, g1', b1]
  · rw [it (show nI T ≤ nI a by rw [n_le (by omega) (by omega)]; omega)]
    simp [g, b1]
theorem mIsAt {T a : Nat} {ut : Nat → Int32} (hT : T ≤ 150) (ha : a < 1000) (lo hi : Int32) : F_X4_isAt (nI T) (nI a) ut lo hi = some (b1 (sg T ut a lo hi)) := by
  unfold F_X4_isAt sg F_X4_in
  by_cases g : a < T
  · rw [if_ (show ¬ nI T ≤ nI a by rw [n_le (by omega) (by omega)]; omega), vgd_t (n_ix (by omega) (by omega)), n_C (by omega)]
    by_cases g1 : ut a < lo
    · rw [it g1, bd_s, it rfl]
      have : ¬ lo ≤ ut a := by rw [fa_lt] at g1; rw [fa_le]; omega
      simp [this, b1]
    · have g1' : lo ≤ ut a := by rw [fa_lt] at g1; rw [fa_le]; omega
      rw [if_ g1]
      by_cases g2 : hi < ut a
      · have : ¬ ut a ≤ hi := by rw [fa_lt] at g2; rw [fa_le]; omega
        rw [it g2, bd_s, it rfl]
        simp [this, b1]
      · have : ut a ≤ hi := by rw [fa_lt] at g2; rw [fa_le]; omega
        rw [if_ g2, bd_s, if_ (show ¬ (1 : Int32) = 0 by decide)]
        simp [this, g, g1', b1]
  · rw [it (show nI T ≤ nI a by rw [n_le (by omega) (by omega)]; omega)]
    simp [g, b1]
/-- behind a sign, if it is there -/
def nx (T : Nat) (ut : Nat → Int32) (a : Nat) (ch : Int32) : Nat := if sg T ut a ch ch = true then a + 1 else a
theorem nx_le {T a : Nat} {ut : Nat → Int32} {ch : Int32} : nx T ut a ch ≤ a + 1 := by unfold nx; split <;> omega
theorem cSkip {T a : Nat} {ut tb : Nat → Int32} (h : TxN T ut tb) (ha : a < 1000) (ch : Int32) : F_X1_skip (nI T) (nI a) tb ch = some (b1 (sg T ut a ch ch), nI (nx T ut a ch)) := by
  unfold F_X1_skip nx
  rw [cSign h ha, bd_s, nI_1, vlet_e]
  cases sg T ut a ch ch
  · rfl
  · rfl
theorem mTakes {T a : Nat} {ut : Nat → Int32} (hT : T ≤ 150) (ha : a < 1000) (ch : Int32) : F_X4_takes (nI T) (nI a) ut ch = some (b1 (sg T ut a ch ch), nI (nx T ut a ch)) := by
  unfold F_X4_takes nx
  rw [mIsAt hT ha, bd_s, nI_1, vlet_e, vlet_e, ad0]
  cases sg T ut a ch ch
  · rfl
  · rfl
/-! numbers -/
def nmR (T : Nat) (ut : Nat → Int32) : Nat → Nat → Int32 → Nat × Int32
  | 0, a, z => (a, z)
  | m + 1, a, z => if sg T ut a 48 57 = true then nmR T ut m (a + 1) (z * 10 + ut a - 48) else (a, z)
theorem nmR_s (T : Nat) (ut : Nat → Int32) (m a : Nat) (z : Int32) : nmR T ut (m + 1) a z = if sg T ut a 48 57 = true then nmR T ut m (a + 1) (z * 10 + ut a - 48) else (a, z) := rfl
theorem nmR_le (T : Nat) (ut : Nat → Int32) : ∀ m a z, a ≤ (nmR T ut m a z).1 ∧ (nmR T ut m a z).1 ≤ a + m := by
  intro m
  induction m with
  | zero => intro a z; exact ⟨Nat.le_refl _, Nat.le_refl _⟩
  | succ m ih =>
    intro a z
    rw [nmR_s]
    split
    · have := ih (a + 1) (z * 10 + ut a - 48)
      omega
    · exact ⟨Nat.le_refl _, by show a ≤ a + (m + 1); omega⟩
def bnd : Nat → Nat → Nat
  | 0, Z => Z
  | m + 1, Z => bnd m (10 * Z + 9)
theorem bnd_ge : ∀ m Z, Z ≤ bnd m Z := by
  intro m
  induction m with
  | zero => intro Z; exact Nat.le_refl _
  | succ m ih => intro Z; exact Nat.le_trans (by omega) (ih (10 * Z + 9))
theorem nmR_b (T : Nat) (ut : Nat → Int32) : ∀ (m a : Nat) (z : Int32) (Z : Nat), 0 ≤ z.toInt → z.toInt ≤ Z → bnd m Z ≤ 100000000 → 0 ≤ (nmR T ut m a z).2.toInt ∧ (nmR T ut m a z).2.toInt ≤ bnd m Z := by
  intro m
  induction m with
  | zero => intro a z Z h1 h2 _; exact ⟨h1, h2⟩
  | succ m ih =>
    intro a z Z h1 h2 h3
    have g1 := bnd_ge m (10 * Z + 9)
    have g2 : bnd m (10 * Z + 9) ≤ 100000000 := h3
    rw [nmR_s]
    by_cases hs : sg T ut a 48 57 = true
    · rw [it hs]
      unfold sg at hs
      rw [Bool.and_eq_true, Bool.and_eq_true, decide_eq_true_eq, decide_eq_true_eq, decide_eq_true_eq, fa_le, fa_le] at hs
      obtain ⟨-, q1, q2⟩ := hs
      rw [show (48 : Int32).toInt = 48 from rfl] at q1
      rw [show (57 : Int32).toInt = 57 from rfl] at q2
      have e1 : (z * 10).toInt = z.toInt * 10 := fb_mulI (by rw [show (10 : Int32).toInt = 10 from rfl]; omega) (by rw [show (10 : Int32).toInt = 10 from rfl]; omega)
      have e2 := fb_addI (x := z * 10) (y := ut a) (by omega) (by omega)
      have e3 : (z * 10 + ut a - 48).toInt = (z * 10 + ut a).toInt - 48 := fb_subI (by rw [show (48 : Int32).toInt = 48 from rfl]; omega) (by rw [show (48 : Int32).toInt = 48 from rfl]; omega)
      exact ih (a + 1) _ (10 * Z + 9) (by omega) (by omega) g2
    · rw [if_ hs]
      refine ⟨h1, ?_⟩
      show z.toInt ≤ (bnd m (10 * Z + 9) : Nat)
      omega
theorem cDig_21 {T : Nat} {ut tb : Nat → Int32} (h : TxN T ut tb) : ∀ (m N a i : Nat) (z : Int32), a < 900 → i + m < 50 → m < N → F_X1_readDigits_21 (nI T) tb (nI (i + m)) N (nI a) z (nI i) = some ((nmR T ut m a z).2, nI (nmR T ut m a z).1) := by
  intro m
  induction m with
  | zero =>
    intro N a i z ha hi hN
    obtain ⟨N, rfl⟩ : ∃ z, N = z + 1 := ⟨N - 1, by omega⟩
    rw [F_X1_readDigits_21, it (by rw [n_le (by omega) (by omega)]; omega)]
    rfl
  | succ m ih =>
    intro N a i z ha hi hN
    obtain ⟨N, rfl⟩ : ∃ z, N = z + 1 := ⟨N - 1, by omega⟩
    rw [F_X1_readDigits_21, if_ (by rw [n_le (by omega) (by omega)]; omega), cSign h (by omega), bd_s, nmR_s]
    by_cases hs : sg T ut a 48 57 = true
    · have hs2 := hs
      unfold sg at hs2
      rw [Bool.and_eq_true, decide_eq_true_eq] at hs2
      have h1 := h.1
      rw [it hs, hs, if_ (show ¬ b1 true = 0 by decide), vgd_t (n_ix (by omega) (by omega)), n_C (by omega), (h.2 a hs2.1).1, vlet_e, vlet_e, vlet_e, nI_1, nI_1, show i + (m + 1) = i + 1 + m by omega]
      exact ih N (a + 1) (i + 1) _ (by omega) (by omega) (by omega)
    · rw [if_ hs]
      rw [Bool.not_eq_true] at hs
      rw [hs, it (show b1 false = 0 from rfl)]
theorem mNum_68 {T : Nat} {ut : Nat → Int32} (hT : T ≤ 150) {a a0 : Nat} (ha : a < 900) (h0 : a0 < 900) (z : Int32) : F_X4_isNumber_68 (nI T) (nI a) z ut (nI a0) = some (b1 (decide (a0 < a) && !sg T ut a 48 57), nI a, z) := by
  unfold F_X4_isNumber_68
  by_cases g : a0 < a
  · rw [if_ (by rw [n_le (by omega) (by omega)]; omega), mIsAt hT (by omega), bd_s]
    cases sg T ut a 48 57
    · rw [it (show b1 false = 0 from rfl)]
      simp [g, b1]
    · rw [if_ (show ¬ b1 true = 0 by decide)]
      simp [b1]
  · rw [it (by rw [n_le (by omega) (by omega)]; omega)]
    simp [g, b1]
theorem mNum_10 {T a0 : Nat} {ut : Nat → Int32} (hT : T ≤ 150) (h0 : a0 < 800) : ∀ (m N i : Nat) (z : Int32), i + m < 50 → m < N → F_X4_isNumber_10 (nI T) ut (nI (i + m)) (nI a0) N (nI (a0 + i)) z = some (b1 (decide (a0 < (nmR T ut m (a0 + i) z).1) && !sg T ut (nmR T ut m (a0 + i) z).1 48 57), nI (nmR T ut m (a0 + i) z).1, (nmR T ut m (a0 + i) z).2) := by
  intro m
  induction m with
  | zero =>
    intro N i z hi hN
    obtain ⟨N, rfl⟩ : ∃ z, N = z + 1 := ⟨N - 1, by omega⟩
    rw [F_X4_isNumber_10, pk_sub (by omega), it (by rw [n_le (by omega) (by omega)]; omega), mNum_68 hT (by omega) (by omega)]
    rfl
  | succ m ih =>
    intro N i z hi hN
    obtain ⟨N, rfl⟩ : ∃ z, N = z + 1 := ⟨N - 1, by omega⟩
    rw [F_X4_isNumber_10, pk_sub (by omega), if_ (by rw [n_le (by omega) (by omega)]; omega), mIsAt hT (by omega), bd_s, nmR_s]
    by_cases hs : sg T ut (a0 + i) 48 57 = true
    · have hs2 := hs
      unfold sg at hs2
      rw [Bool.and_eq_true, decide_eq_true_eq] at hs2
      rw [it hs, hs, if_ (show ¬ b1 true = 0 by decide), vgd_t (n_ix (by omega) (by omega)), n_C (by omega), vlet_e, vlet_e, nI_1, show i + (m + 1) = i + 1 + m by omega, Int32.mul_comm 10 z]
      exact ih N (i + 1) _ (by omega) (by omega)
    · rw [if_ hs, mNum_68 hT (by omega) (by omega)]
      rw [Bool.not_eq_true] at hs
      rw [hs, it (show b1 false = 0 from rfl)]
/-- a number of at most m digits: where reading stands then, and the number -/
abbrev nmE (T : Nat) (ut : Nat → Int32) (m a : Nat) : Nat := (nmR T ut m a 0).1
abbrev nmV (T : Nat) (ut : Nat → Int32) (m a : Nat) : Int32 := (nmR T ut m a 0).2
theorem cDigits {T a : Nat} {ut tb : Nat → Int32} (h : TxN T ut tb) (ha : a < 800) {m : Nat} (hm : m < 9) : F_X1_readDigits (nI T) (nI a) tb (nI m) = if sg T ut a 48 57 = true then some (nmV T ut m a, nI (nmE T ut m a)) else some (-1, nI a) := by
  unfold F_X1_readDigits
  rw [cSign h (by omega), bd_s]
  by_cases hs : sg T ut a 48 57 = true
  · have e := cDig_21 h m 2000 a 0 0 (by omega) (by omega) (by omega)
    rw [Nat.zero_add, show nI 0 = 0 from rfl] at e
    rw [it hs, hs, if_ (show ¬ b1 true = 0 by decide), e]
  · rw [if_ hs]
    rw [Bool.not_eq_true] at hs
    rw [hs, it (show b1 false = 0 from rfl)]
theorem mNumber {T a : Nat} {ut : Nat → Int32} (hT : T ≤ 150) (ha : a < 800) {m : Nat} (hm : m < 9) (z : Int32) : F_X4_isNumber (nI T) (nI a) z ut (nI m) = some (b1 (decide (a < nmE T ut m a) && !sg T ut (nmE T ut m a) 48 57), nI (nmE T ut m a), nmV T ut m a) := by
  unfold F_X4_isNumber
  have e := mNum_10 (a0 := a) (ut := ut) hT ha m 2000 0 0 (by omega) (by omega)
  rw [Nat.zero_add, Nat.add_zero] at e
  exact e
theorem nmE_gt {T a m : Nat} {ut : Nat → Int32} (hm : 0 < m) : a < nmE T ut m a ↔ sg T ut a 48 57 = true := by
  obtain ⟨m, rfl⟩ : ∃ z, m = z + 1 := ⟨m - 1, by omega⟩
  show a < (nmR T ut (m + 1) a 0).1 ↔ _
  rw [nmR_s]
  by_cases hs : sg T ut a 48 57 = true
  · rw [it hs]
    have := nmR_le T ut m (a + 1) (0 * 10 + ut a - 48)
    exact ⟨fun _ => hs, fun _ => by omega⟩
  · rw [if_ hs]
    exact ⟨fun q => absurd q (Nat.lt_irrefl _), fun q => absurd q hs⟩
theorem nmE_0 {T a m : Nat} {ut : Nat → Int32} (hs : ¬ sg T ut a 48 57 = true) : nmE T ut m a = a := by
  cases m with
  | zero => rfl
  | succ m =>
    show (nmR T ut (m + 1) a 0).1 = a
    rw [nmR_s, if_ hs]

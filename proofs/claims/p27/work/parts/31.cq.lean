/-! ===== what the class does with a curve ===== -/
/-- what the class's row step takes -/
theorem cVB {n : Nat} {F : Nat → Int32} (hC : Cv n F) {fr : Int32} (h0 : 0 ≤ fr.toInt) (h9 : fr.toInt ≤ 999) {L : Nat} (hL : cnt n F fr = L) : F_X0_valueBehind (nI n) F (nI L - 1) fr = some (valS n F fr) := by
  have e := cValueAt hC h0 h9
  unfold F_X0_valueAt at e
  rw [cCountUpTo hC.1, bd_s, hL] at e
  obtain ⟨x, hx, e2⟩ := q_bd e
  rw [hx, ← e2]
theorem sub1add1 (x : Int32) : x - 1 + 1 = x := Int32.sub_add_cancel x 1
def r6 (a b c d e g : Int32) : Nat → Int32
  | 0 => a
  | 1 => b
  | 2 => c
  | 3 => d
  | 4 => e
  | _ => g
def insS (p : Nat) (F r : Nat → Int32) : Nat → Int32 := fun j => if j < 6 * p then F j else if j < 6 * p + 6 then r (j - 6 * p) else F (j - 6)
def delS (k : Nat) (F : Nat → Int32) : Nat → Int32 := fun j => if j < 6 * k then F j else F (j + 6)
theorem upd_s {f : Nat → Int32} {k : Nat} {x : Int32} : upd f k x k = x := it rfl
theorem upd_n {f : Nat → Int32} {k j : Nat} {x : Int32} (h : j ≠ k) : upd f k x j = f j := if_ h
theorem Ag_upd {n : Nat} {F f : Nat → Int32} (h : Ag n F f) (i : Nat) (v : Int32) : Ag n (upd F i v) (upd f i v) := by
  intro j hj
  by_cases e : j = i
  · subst e
    rw [upd_s, upd_s]
  · rw [upd_n e, upd_n e, h j hj]
theorem Ag.cnt {n : Nat} {F f : Nat → Int32} (h : Ag n F f) (fr : Int32) : cnt n f fr = cnt n F fr := cntS_cg h fr n 0 (by omega)
theorem insS_cg {n p : Nat} {F f r : Nat → Int32} (h : Ag n F f) (hp : p ≤ n) : Ag (n + 1) (insS p F r) (insS p f r) := by
  intro j hj
  unfold insS
  by_cases h1 : j < 6 * p
  · rw [it h1, it h1, h j (by omega)]
  · rw [if_ h1, if_ h1]
    by_cases h2 : j < 6 * p + 6
    · rw [it h2, it h2]
    · rw [if_ h2, if_ h2, h (j - 6) (by omega)]
theorem delS_cg {n k : Nat} {F f : Nat → Int32} (h : Ag n F f) (hk : k < n) : Ag (n - 1) (delS k F) (delS k f) := by
  intro j hj
  unfold delS
  by_cases h1 : j < 6 * k
  · rw [it h1, it h1, h j (by omega)]
  · rw [if_ h1, if_ h1, h (j + 6) (by omega)]
theorem cTakeOut {n k : Nat} {F f : Nat → Int32} (hn : n ≤ 16) (h : Ag n F f) (hk : k < n) : ∃ f', F_X0_takeOut (nI n) f (nI k) = some (nI (n - 1), f') ∧ Ag (n - 1) (delS k F) f' := by
  unfold F_X0_takeOut
  have e1 : (nI k + 1) * 6 = nI (6 * k + 6) := by rw [nI_1, show (6 : Int32) = nI 6 from rfl, pk_mul]; congr 1; omega
  have e2 : nI n * 6 = nI (6 * n) := by rw [show (6 : Int32) = nI 6 from rfl, pk_mul]; congr 1; omega
  have e3 : nI (6 * k + 6) - 6 = nI (6 * k) := by rw [show (6 : Int32) = nI 6 from rfl, pk_sub (by omega)]; congr 1
  have e4 : nI (6 * n) - nI (6 * k + 6) = nI (6 * n - (6 * k + 6)) := pk_sub (by omega)
  rw [if_ (n_nn (by omega)), it (by rw [n_lt (by omega) (by omega)]; exact hk), e1, e2, vlet_e, e3, e4]
  rw [vgd_t ⟨n_nn (by omega), n_nn (by omega), n_nn (by omega), by rw [n_C (by omega), n_C (by omega)]; omega, by rw [n_C (by omega), n_C (by omega)]; omega⟩, vlet_e, vlet_e, n_s1 (by omega), n_C (by omega), n_C (by omega), n_C (by omega)]
  refine ⟨_, rfl, fun j hj => ?_⟩
  unfold va_cpy delS
  by_cases h1 : j < 6 * k
  · rw [if_ (by omega), it h1, h j (by omega)]
  · rw [it (by omega), if_ h1, show 6 * k + 6 + (j - 6 * k) = j + 6 by omega, h _ (by omega)]
theorem cPut0 {n k : Nat} {f : Nat → Int32} {v : Int32} (hn : n ≤ 16) (hk : k < n) : F_X0_put (nI n) f (nI k) 0 v = some (upd f (6 * k) v) := cPut (w := 0) hn hk (by omega)
theorem cPut1 {n k : Nat} {f : Nat → Int32} {v : Int32} (hn : n ≤ 16) (hk : k < n) : F_X0_put (nI n) f (nI k) 1 v = some (upd f (6 * k + 1) v) := cPut (w := 1) hn hk (by omega)
theorem cPut2 {n k : Nat} {f : Nat → Int32} {v : Int32} (hn : n ≤ 16) (hk : k < n) : F_X0_put (nI n) f (nI k) 2 v = some (upd f (6 * k + 2) v) := cPut (w := 2) hn hk (by omega)
theorem cPut3 {n k : Nat} {f : Nat → Int32} {v : Int32} (hn : n ≤ 16) (hk : k < n) : F_X0_put (nI n) f (nI k) 3 v = some (upd f (6 * k + 3) v) := cPut (w := 3) hn hk (by omega)
theorem cPut4 {n k : Nat} {f : Nat → Int32} {v : Int32} (hn : n ≤ 16) (hk : k < n) : F_X0_put (nI n) f (nI k) 4 v = some (upd f (6 * k + 4) v) := cPut (w := 4) hn hk (by omega)
theorem cPut5 {n k : Nat} {f : Nat → Int32} {v : Int32} (hn : n ≤ 16) (hk : k < n) : F_X0_put (nI n) f (nI k) 5 v = some (upd f (6 * k + 5) v) := cPut (w := 5) hn hk (by omega)
theorem cInsert {n : Nat} {F f : Nat → Int32} (hn : n < 16) (h : Ag n F f) (fr v e m s l : Int32) : ∃ f', F_X0_insert (nI n) f fr v e m s l = some (nI (cnt n F fr), nI (n + 1), f') ∧ Ag (n + 1) (insS (cnt n F fr) F (r6 fr v e m s l)) f' := by
  have hp := cnt_le (n := n) (F := F) (fr := fr)
  unfold F_X0_insert
  rw [it (show nI n < 16 from (n_lt (b := 16) (by omega) (by omega)).mpr hn), cCountUpTo (by omega), bd_s, h.cnt]
  generalize cnt n F fr = p at hp ⊢
  have e1 : nI p * 6 = nI (6 * p) := by rw [show (6 : Int32) = nI 6 from rfl, pk_mul]; congr 1; omega
  have e2 : nI (6 * p) + 6 = nI (6 * p + 6) := nI_add _ 6
  have e3 : (nI n - nI p) * 6 = nI (6 * (n - p)) := by rw [pk_sub hp, show (6 : Int32) = nI 6 from rfl, pk_mul]; congr 1; omega
  rw [e1, vlet_e, e2, e3]
  rw [vgd_t ⟨n_nn (by omega), n_nn (by omega), n_nn (by omega), by rw [n_C (by omega), n_C (by omega)]; omega, by rw [n_C (by omega), n_C (by omega)]; omega⟩, vlet_e, vlet_e, nI_1, n_C (by omega), n_C (by omega), n_C (by omega)]
  rw [cPut0 (by omega) (by omega), bd_s, cPut1 (by omega) (by omega), bd_s, cPut2 (by omega) (by omega), bd_s, cPut3 (by omega) (by omega), bd_s, cPut4 (by omega) (by omega), bd_s, cPut5 (by omega) (by omega), bd_s]
  refine ⟨_, rfl, fun j hj => ?_⟩
  unfold insS
  by_cases h1 : j < 6 * p
  · rw [it h1, upd_n (by omega), upd_n (by omega), upd_n (by omega), upd_n (by omega), upd_n (by omega), upd_n (by omega)]
    unfold va_cpy
    rw [if_ (by omega), h j (by omega)]
  · rw [if_ h1]
    by_cases h2 : j < 6 * p + 6
    · rw [it h2]
      obtain ⟨w, hw, rfl⟩ : ∃ w, w < 6 ∧ j = 6 * p + w := ⟨j - 6 * p, by omega, by omega⟩
      rw [show 6 * p + w - 6 * p = w by omega]
      rcases (by omega : w = 0 ∨ w = 1 ∨ w = 2 ∨ w = 3 ∨ w = 4 ∨ w = 5) with rfl | rfl | rfl | rfl | rfl | rfl
      · rw [upd_n (by omega), upd_n (by omega), upd_n (by omega), upd_n (by omega), upd_n (by omega)]; exact it rfl
      · rw [upd_n (by omega), upd_n (by omega), upd_n (by omega), upd_n (by omega), upd_s]; rfl
      · rw [upd_n (by omega), upd_n (by omega), upd_n (by omega), upd_s]; rfl
      · rw [upd_n (by omega), upd_n (by omega), upd_s]; rfl
      · rw [upd_n (by omega), upd_s]; rfl
      · rw [upd_s]; rfl
    · rw [if_ h2, upd_n (by omega), upd_n (by omega), upd_n (by omega), upd_n (by omega), upd_n (by omega), upd_n (by omega)]
      unfold va_cpy
      rw [it (by omega), show 6 * p + (j - (6 * p + 6)) = j - 6 by omega, h _ (by omega)]
theorem n_a0 (a : Nat) : nI a + 0 = nI a := nI_add a 0
theorem n_a2 (a : Nat) : nI a + 2 = nI (a + 2) := nI_add a 2
theorem n_a3 (a : Nat) : nI a + 3 = nI (a + 3) := nI_add a 3
theorem n_a4 (a : Nat) : nI a + 4 = nI (a + 4) := nI_add a 4
theorem n_a5 (a : Nat) : nI a + 5 = nI (a + 5) := nI_add a 5
theorem n_m1 (a : Nat) : nI (a + 1) + (-1) = nI a := by rw [← Int32.sub_eq_add_neg]; exact nI_pred a
theorem Cv_upd {n k w : Nat} {F : Nat → Int32} {v : Int32} (h : Cv n F) (hw : 0 < w) (hw6 : w < 6) (h1 : w = 1 → -9999 ≤ v.toInt ∧ v.toInt ≤ 9999) (h2 : w = 2 → 0 ≤ v.toInt ∧ v.toInt ≤ 5) (h3 : w = 3 → 0 ≤ v.toInt ∧ v.toInt ≤ 2) (h4 : w = 4 → -99999 ≤ v.toInt ∧ v.toInt ≤ 99999) (h5 : w = 5 → v = 0 ∨ v = 1) : Cv n (upd F (6 * k + w) v) := by
  refine ⟨h.1, fun j hj => ?_, fun i j hij hj => ?_⟩
  · obtain ⟨a1, a2, a3, a4, a5, a6, a7, a8, a9, a10, a11⟩ := h.2.1 j hj
    rw [upd_n (j := 6 * j) (by omega)]
    have e1 : -9999 ≤ (upd F (6 * k + w) v (6 * j + 1)).toInt ∧ (upd F (6 * k + w) v (6 * j + 1)).toInt ≤ 9999 := by
      by_cases q : 6 * j + 1 = 6 * k + w
      · rw [q, upd_s]; exact h1 (by omega)
      · rw [upd_n q]; exact ⟨a3, a4⟩
    have e2 : 0 ≤ (upd F (6 * k + w) v (6 * j + 2)).toInt ∧ (upd F (6 * k + w) v (6 * j + 2)).toInt ≤ 5 := by
      by_cases q : 6 * j + 2 = 6 * k + w
      · rw [q, upd_s]; exact h2 (by omega)
      · rw [upd_n q]; exact ⟨a5, a6⟩
    have e3 : 0 ≤ (upd F (6 * k + w) v (6 * j + 3)).toInt ∧ (upd F (6 * k + w) v (6 * j + 3)).toInt ≤ 2 := by
      by_cases q : 6 * j + 3 = 6 * k + w
      · rw [q, upd_s]; exact h3 (by omega)
      · rw [upd_n q]; exact ⟨a7, a8⟩
    have e4 : -99999 ≤ (upd F (6 * k + w) v (6 * j + 4)).toInt ∧ (upd F (6 * k + w) v (6 * j + 4)).toInt ≤ 99999 := by
      by_cases q : 6 * j + 4 = 6 * k + w
      · rw [q, upd_s]; exact h4 (by omega)
      · rw [upd_n q]; exact ⟨a9, a10⟩
    have e5 : upd F (6 * k + w) v (6 * j + 5) = 0 ∨ upd F (6 * k + w) v (6 * j + 5) = 1 := by
      by_cases q : 6 * j + 5 = 6 * k + w
      · rw [q, upd_s]; exact h5 (by omega)
      · rw [upd_n q]; exact a11
    exact ⟨a1, a2, e1.1, e1.2, e2.1, e2.2, e3.1, e3.2, e4.1, e4.2, e5⟩
  · rw [upd_n (by omega), upd_n (by omega)]
    exact h.2.2 i j hij hj
theorem delS_key {k j w : Nat} {F : Nat → Int32} (hw : w < 6) : delS k F (6 * j + w) = F (6 * (if j < k then j else j + 1) + w) := by
  unfold delS
  by_cases h : j < k
  · rw [it (by omega), it h]
  · rw [if_ (by omega), if_ h]
    congr 1
    omega
theorem Cv.del {n k : Nat} {F : Nat → Int32} (h : Cv n F) (hk : k < n) : Cv (n - 1) (delS k F) := by
  refine ⟨by have := h.1; omega, fun j hj => ?_, fun i j hij hj => ?_⟩
  · have e0 := delS_key (k := k) (j := j) (F := F) (w := 0) (by omega)
    rw [show 6 * j + 0 = 6 * j from rfl] at e0
    rw [e0, delS_key (by omega), delS_key (by omega), delS_key (by omega), delS_key (by omega), delS_key (by omega)]
    exact h.2.1 _ (by split <;> omega)
  · have e0 := delS_key (k := k) (j := j) (F := F) (w := 0) (by omega)
    have e1 := delS_key (k := k) (j := i) (F := F) (w := 0) (by omega)
    rw [show 6 * j + 0 = 6 * j from rfl] at e0
    rw [show 6 * i + 0 = 6 * i from rfl] at e1
    rw [e0, e1]
    exact h.2.2 _ _ (by split <;> split <;> omega) (by split <;> omega)
theorem insS_lo {p j w : Nat} {F r : Nat → Int32} (hw : w < 6) (h : j < p) : insS p F r (6 * j + w) = F (6 * j + w) := it (by omega)
theorem insS_at {p w : Nat} {F r : Nat → Int32} (hw : w < 6) : insS p F r (6 * p + w) = r w := by
  unfold insS
  rw [if_ (by omega), it (by omega), show 6 * p + w - 6 * p = w by omega]
theorem insS_hi {p j w : Nat} {F r : Nat → Int32} (h : p < j) : insS p F r (6 * j + w) = F (6 * (j - 1) + w) := by
  unfold insS
  rw [if_ (by omega), if_ (by omega), show 6 * j + w - 6 = 6 * (j - 1) + w by omega]
theorem insS_key {p j w : Nat} {F r : Nat → Int32} (hw : w < 6) : insS p F r (6 * j + w) = if j = p then r w else F (6 * (if j < p then j else j - 1) + w) := by
  rcases Nat.lt_trichotomy j p with h | h | h
  · rw [insS_lo hw h, if_ (by omega), it h]
  · subst h
    rw [insS_at hw, it rfl]
  · rw [insS_hi h, if_ (by omega), if_ (by omega)]
/-- no key has the frame -/
def NoF (n : Nat) (F : Nat → Int32) (fr : Int32) : Prop := ∀ k, k < n → F (6 * k) ≠ fr
theorem Cv.ins {n : Nat} {F : Nat → Int32} {fr v e m s l : Int32} (h : Cv n F) (h15 : n < 16) (hf : 0 ≤ fr.toInt ∧ fr.toInt ≤ 999) (hv : -9999 ≤ v.toInt ∧ v.toInt ≤ 9999) (he : 0 ≤ e.toInt ∧ e.toInt ≤ 5) (hm : 0 ≤ m.toInt ∧ m.toInt ≤ 2) (hs : -99999 ≤ s.toInt ∧ s.toInt ≤ 99999) (hl : l = 0 ∨ l = 1) (hno : NoF n F fr) : Cv (n + 1) (insS (cnt n F fr) F (r6 fr v e m s l)) := by
  obtain ⟨-, -, g3, g4⟩ := cntS_spec F fr n 0
  have hp := cnt_le (n := n) (F := F) (fr := fr)
  have g3' : ∀ k, k < cnt n F fr → (F (6 * k)).toInt < fr.toInt := by
    intro k hk
    have a := g3 k (Nat.zero_le _) hk
    have b := hno k (by omega)
    rw [fa_le] at a
    rw [Ne, fa_eq] at b
    omega
  have g4' : ∀ k, cnt n F fr ≤ k → k < n → fr.toInt < (F (6 * k)).toInt := by
    intro k hk hkn
    have a := g4 (by show cnt n F fr < 0 + n; omega)
    rw [fa_lt] at a
    rcases Nat.lt_or_ge (cnt n F fr) k with q | q
    · have := h.2.2 _ _ q hkn
      exact Int.lt_trans a this
    · have : k = cnt n F fr := by omega
      rw [this]
      exact a
  generalize cnt n F fr = p at hp g3' g4' ⊢
  have e0 : ∀ j, insS p F (r6 fr v e m s l) (6 * j) = if j = p then fr else F (6 * (if j < p then j else j - 1)) := fun j => insS_key (w := 0) (by omega)
  refine ⟨by omega, fun j hj => ?_, fun i j hij hj => ?_⟩
  · rw [e0, insS_key (by omega), insS_key (by omega), insS_key (by omega), insS_key (by omega), insS_key (by omega)]
    by_cases q : j = p
    · rw [it q, it q, it q, it q, it q, it q]
      exact ⟨hf.1, hf.2, hv.1, hv.2, he.1, he.2, hm.1, hm.2, hs.1, hs.2, hl⟩
    · rw [if_ q, if_ q, if_ q, if_ q, if_ q, if_ q]
      exact h.2.1 _ (by split <;> omega)
  · rw [e0, e0]
    by_cases q : i = p
    · subst q
      rw [it rfl, if_ (show ¬ j = i by omega), if_ (show ¬ j < i by omega)]
      exact g4' _ (by omega) (by omega)
    · rw [if_ q]
      by_cases q2 : j = p
      · subst q2
        rw [it rfl, it hij]
        exact g3' _ hij
      · rw [if_ q2]
        exact h.2.2 _ _ (by split <;> split <;> omega) (by split <;> omega)

theorem vu_s {α : Type} {f : Nat → α} {k : Nat} {v : α} : vu f k v k = v := by
  unfold vu
  rw [show Nat.beq k k = true from Nat.beq_refl k]
  rfl
theorem vu_n {α : Type} {f : Nat → α} {j k : Nat} {v : α} (h : j ≠ k) : vu f k v j = f j := by
  unfold vu
  cases e : Nat.beq j k with
  | true => exact absurd (Nat.eq_of_beq_eq_true e) h
  | false => rfl
theorem cBecome {n : Nat} {f : Nat → Int32} (hn : n ≤ 16) (x : Int32) (g : Nat → Int32) : ∃ f', F_X0_become x g (nI n) f = some (nI n, f') ∧ Ag n f f' := by
  unfold F_X0_become
  have e2 : nI n * 6 = nI (6 * n) := by rw [show (6 : Int32) = nI 6 from rfl, pk_mul]; congr 1; omega
  rw [e2, vgd_t ⟨(by decide), (by decide), n_nn (by omega), by rw [n_C (by omega), show (0 : Int32).toNatClampNeg = 0 from rfl]; omega, by rw [n_C (by omega), show (0 : Int32).toNatClampNeg = 0 from rfl]; omega⟩, vlet_e, n_C (by omega)]
  refine ⟨_, rfl, fun j hj => ?_⟩
  unfold va_cpy
  rw [show (0 : Int32).toNatClampNeg = 0 from rfl, it (by omega), show 0 + (j - 0) = j by omega]
theorem rot4_lt {α : Type} {f : Nat → α} {s : Nat} (h : s < 3) : rot4 f s = f (s + 1) := by
  show f ((s + 1) % 4) = _
  rw [Nat.mod_eq_of_lt (by omega)]
theorem n_w1 (a : Nat) : nI a + 1 = nI (a + 1) := nI_1 a
theorem n_w2 (a : Nat) : nI a + 2 = nI (a + 2) := nI_add a 2
theorem n_w3 (a : Nat) : nI a + 3 = nI (a + 3) := nI_add a 3
theorem n_w4 (a : Nat) : nI a + 4 = nI (a + 4) := nI_add a 4
theorem n_w5 (a : Nat) : nI a + 5 = nI (a + 5) := nI_add a 5
theorem ins_upd {p : Nat} {D : Nat → Int32} {fr v e m s l : Int32} : upd (upd (insS p D (r6 fr v e 0 0 l)) (6 * p + 3) m) (6 * p + 4) s = insS p D (r6 fr v e m s l) := by
  funext j
  by_cases h1 : j < 6 * p
  · rw [upd_n (by omega), upd_n (by omega)]
    unfold insS
    rw [it h1, it h1]
  · by_cases h2 : j < 6 * p + 6
    · obtain ⟨w, hw, rfl⟩ : ∃ w, w < 6 ∧ j = 6 * p + w := ⟨j - 6 * p, by omega, by omega⟩
      rw [insS_at hw]
      rcases (by omega : w = 0 ∨ w = 1 ∨ w = 2 ∨ w = 3 ∨ w = 4 ∨ w = 5) with rfl | rfl | rfl | rfl | rfl | rfl
      · rw [upd_n (by omega), upd_n (by omega), insS_at hw]; rfl
      · rw [upd_n (by omega), upd_n (by omega), insS_at hw]; rfl
      · rw [upd_n (by omega), upd_n (by omega), insS_at hw]; rfl
      · rw [upd_n (by omega), upd_s]; rfl
      · rw [upd_s]; rfl
      · rw [upd_n (by omega), upd_n (by omega), insS_at hw]; rfl
    · rw [upd_n (by omega), upd_n (by omega)]
      unfold insS
      rw [if_ h1, if_ h2, if_ h1, if_ h2]
theorem NoF.del {n k : Nat} {F : Nat → Int32} {fr : Int32} (hk : k < n) (h : ∀ j, j < n → j ≠ k → F (6 * j) ≠ fr) : NoF (n - 1) (delS k F) fr := by
  intro j hj
  have e0 := delS_key (k := k) (j := j) (F := F) (w := 0) (by omega)
  rw [show 6 * j + 0 = 6 * j from rfl] at e0
  rw [e0]
  exact h _ (by split <;> omega) (by split <;> omega)
theorem NoF.cg {n : Nat} {F f : Nat → Int32} {fr : Int32} (h : NoF n F fr) (a : Ag n F f) : NoF n f fr := fun k hk => by rw [a _ (by omega)]; exact h k hk
def strN (a x y p : Nat) : Nat := if x ≤ a then (if y < a then a + (y - x) * p / 100 - (y - x) else x + (a - x) * p / 100) else a
def strS (f x y p : Int32) : Int32 := if x ≤ f then (if y < f then (f + (((y - x) * p) / 100)) - (y - x) else x + (((f - x) * p) / 100)) else f
theorem cStr (f x y p : Int32) : F_X0_stretchedFrame f x y p = some (strS f x y p) := by
  unfold F_X0_stretchedFrame strS
  by_cases h : x ≤ f
  · rw [it h, it h]
    by_cases g : y < f
    · rw [it g, it g]
    · rw [if_ g, if_ g]
  · rw [if_ h, if_ h]
theorem mul_b {a b p q : Nat} (h : a ≤ b) (h2 : p ≤ q) : a * p ≤ b * q := Nat.mul_le_mul h h2
theorem strS_N {a x y p : Nat} (ha : a ≤ 999) (hxy : x < y) (hy : y ≤ 999) (hp : p ≤ 500) : strS (nI a) (nI x) (nI y) (nI p) = nI (strN a x y p) := by
  unfold strS strN
  by_cases h : x ≤ a
  · rw [it ((n_le (by omega) (by omega)).mpr h), it h]
    by_cases g : y < a
    · have hb := mul_b (show y - x ≤ 999 by omega) hp
      rw [it ((n_lt (by omega) (by omega)).mpr g), it g, pk_sub (by omega), pk_mul, show (100 : Int32) = nI 100 from rfl, pk_div (by omega) (by omega) (by omega), nI_add, pk_sub (by omega)]
    · have hb := mul_b (show a - x ≤ 999 by omega) hp
      rw [if_ (fun q => g ((n_lt (by omega) (by omega)).mp q)), if_ g, pk_sub h, pk_mul, show (100 : Int32) = nI 100 from rfl, pk_div (by omega) (by omega) (by omega), nI_add]
  · rw [if_ (fun q => h ((n_le (by omega) (by omega)).mp q)), if_ h]
theorem strN_le {a b x y p : Nat} (h : a ≤ b) (hxy : x < y) : strN a x y p ≤ strN b x y p := by
  unfold strN
  by_cases h1 : x ≤ a
  · rw [it h1, it (show x ≤ b by omega)]
    by_cases h2 : y < a
    · rw [it h2, it (show y < b by omega)]
      omega
    · rw [if_ h2]
      have m1 := Nat.mul_le_mul_right p (show a - x ≤ y - x by omega)
      by_cases h3 : y < b
      · rw [it h3]
        omega
      · have m2 := Nat.mul_le_mul_right p (show a - x ≤ b - x by omega)
        rw [if_ h3]
        omega
  · rw [if_ h1]
    by_cases h2 : x ≤ b
    · rw [it h2]
      by_cases h3 : y < b
      · rw [it h3]
        omega
      · rw [if_ h3]
        omega
    · rw [if_ h2]
      exact h
theorem strN_sm {a x y p : Nat} (ha : a ≤ 999) (hxy : x < y) (hy : y ≤ 999) (hp : p ≤ 500) : strN a x y p < 10000 := by
  unfold strN
  have b1 := mul_b (show y - x ≤ 999 by omega) hp
  have b2 := mul_b (show a - x ≤ 999 by omega) hp
  split
  · split <;> omega
  · omega
theorem strN_100 {a x y : Nat} (hxy : x < y) : strN a x y 100 = a := by
  unfold strN
  by_cases h1 : x ≤ a
  · rw [it h1]
    by_cases h2 : y < a
    · rw [it h2, Nat.mul_div_cancel _ (by omega)]
      omega
    · rw [if_ h2, Nat.mul_div_cancel _ (by omega)]
      omega
  · rw [if_ h1]
def mayR (F : Nat → Int32) (x y p : Int32) : Nat → Nat → Int32 → Bool
  | 0, _, _ => true
  | m + 1, i, b => decide (strS (F (6 * i)) x y p ≤ 999) && decide (strS (F (6 * i)) x y p ≠ b) && (decide (F (6 * i + 5) = 0) || decide (strS (F (6 * i)) x y p = F (6 * i))) && mayR F x y p m (i + 1) (strS (F (6 * i)) x y p)
theorem mayR_s (F : Nat → Int32) (x y p : Int32) (m i : Nat) (b : Int32) : mayR F x y p (m + 1) i b = (decide (strS (F (6 * i)) x y p ≤ 999) && decide (strS (F (6 * i)) x y p ≠ b) && (decide (F (6 * i + 5) = 0) || decide (strS (F (6 * i)) x y p = F (6 * i))) && mayR F x y p m (i + 1) (strS (F (6 * i)) x y p)) := rfl
abbrev b1 (b : Bool) : Int32 := if b = true then 1 else 0
theorem cCan_6 {n : Nat} {F f : Nat → Int32} (hC : Cv n F) (hA : Ag n F f) (x y p : Int32) : ∀ (m N i : Nat) (b : Int32), i + m = n → m < N → F_X0_canStretch_6 (nI n) f x y p N b (nI i) = some (b1 (mayR F x y p m i b)) := by
  have h16 := hC.1
  intro m
  induction m with
  | zero =>
    intro N i b hi hN
    obtain ⟨N, rfl⟩ : ∃ z, N = z + 1 := ⟨N - 1, by omega⟩
    rw [F_X0_canStretch_6, it (by rw [n_le (by omega) (by omega)]; omega)]
    rfl
  | succ m ih =>
    intro N i b hi hN
    obtain ⟨N, rfl⟩ : ∃ z, N = z + 1 := ⟨N - 1, by omega⟩
    obtain ⟨-, -, -, -, -, -, -, -, -, -, g11⟩ := hC.2.1 i (by omega)
    rw [F_X0_canStretch_6, if_ (by rw [n_le (by omega) (by omega)]; omega), cCell0 h16 (by omega), bd_s, hA _ (by omega), cStr, bd_s, cIsLocked h16 (by omega), bd_s, hA _ (by omega)]
    have ih' : ∀ b, F_X0_canStretch_6 (nI n) f x y p N b (nI (i + 1)) = some (b1 (mayR F x y p m (i + 1) b)) := fun b => ih N (i + 1) b (by omega) (by omega)
    simp only [vlet_e, nI_1, ih']
    rw [mayR_s]
    generalize hs : strS (F (6 * i)) x y p = s
    by_cases h1 : s ≤ 999
    · rw [if_ (show ¬ (999 : Int32) < s by rw [fa_le] at h1; rw [fa_lt]; omega)]
      by_cases h2 : s = b
      · rw [it h2]
        simp [h2, b1]
      · rw [if_ h2]
        rcases g11 with q | q
        · rw [q, if_ (show ¬ (0 : Int32) = 1 by decide), it rfl]
          simp [h1, h2]
        · rw [q, it rfl, if_ (show ¬ (1 : Int32) = 0 by decide)]
          by_cases h3 : s = F (6 * i)
          · rw [it h3]
            simp [h1, h2, ← h3]
          · rw [if_ h3]
            simp [h3, b1]
    · rw [it (show (999 : Int32) < s by rw [fa_le] at h1; rw [fa_lt]; omega)]
      simp [h1, b1]
/-- what a good answer means -/
theorem mayR_spec {F : Nat → Int32} {x y p : Int32} : ∀ (m i : Nat) (b : Int32), mayR F x y p m i b = true → (∀ k, i ≤ k → k < i + m → strS (F (6 * k)) x y p ≤ 999) ∧ ∀ k, i ≤ k → k + 1 < i + m → strS (F (6 * (k + 1))) x y p ≠ strS (F (6 * k)) x y p := by
  intro m
  induction m with
  | zero => intro i b _; exact ⟨fun k h1 h2 => absurd h2 (by omega), fun k h1 h2 => absurd h2 (by omega)⟩
  | succ m ih =>
    intro i b h
    rw [mayR_s] at h
    rw [Bool.and_eq_true, Bool.and_eq_true, Bool.and_eq_true, decide_eq_true_eq, decide_eq_true_eq] at h
    obtain ⟨⟨⟨h1, h2⟩, -⟩, h4⟩ := h
    obtain ⟨i1, i2⟩ := ih (i + 1) _ h4
    refine ⟨fun k g1 g2 => ?_, fun k g1 g2 => ?_⟩
    · rcases Nat.lt_or_ge i k with q | q
      · exact i1 k q (by omega)
      · have : k = i := by omega
        subst this
        exact h1
    · rcases Nat.lt_or_ge i k with q | q
      · exact i2 k q (by omega)
      · have : k = i := by omega
        subst this
        cases m with
        | zero => exact absurd g2 (by omega)
        | succ m =>
          rw [mayR_s] at h4
          rw [Bool.and_eq_true, Bool.and_eq_true, Bool.and_eq_true, decide_eq_true_eq, decide_eq_true_eq] at h4
          exact h4.1.1.2

theorem ad0 (v : Int32) : v + 0 = v := Int32.add_zero v
theorem stretch_Cv {n x y p : Nat} {F G : Nat → Int32} (h : Cv n F) (hxy : x < y) (hy : y ≤ 999) (hp : p ≤ 500) (h1 : ∀ j, j < n → G (6 * j) = strS (F (6 * j)) (nI x) (nI y) (nI p)) (h2 : ∀ j w, j < n → 0 < w → w < 6 → G (6 * j + w) = F (6 * j + w)) (hm : mayR F (nI x) (nI y) (nI p) n 0 (-1) = true) : Cv n G := by
  obtain ⟨m1, m2⟩ := mayR_spec n 0 _ hm
  have fr : ∀ j, j < n → ∃ a, a ≤ 999 ∧ F (6 * j) = nI a := by
    intro j hj
    obtain ⟨g1, g2, -⟩ := h.2.1 j hj
    obtain ⟨a, ha, e⟩ := n_of' (n := 1000) g1 (by omega)
    exact ⟨a, by omega, e⟩
  have e9 : (999 : Int32).toInt = 999 := rfl
  refine ⟨h.1, fun j hj => ?_, fun i j hij hj => ?_⟩
  · obtain ⟨-, -, g⟩ := h.2.1 j hj
    rw [h1 j hj, h2 j 1 hj (by omega) (by omega), h2 j 2 hj (by omega) (by omega), h2 j 3 hj (by omega) (by omega), h2 j 4 hj (by omega) (by omega), h2 j 5 hj (by omega) (by omega)]
    refine ⟨?_, ?_, g⟩
    · obtain ⟨a, ha, e⟩ := fr j hj
      have := strN_sm (p := p) ha hxy hy hp
      rw [e, strS_N ha hxy hy hp, n_T (by omega)]
      omega
    · have := m1 j (Nat.zero_le _) (by omega)
      rw [fa_le] at this
      omega
  · obtain ⟨a, ha, ea⟩ := fr i (by omega)
    obtain ⟨b, hb, eb⟩ := fr (j - 1) (by omega)
    obtain ⟨d, hd, ed⟩ := fr j hj
    have q1 : a ≤ b := by
      rcases Nat.lt_or_ge i (j - 1) with q | q
      · have := h.2.2 i (j - 1) q (by omega)
        rw [ea, eb, n_T (by omega), n_T (by omega)] at this
        omega
      · have : i = j - 1 := by omega
        subst this
        have e : nI a = nI b := ea.symm.trans eb
        rw [n_eq (by omega) (by omega)] at e
        omega
    have q2 : b ≤ d := by
      have := h.2.2 (j - 1) j (by omega) hj
      rw [eb, ed, n_T (by omega), n_T (by omega)] at this
      omega
    have s1 := strN_le (p := p) q1 hxy
    have s2 := strN_le (p := p) q2 hxy
    have ne := m2 (j - 1) (Nat.zero_le _) (by omega)
    rw [show j - 1 + 1 = j by omega, eb, ed, strS_N hb hxy hy hp, strS_N hd hxy hy hp] at ne
    have b1 := strN_sm (p := p) ha hxy hy hp
    have b2 := strN_sm (p := p) hb hxy hy hp
    have b3 := strN_sm (p := p) hd hxy hy hp
    have ne2 : strN d x y p ≠ strN b x y p := fun q => ne (by rw [q])
    rw [h1 i (by omega), h1 j hj, ea, ed, strS_N ha hxy hy hp, strS_N hd hxy hy hp, n_T (by omega), n_T (by omega)]
    omega
def lkR (F : Nat → Int32) : Nat → Nat → Bool
  | 0, _ => false
  | m + 1, i => decide (F (6 * i + 5) = 1) || lkR F m (i + 1)
theorem lkR_s (F : Nat → Int32) (m i : Nat) : lkR F (m + 1) i = (decide (F (6 * i + 5) = 1) || lkR F m (i + 1)) := rfl
theorem cHas_2 {n : Nat} {F f : Nat → Int32} (h16 : n ≤ 16) (hA : Ag n F f) : ∀ (m N i : Nat), i + m = n → m < N → F_X0_hasLock_2 (nI n) f N (nI i) = some (b1 (lkR F m i)) := by
  intro m
  induction m with
  | zero =>
    intro N i hi hN
    obtain ⟨N, rfl⟩ : ∃ z, N = z + 1 := ⟨N - 1, by omega⟩
    rw [F_X0_hasLock_2, it (by rw [n_le (by omega) (by omega)]; omega)]
    rfl
  | succ m ih =>
    intro N i hi hN
    obtain ⟨N, rfl⟩ : ∃ z, N = z + 1 := ⟨N - 1, by omega⟩
    rw [F_X0_hasLock_2, if_ (by rw [n_le (by omega) (by omega)]; omega), cIsLocked h16 (by omega), bd_s, hA _ (by omega), vlet_e, nI_1, ih N (i + 1) (by omega) (by omega), lkR_s]
    by_cases g : F (6 * i + 5) = 1
    · rw [it g, if_ (by decide)]
      simp [g, b1]
    · rw [if_ g, it rfl]
      simp [g]
def okV (s : Int32) : Bool := decide (-9999 ≤ s.toInt) && decide (s.toInt ≤ 9999)
def raR (F : Nat → Int32) (o : Int32) : Nat → Nat → Bool
  | 0, _ => true
  | m + 1, i => okV (F (6 * i + 1) + o) && raR F o m (i + 1)
theorem raR_s (F : Nat → Int32) (o : Int32) (m i : Nat) : raR F o (m + 1) i = (okV (F (6 * i + 1) + o) && raR F o m (i + 1)) := rfl
theorem okV_abs {s : Int32} (h1 : -19998 ≤ s.toInt) (h2 : s.toInt ≤ 19998) : (if (0 : Int32) ≤ s then s else 0 - s) ≤ 9999 ↔ okV s = true := by
  have e9 : (9999 : Int32).toInt = 9999 := rfl
  have e0 : (0 : Int32).toInt = 0 := rfl
  unfold okV
  rw [Bool.and_eq_true, decide_eq_true_eq, decide_eq_true_eq, fa_le]
  by_cases g : (0 : Int32) ≤ s
  · rw [it g]
    rw [fa_le] at g
    omega
  · rw [if_ g, fb_subI (by omega) (by omega)]
    rw [fa_le] at g
    omega
theorem cRaise_2 {n : Nat} {F f : Nat → Int32} (hC : Cv n F) (hA : Ag n F f) {o : Int32} (ho : -9999 ≤ o.toInt ∧ o.toInt ≤ 9999) : ∀ (m N i : Nat), i + m = n → m < N → F_X0_canRaise_2 (nI n) f o N (nI i) = some (b1 (raR F o m i)) := by
  have h16 := hC.1
  intro m
  induction m with
  | zero =>
    intro N i hi hN
    obtain ⟨N, rfl⟩ : ∃ z, N = z + 1 := ⟨N - 1, by omega⟩
    rw [F_X0_canRaise_2, it (by rw [n_le (by omega) (by omega)]; omega)]
    rfl
  | succ m ih =>
    intro N i hi hN
    obtain ⟨N, rfl⟩ : ∃ z, N = z + 1 := ⟨N - 1, by omega⟩
    obtain ⟨-, -, g3, g4, -⟩ := hC.2.1 i (by omega)
    have es := fb_addI (x := F (6 * i + 1)) (y := o) (by omega) (by omega)
    have k := okV_abs (s := F (6 * i + 1) + o) (by omega) (by omega)
    rw [F_X0_canRaise_2, if_ (by rw [n_le (by omega) (by omega)]; omega), cCell1 h16 (by omega), bd_s, hA _ (by omega), vlet_e, vlet_e, nI_1, ih N (i + 1) (by omega) (by omega), raR_s]
    cases h : okV (F (6 * i + 1) + o)
    · rw [if_ (fun q => by rw [k.mp q] at h; cases h)]
      rfl
    · rw [it (k.mpr h), Bool.true_and]
theorem raR_spec {F : Nat → Int32} {o : Int32} : ∀ (m i : Nat), raR F o m i = true → ∀ k, i ≤ k → k < i + m → okV (F (6 * k + 1) + o) = true := by
  intro m
  induction m with
  | zero => intro i _ k h1 h2; exact absurd h2 (by omega)
  | succ m ih =>
    intro i h k h1 h2
    rw [raR_s, Bool.and_eq_true] at h
    rcases Nat.lt_or_ge i k with q | q
    · exact ih (i + 1) h.2 k q (by omega)
    · have : k = i := by omega
      subst this
      exact h.1
theorem raise_Cv {n : Nat} {F G : Nat → Int32} {o : Int32} (h : Cv n F) (h1 : ∀ j, j < n → G (6 * j + 1) = F (6 * j + 1) + o) (h2 : ∀ j w, j < n → w ≠ 1 → w < 6 → G (6 * j + w) = F (6 * j + w)) (hm : raR F o n 0 = true) : Cv n G := by
  have e0 : ∀ j, j < n → G (6 * j) = F (6 * j) := fun j hj => h2 j 0 hj (by omega) (by omega)
  refine ⟨h.1, fun j hj => ?_, fun i j hij hj => ?_⟩
  · obtain ⟨g1, g2, -, -, g⟩ := h.2.1 j hj
    have k := raR_spec n 0 hm j (Nat.zero_le _) (by omega)
    unfold okV at k
    rw [Bool.and_eq_true, decide_eq_true_eq, decide_eq_true_eq] at k
    rw [e0 j hj, h1 j hj, h2 j 2 hj (by omega) (by omega), h2 j 3 hj (by omega) (by omega), h2 j 4 hj (by omega) (by omega), h2 j 5 hj (by omega) (by omega)]
    exact ⟨g1, g2, k.1, k.2, g⟩
  · rw [e0 i (by omega), e0 j hj]
    exact h.2.2 i j hij hj
theorem cBecomeS {n : Nat} {f : Nat → Int32} (hn : n ≤ 16) : ∃ f', F_X0_becomeS (nI n) f = some (nI n, f') ∧ Ag n f f' := cBecome hn (nI n) f
theorem vu_vu {α : Type} {f : Nat → α} {k : Nat} {a b : α} : vu (vu f k a) k b = vu f k b := by
  funext j
  by_cases q : j = k
  · subst q
    rw [vu_s, vu_s]
  · rw [vu_n q, vu_n q, vu_n q]
theorem b1t : ¬ b1 true = 0 := by decide
theorem b1f : b1 false = 0 := rfl
theorem one_mul32 (x : Int32) : 1 * x = x := Int32.one_mul x
theorem Cv_0 (F : Nat → Int32) : Cv 0 F := ⟨by omega, fun k hk => absurd hk (by omega), fun j k _ hk => absurd hk (by omega)⟩
theorem nI_ne {k : Nat} (h : k < 2147483648) : ¬ nI k = -1 := fun q => by
  have := n_T h
  rw [q, show (-1 : Int32).toInt = -1 from rfl] at this
  omega

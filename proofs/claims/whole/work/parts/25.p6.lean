/-! ===== the relation ===== -/
def Rc (us cn : Nat → Int32) (cf : Nat → Nat → Int32) (c n : Nat) : Prop := us (97 * c) = nI n ∧ cn c = nI n ∧ Cv n (vw us c) ∧ Ag n (vw us c) (cf c)
def Rs (us cn : Nat → Int32) (cf : Nat → Nat → Int32) : Prop := ∀ c, c < 4 → ∃ n, Rc us cn cf c n
/-- the saved states: S of them -/
abbrev ps (up : Nat → Int32) (s : Nat) : Nat → Int32 := fun j => up (388 * s + j)
def St (un sc : Int32) (up : Nat → Int32) (sn : Nat → Nat → Int32) (sf : Nat → Nat → Nat → Int32) : Prop := ∃ S, S ≤ 4 ∧ un = nI S ∧ sc = nI S ∧ ∀ s, s < S → Rs (ps up s) (sn s) (sf s)
/-- the text -/
def Tx (uy tl : Int32) (ut tb : Nat → Int32) : Prop := ∃ T, T ≤ 150 ∧ uy = nI T ∧ tl = nI T ∧ ∀ j, j < T → tb j = ut j ∧ 0 ≤ (ut j).toInt ∧ (ut j).toInt ≤ 127
theorem Rc.cg {us us' cn cn' : Nat → Int32} {cf cf' : Nat → Nat → Int32} {c n : Nat} (h : Rc us cn cf c n) (h1 : us' (97 * c) = us (97 * c)) (h2 : ∀ j, j < 96 → vw us' c j = vw us c j) (h3 : cn' c = cn c) (h4 : ∀ j, j < 96 → cf' c j = cf c j) : Rc us' cn' cf' c n := by
  obtain ⟨a1, a2, a3, a4⟩ := h
  have h16 := a3.1
  have g : Ag n (vw us c) (vw us' c) := fun j hj => h2 j (by omega)
  refine ⟨h1.trans a1, h3.trans a2, a3.ag g, fun j hj => ?_⟩
  rw [h4 j (by omega), a4 j hj, g j hj]
theorem Rs.cg {us us' cn : Nat → Int32} {cf : Nat → Nat → Int32} (h : Rs us cn cf) (h1 : ∀ j, j < 388 → us' j = us j) : Rs us' cn cf := by
  intro c hc
  obtain ⟨n, hn⟩ := h c hc
  exact ⟨n, hn.cg (h1 _ (by omega)) (fun j hj => h1 _ (by omega)) rfl (fun _ _ => rfl)⟩
theorem vu_s {α : Type} {f : Nat → α} {k : Nat} {v : α} : vu f k v k = v := by
  unfold vu
  rw [show Nat.beq k k = true from Nat.beq_refl k]
  rfl
theorem vu_n {α : Type} {f : Nat → α} {j k : Nat} {v : α} (h : j ≠ k) : vu f k v j = f j := by
  unfold vu
  cases e : Nat.beq j k with
  | true => exact absurd (Nat.eq_of_beq_eq_true e) h
  | false => rfl
/-- curve c becomes another: the rest stays -/
theorem Rs.put {us us' cn : Nat → Int32} {cf : Nat → Nat → Int32} {c n : Nat} {x : Int32} {f : Nat → Int32} (h : Rs us cn cf) (hO : Out c us us') (h1 : us' (97 * c) = nI n) (hx : x = nI n) (h2 : Cv n (vw us' c)) (h3 : Ag n (vw us' c) f) : Rs us' (vu cn c x) (vu cf c f) := by
  intro d hd
  by_cases q : d = c
  · subst q
    exact ⟨n, h1, vu_s.trans hx, h2, by rw [vu_s]; exact h3⟩
  · obtain ⟨m, hm⟩ := h d hd
    obtain ⟨e1, e2⟩ := hO.cg q
    exact ⟨m, hm.cg e1 e2 (vu_n q) (fun j _ => by rw [vu_n q])⟩
theorem Rs.putf {us us' cn : Nat → Int32} {cf : Nat → Nat → Int32} {c n : Nat} {f : Nat → Int32} (h : Rs us cn cf) (hO : Out c us us') (h1 : us' (97 * c) = nI n) (hx : cn c = nI n) (h2 : Cv n (vw us' c)) (h3 : Ag n (vw us' c) f) : Rs us' cn (vu cf c f) := by
  intro d hd
  by_cases q : d = c
  · subst q
    exact ⟨n, h1, hx, h2, by rw [vu_s]; exact h3⟩
  · obtain ⟨m, hm⟩ := h d hd
    obtain ⟨e1, e2⟩ := hO.cg q
    exact ⟨m, hm.cg e1 e2 rfl (fun j _ => by rw [vu_n q])⟩
/-! hold -/
theorem mHold_2 {us : Nat → Int32} : ∀ (m N k : Nat) (ua : Nat → Int32), k + m = 388 → m < N → (∀ j, j < k → ua j = us j) → ∃ y, F_X4_hold_2 us N ua (nI k) = some y ∧ ∀ j, j < 388 → y j = us j := by
  intro m
  induction m with
  | zero =>
    intro N k ua hk hN h
    obtain ⟨N, rfl⟩ : ∃ z, N = z + 1 := ⟨N - 1, by omega⟩
    rw [F_X4_hold_2, it (show (388 : Int32) ≤ nI k from (n_le (a := 388) (by omega) (by omega)).mpr (by omega))]
    exact ⟨ua, rfl, fun j hj => h j (by omega)⟩
  | succ m ih =>
    intro N k ua hk hN h
    obtain ⟨N, rfl⟩ : ∃ z, N = z + 1 := ⟨N - 1, by omega⟩
    rw [F_X4_hold_2, if_ (show ¬ (388 : Int32) ≤ nI k from fun h => absurd ((n_le (a := 388) (by omega) (by omega)).mp h) (by omega)), vgd_t (n_ix (by omega) (by omega)), vgd_t (n_ix (by omega) (by omega)), vlet_e, vlet_e, nI_1, n_C (by omega)]
    refine ih N (k + 1) _ (by omega) (by omega) (fun j hj => ?_)
    by_cases q : j = k
    · subst q
      exact upd_s
    · rw [upd_n q]
      exact h j (by omega)
theorem mHold (us ua : Nat → Int32) : ∃ y, F_X4_hold us ua = some y ∧ ∀ j, j < 388 → y j = us j := mHold_2 388 2000 0 ua (by omega) (by omega) (fun j hj => absurd hj (by omega))
/-! ends -/
theorem mEnds_51 {S : Nat} {up0 ua : Nat → Int32} (hS : S < 4) (uw a : Int32) : ∀ (m N k : Nat) (up : Nat → Int32), k + m = 388 → m < N → (∀ j, j < k → up (388 * S + j) = ua j) → (∀ j, j < 388 * S → up j = up0 j) → ∃ up', F_X4_ends_51 (nI S) uw ua a N up (nI k) = some (a, nI (S + 1), 0, up') ∧ (∀ j, j < 388 → up' (388 * S + j) = ua j) ∧ ∀ j, j < 388 * S → up' j = up0 j := by
  intro m
  induction m with
  | zero =>
    intro N k up hk hN h1 h2
    obtain ⟨N, rfl⟩ : ∃ z, N = z + 1 := ⟨N - 1, by omega⟩
    rw [F_X4_ends_51, it (show (388 : Int32) ≤ nI k from (n_le (a := 388) (by omega) (by omega)).mpr (by omega)), vlet_e, nI_1]
    exact ⟨up, rfl, fun j hj => h1 j (by omega), h2⟩
  | succ m ih =>
    intro N k up hk hN h1 h2
    obtain ⟨N, rfl⟩ : ∃ z, N = z + 1 := ⟨N - 1, by omega⟩
    rw [F_X4_ends_51, if_ (show ¬ (388 : Int32) ≤ nI k from fun h => absurd ((n_le (a := 388) (by omega) (by omega)).mp h) (by omega)), show (388 : Int32) * nI S = nI (388 * S) from pk_mul 388 S, nI_add, vgd_t (n_ix (by omega) (by omega)), vgd_t (n_ix (by omega) (by omega)), vlet_e, vlet_e, nI_1, n_C (by omega), n_C (by omega)]
    refine ih N (k + 1) _ (by omega) (by omega) (fun j hj => ?_) (fun j hj => ?_)
    · by_cases q : j = k
      · subst q
        exact upd_s
      · rw [upd_n (by omega)]
        exact h1 j (by omega)
    · rw [upd_n (by omega)]
      exact h2 j hj
theorem mEnds_10 {up0 ua : Nat → Int32} (uw a : Int32) : ∀ (m N k : Nat) (up : Nat → Int32), k + m = 1164 → m < N → (∀ j, j < k → up j = up0 (j + 388)) → (∀ j, k ≤ j → up j = up0 j) → ∃ up', F_X4_ends_10 (nI 4) uw ua a N up (nI k) = F_X4_ends_49 (nI 3) uw up' ua a ∧ ∀ j, j < 1164 → up' j = up0 (j + 388) := by
  intro m
  induction m with
  | zero =>
    intro N k up hk hN h1 h2
    obtain ⟨N, rfl⟩ : ∃ z, N = z + 1 := ⟨N - 1, by omega⟩
    rw [F_X4_ends_10, it (show (1164 : Int32) ≤ nI k from (n_le (a := 1164) (by omega) (by omega)).mpr (by omega)), vlet_e, nI_pred]
    exact ⟨up, rfl, fun j hj => h1 j (by omega)⟩
  | succ m ih =>
    intro N k up hk hN h1 h2
    obtain ⟨N, rfl⟩ : ∃ z, N = z + 1 := ⟨N - 1, by omega⟩
    rw [F_X4_ends_10, if_ (show ¬ (1164 : Int32) ≤ nI k from fun h => absurd ((n_le (a := 1164) (by omega) (by omega)).mp h) (by omega)), show nI k + 388 = nI (k + 388) from nI_add k 388, vgd_t (n_ix (by omega) (by omega)), vgd_t (n_ix (by omega) (by omega)), vlet_e, vlet_e, nI_1, n_C (by omega), n_C (by omega)]
    refine ih N (k + 1) _ (by omega) (by omega) (fun j hj => ?_) (fun j hj => ?_)
    · by_cases q : j = k
      · subst q
        rw [upd_s]
        exact h2 _ (by omega)
      · rw [upd_n q]
        exact h1 j (by omega)
    · rw [upd_n (by omega)]
      exact h2 j (by omega)
/-- ends: the rows, whatever the answer -/
theorem mEnds {S : Nat} {up ua : Nat → Int32} (hS : S ≤ 4) (uw a : Int32) : ∃ up', F_X4_ends (nI S) uw up ua a = some (a, nI (if S = 4 then 4 else S + 1), 0, up') ∧ (∀ j, j < 388 → ps up' (if S = 4 then 3 else S) j = ua j) ∧ ∀ s, s < (if S = 4 then 3 else S) → ∀ j, j < 388 → ps up' s j = ps up (if S = 4 then s + 1 else s) j := by
  unfold F_X4_ends
  by_cases h : S = 4
  · subst h
    obtain ⟨up1, e1, e2⟩ := mEnds_10 (up0 := up) (ua := ua) uw a 1164 2000 0 up (by omega) (by omega) (fun j hj => absurd hj (by omega)) (fun _ _ => rfl)
    obtain ⟨up2, g1, g2, g3⟩ := mEnds_51 (S := 3) (up0 := up1) (ua := ua) (by omega) uw a 388 2000 0 up1 (by omega) (by omega) (fun j hj => absurd hj (by omega)) (fun _ _ => rfl)
    rw [it (show nI 4 = 4 from rfl), show (0 : Int32) = nI 0 from rfl, e1]
    unfold F_X4_ends_49
    rw [show (0 : Int32) = nI 0 from rfl, g1]
    refine ⟨up2, rfl, fun j hj => g2 j hj, fun s hs j hj => ?_⟩
    have hs3 : s < 3 := hs
    show up2 (388 * s + j) = up (388 * (s + 1) + j)
    rw [g3 _ (by omega), e2 _ (by omega), show 388 * s + j + 388 = 388 * (s + 1) + j by omega]
  · rw [if_ (show ¬ nI S = 4 from fun q => h ((n_eq (b := 4) (by omega) (by omega)).mp q)), if_ h, if_ h]
    obtain ⟨up2, g1, g2, g3⟩ := mEnds_51 (S := S) (up0 := up) (ua := ua) (by omega) uw a 388 2000 0 up (by omega) (by omega) (fun j hj => absurd hj (by omega)) (fun _ _ => rfl)
    unfold F_X4_ends_49
    rw [show (0 : Int32) = nI 0 from rfl, g1]
    refine ⟨up2, rfl, fun j hj => g2 j hj, fun s hs j hj => ?_⟩
    show up2 (388 * s + j) = up (388 * (if S = 4 then s + 1 else s) + j)
    rw [if_ h]
    exact g3 _ (by omega)
/-! the class's state becomes another -/
theorem cBecome {n : Nat} {f : Nat → Int32} (hn : n ≤ 16) (x : Int32) (g : Nat → Int32) : ∃ f', F_X0_become x g (nI n) f = some (nI n, f') ∧ Ag n f f' := by
  unfold F_X0_become
  have e2 : nI n * 6 = nI (6 * n) := by rw [show (6 : Int32) = nI 6 from rfl, pk_mul]; congr 1; omega
  rw [e2, vgd_t ⟨(by decide), (by decide), n_nn (by omega), by rw [n_C (by omega), show (0 : Int32).toNatClampNeg = 0 from rfl]; omega, by rw [n_C (by omega), show (0 : Int32).toNatClampNeg = 0 from rfl]; omega⟩, vlet_e, n_C (by omega)]
  refine ⟨_, rfl, fun j hj => ?_⟩
  unfold va_cpy
  rw [show (0 : Int32).toNatClampNeg = 0 from rfl, it (by omega), show 0 + (j - 0) = j by omega]
theorem Rc.ag {us cn cn' : Nat → Int32} {cf cf' : Nat → Nat → Int32} {c n : Nat} (h : Rc us cn cf c n) (h1 : cn' c = nI n) (h2 : Ag n (cf c) (cf' c)) : Rc us cn' cf' c n := ⟨h.1, h1, h.2.2.1, h.2.2.2.tr h2⟩
theorem cBecomeS4 {us dn : Nat → Int32} {df : Nat → Nat → Int32} (h : Rs us dn df) (a0 : Int32) (f0 : Nat → Int32) (a1 : Int32) (f1 : Nat → Int32) (a2 : Int32) (f2 : Nat → Int32) (a3 : Int32) (f3 : Nat → Int32) : ∃ b0 g0 b1 g1 b2 g2 b3 g3, F_X2_become a0 f0 a1 f1 a2 f2 a3 f3 (dn 0) (df 0) (dn 1) (df 1) (dn 2) (df 2) (dn 3) (df 3) = some (b0, g0, b1, g1, b2, g2, b3, g3) ∧ Rs us (v4 b0 b1 b2 b3) (v4 g0 g1 g2 g3) := by
  obtain ⟨n0, h0⟩ := h 0 (by omega)
  obtain ⟨n1, h1⟩ := h 1 (by omega)
  obtain ⟨n2, h2⟩ := h 2 (by omega)
  obtain ⟨n3, h3⟩ := h 3 (by omega)
  obtain ⟨g0, e0, i0⟩ := cBecome (f := df 0) h0.2.2.1.1 a0 f0
  obtain ⟨g1, e1, i1⟩ := cBecome (f := df 1) h1.2.2.1.1 a1 f1
  obtain ⟨g2, e2, i2⟩ := cBecome (f := df 2) h2.2.2.1.1 a2 f2
  obtain ⟨g3, e3, i3⟩ := cBecome (f := df 3) h3.2.2.1.1 a3 f3
  refine ⟨nI n0, g0, nI n1, g1, nI n2, g2, nI n3, g3, ?_, fun c hc => ?_⟩
  · unfold F_X2_become
    rw [h0.2.1, h1.2.1, h2.2.1, h3.2.1, e0, bd_s, e1, bd_s, e2, bd_s, e3, bd_s]
  · rcases (by omega : c = 0 ∨ c = 1 ∨ c = 2 ∨ c = 3) with rfl | rfl | rfl | rfl
    · exact ⟨n0, h0.ag rfl i0⟩
    · exact ⟨n1, h1.ag rfl i1⟩
    · exact ⟨n2, h2.ag rfl i2⟩
    · exact ⟨n3, h3.ag rfl i3⟩
theorem rot4_lt {α : Type} {f : Nat → α} {s : Nat} (h : s < 3) : rot4 f s = f (s + 1) := by
  show f ((s + 1) % 4) = _
  rw [Nat.mod_eq_of_lt (by omega)]
/-- a state is saved -/
theorem kSave {un sc uw : Int32} {up us ua cn : Nat → Int32} {cf : Nat → Nat → Int32} {sn : Nat → Nat → Int32} {sf : Nat → Nat → Nat → Int32} (bd : Nat → Nat → Nat) (h : St un sc up sn sf) (hR : Rs us cn cf) (hy : ∀ j, j < 388 → ua j = us j) : ∃ bd' sc' sn' sf' un' , F_X3_saveState bd sc cn cf sn sf = some (bd', sc', sn', sf') ∧ ∀ a, ∃ up', F_X4_ends un uw up ua a = some (a, un', 0, up') ∧ St un' sc' up' sn' sf' := by
  obtain ⟨S, hS, rfl, rfl, hs⟩ := h
  have core : ∀ (bd1 : Nat → Nat → Nat) (S1 : Nat) (sn1 : Nat → Nat → Int32) (sf1 : Nat → Nat → Nat → Int32), S1 < 4 → ∃ sn' sf', F_X3_saveState_12 bd1 (nI S1) cn cf sn1 sf1 = some (bd1, nI (S1 + 1), sn', sf') ∧ Rs us (sn' S1) (sf' S1) ∧ ∀ s, s < S1 → sn' s = sn1 s ∧ sf' s = sf1 s := by
    intro bd1 S1 sn1 sf1 h1
    obtain ⟨b0, g0, b1, g1, b2, g2, b3, g3, e, hr⟩ := cBecomeS4 hR (sn1 S1 0) (sf1 S1 0) (sn1 S1 1) (sf1 S1 1) (sn1 S1 2) (sf1 S1 2) (sn1 S1 3) (sf1 S1 3)
    unfold F_X3_saveState_12
    rw [vgd_t (n_ix (by omega) (by omega)), vlet_e, n_C (by omega), e, bd_s, vlet_e, vlet_e, vlet_e, nI_1]
    refine ⟨_, _, rfl, ?_, fun s h2 => ⟨vu_n (by omega), vu_n (by omega)⟩⟩
    rw [vu_s, vu_s]
    exact hr
  unfold F_X3_saveState
  by_cases h4 : S = 4
  · subst h4
    obtain ⟨sn', sf', e, g1, g2⟩ := core (rot4 bd) 3 (rot4 sn) (rot4 sf) (by omega)
    unfold F_X3_dropOldestState
    rw [if_ (show ¬ nI 4 < 4 from by decide), bd_s, vlet_e, vlet_e, vlet_e, show (3 : Int32) = nI 3 from rfl, e]
    refine ⟨rot4 bd, nI 4, sn', sf', nI 4, rfl, fun a => ?_⟩
    obtain ⟨up', k1, k2, k3⟩ := mEnds (S := 4) (up := up) (ua := ua) (by omega) uw a
    refine ⟨up', k1, 4, by omega, rfl, rfl, fun s hs4 => ?_⟩
    rcases Nat.lt_or_ge s 3 with q | q
    · rw [(g2 s q).1, (g2 s q).2, rot4_lt q, rot4_lt q]
      exact (hs (s + 1) (by omega)).cg (k3 s q)
    · have : s = 3 := by omega
      subst this
      exact g1.cg (fun j hj => (k2 j hj).trans (hy j hj))
  · obtain ⟨sn', sf', e, g1, g2⟩ := core bd S sn sf (by omega)
    rw [it (show nI S < 4 from (n_lt (b := 4) (by omega) (by omega)).mpr (by omega)), e]
    refine ⟨bd, nI (S + 1), sn', sf', nI (S + 1), rfl, fun a => ?_⟩
    obtain ⟨up', k1, k2, k3⟩ := mEnds (S := S) (up := up) (ua := ua) hS uw a
    rw [if_ h4] at k1 k2 k3
    refine ⟨up', k1, S + 1, by omega, rfl, rfl, fun s hs4 => ?_⟩
    rcases Nat.lt_or_ge s S with q | q
    · rw [(g2 s q).1, (g2 s q).2]
      have := k3 s q
      rw [if_ h4] at this
      exact (hs s q).cg this
    · have : s = S := by omega
      subst this
      exact g1.cg (fun j hj => (k2 j hj).trans (hy j hj))

/-! ===== the class, as the law's own calls hear it ===== -/
section Calls
variable {bd : Nat → Nat → Nat} {sc : Int32} {cn : Nat → Int32} {cf : Nat → Nat → Int32} {sn : Nat → Nat → Int32} {sf : Nat → Nat → Nat → Int32} {c n : Nat}
theorem C_add6 (hc : c < 4) {fr v : Int32} (hf : 0 ≤ fr.toInt ∧ fr.toInt ≤ 999) (hv : -9999 ≤ v.toInt ∧ v.toInt ≤ 9999) : F_L_adds bd sc cn cf sn sf (nI c) fr v 6 = some (-10000002, bd, sc, cn, cf, sn, sf) := by
  unfold F_L_adds F_X3_addKey
  rw [kCur hc, thr_r, kFr hf, thr_r, kVa hv, thr_r, kRout (by decide), thr_l, bd_s]
  exact it (by decide)
theorem C_addAt (hc : c < 4) (hn : cn c = nI n) (hC : Cv n (cf c)) (h15 : n < 16) {fr v g : Int32} (hf : 0 ≤ fr.toInt ∧ fr.toInt ≤ 999) (hv : -9999 ≤ v.toInt ∧ v.toInt ≤ 9999) (hg : 0 ≤ g.toInt ∧ g.toInt ≤ 5) {k : Nat} (hk : k < n) (e : cf c (6 * k) = fr) : F_L_adds bd sc cn cf sn sf (nI c) fr v g = some (-10000003, bd, sc, cn, cf, sn, sf) := by
  unfold F_L_adds F_X3_addKey
  rw [kCur hc, thr_r, kFr hf, thr_r, kVa hv, thr_r, kRin (a := 0) (b := 5) hg, thr_r, hn, it (show nI n < 16 from (n_lt (b := 16) (by omega) (by omega)).mpr h15)]
  rcases cAt hC fr with ⟨j, j1, j2, j3⟩ | ⟨j1, -⟩
  · rw [j3, bd_s, if_ (nI_ne (by omega)), bd_s]
    exact it (by decide)
  · exact absurd e (j1 k hk)
theorem C_add (hS : Sv sc) (hR : Pr cn) (hc : c < 4) (hn : cn c = nI n) (hC : Cv n (cf c)) (h15 : n < 16) {fr v g : Int32} (hf : 0 ≤ fr.toInt ∧ fr.toInt ≤ 999) (hv : -9999 ≤ v.toInt ∧ v.toInt ≤ 9999) (hg : 0 ≤ g.toInt ∧ g.toInt ≤ 5) (hno : NoF n (cf c) fr) : ∃ bd' sc' sn' sf' f', F_L_adds bd sc cn cf sn sf (nI c) fr v g = some (nI (cnt n (cf c) fr), bd', sc', vu cn c (nI (n + 1)), vu cf c f', sn', sf') ∧ Sv sc' ∧ Ag (n + 1) (insS (cnt n (cf c) fr) (cf c) (r6 fr v g 0 0 0)) f' := by
  obtain ⟨bd', sc', sn', sf', e3, e4⟩ := kSave cf sn sf bd hS hR
  obtain ⟨f', i1, i2⟩ := cInsert (n := n) h15 (Ag.rf (F := cf c)) fr v g 0 0 0
  refine ⟨bd', sc', sn', sf', f', ?_, e4, i2⟩
  unfold F_L_adds F_X3_addKey
  rw [kCur hc, thr_r, kFr hf, thr_r, kVa hv, thr_r, kRin (a := 0) (b := 5) hg, thr_r, hn, it (show nI n < 16 from (n_lt (b := 16) (by omega) (by omega)).mpr h15)]
  rcases cAt hC fr with ⟨j, j1, j2, j3⟩ | ⟨-, j1⟩
  · exact absurd j2 (hno j j1)
  · rw [j1, bd_s, it rfl, e3, bd_s, i1, bd_s, vlet_e, vlet_e, bd_s]
theorem C_drop0 (hc : c < 4) (hn : cn c = nI n) (hC : Cv n (cf c)) {k : Nat} (hk : n ≤ k) (hk2 : k < 1000) : F_L_drops bd sc cn cf sn sf (nI c) (nI k) = some (-10000001, bd, sc, cn, cf, sn, sf) := by
  unfold F_L_drops F_X3_removeKey
  rw [kCur hc, thr_r, hn, kKeyO hC.1 hk hk2, thr_l, bd_s]
  exact it (by decide)
theorem C_dropL (hc : c < 4) (hn : cn c = nI n) (hC : Cv n (cf c)) {k : Nat} (hk : k < n) (hl : cf c (6 * k + 5) = 1) : F_L_drops bd sc cn cf sn sf (nI c) (nI k) = some (-10000003, bd, sc, cn, cf, sn, sf) := by
  unfold F_L_drops F_X3_removeKey
  rw [kCur hc, thr_r, hn, kKeyI hC.1 hk, thr_r, kUn1 hC.1 hk hl, thr_l, bd_s]
  exact it (by decide)
theorem C_drop (hS : Sv sc) (hR : Pr cn) (hc : c < 4) (hn : cn c = nI n) (hC : Cv n (cf c)) {k : Nat} (hk : k < n) (hl : cf c (6 * k + 5) ≠ 1) : ∃ bd' sc' sn' sf' f', F_L_drops bd sc cn cf sn sf (nI c) (nI k) = some (nI (n - 1), bd', sc', vu cn c (nI (n - 1)), vu cf c f', sn', sf') ∧ Sv sc' ∧ Ag (n - 1) (delS k (cf c)) f' := by
  obtain ⟨bd', sc', sn', sf', e3, e4⟩ := kSave cf sn sf bd hS hR
  obtain ⟨f', i1, i2⟩ := cTakeOut hC.1 (Ag.rf (F := cf c)) hk
  refine ⟨bd', sc', sn', sf', f', ?_, e4, i2⟩
  unfold F_L_drops F_X3_removeKey
  rw [kCur hc, thr_r, hn, kKeyI hC.1 hk, thr_r, kUn0 hC.1 hk hl, thr_r, e3, bd_s, i1, bd_s, vlet_e, vlet_e, vu_s, bd_s]
theorem C_set0 (hc : c < 4) (hn : cn c = nI n) (hC : Cv n (cf c)) {k : Nat} (hk : n ≤ k) (hk2 : k < 1000) (v g : Int32) : F_L_sets bd sc cn cf sn sf (nI c) (nI k) v g = some (-10000001, bd, sc, cf, sn, sf) := by
  unfold F_L_sets F_X3_setKey
  rw [kCur hc, thr_r, hn, kKeyO hC.1 hk hk2, thr_l, bd_s]
  exact it (by decide)
theorem C_setL (hc : c < 4) (hn : cn c = nI n) (hC : Cv n (cf c)) {k : Nat} (hk : k < n) (hl : cf c (6 * k + 5) = 1) {v g : Int32} (hv : -9999 ≤ v.toInt ∧ v.toInt ≤ 9999) (hg : 0 ≤ g.toInt ∧ g.toInt ≤ 5) : F_L_sets bd sc cn cf sn sf (nI c) (nI k) v g = some (-10000003, bd, sc, cf, sn, sf) := by
  unfold F_L_sets F_X3_setKey
  rw [kCur hc, thr_r, hn, kKeyI hC.1 hk, thr_r, kVa hv, thr_r, kRin (a := 0) (b := 5) hg, thr_r, kUn1 hC.1 hk hl, thr_l, bd_s]
  exact it (by decide)
theorem C_set (hS : Sv sc) (hR : Pr cn) (hc : c < 4) (hn : cn c = nI n) (hC : Cv n (cf c)) {k : Nat} (hk : k < n) (hl : cf c (6 * k + 5) ≠ 1) {v g : Int32} (hv : -9999 ≤ v.toInt ∧ v.toInt ≤ 9999) (hg : 0 ≤ g.toInt ∧ g.toInt ≤ 5) : ∃ bd' sc' sn' sf', F_L_sets bd sc cn cf sn sf (nI c) (nI k) v g = some (cf c (6 * k + 1), bd', sc', vu cf c (upd (upd (cf c) (6 * k + 1) v) (6 * k + 2) g), sn', sf') ∧ Sv sc' := by
  obtain ⟨bd', sc', sn', sf', e3, e4⟩ := kSave cf sn sf bd hS hR
  refine ⟨bd', sc', sn', sf', ?_, e4⟩
  unfold F_L_sets F_X3_setKey
  rw [kCur hc, thr_r, hn, kKeyI hC.1 hk, thr_r, kVa hv, thr_r, kRin (a := 0) (b := 5) hg, thr_r, kUn0 hC.1 hk hl, thr_r, e3, bd_s, cCell1 hC.1 hk, bd_s, cPut1 hC.1 hk, bd_s, vlet_e, vu_s, cPut2 hC.1 hk, bd_s, vlet_e, vu_vu, bd_s]
theorem C_lean0 (hc : c < 4) (hn : cn c = nI n) (hC : Cv n (cf c)) {k : Nat} (hk : n ≤ k) (hk2 : k < 1000) (v g : Int32) : F_L_leans bd sc cn cf sn sf (nI c) (nI k) v g = some (-10000001, bd, sc, cf, sn, sf) := by
  unfold F_L_leans F_X3_setTangent
  rw [kCur hc, thr_r, hn, kKeyO hC.1 hk hk2, thr_l, bd_s]
  exact it (by decide)
theorem C_leanL (hc : c < 4) (hn : cn c = nI n) (hC : Cv n (cf c)) {k : Nat} (hk : k < n) (hl : cf c (6 * k + 5) = 1) {v g : Int32} (hv : 0 ≤ v.toInt ∧ v.toInt ≤ 2) (hg : -99999 ≤ g.toInt ∧ g.toInt ≤ 99999) : F_L_leans bd sc cn cf sn sf (nI c) (nI k) v g = some (-10000003, bd, sc, cf, sn, sf) := by
  unfold F_L_leans F_X3_setTangent
  rw [kCur hc, thr_r, hn, kKeyI hC.1 hk, thr_r, kRin (a := 0) (b := 2) hv, thr_r, kRin (a := -99999) (b := 99999) hg, thr_r, kUn1 hC.1 hk hl, thr_l, bd_s]
  exact it (by decide)
theorem C_lean (hS : Sv sc) (hR : Pr cn) (hc : c < 4) (hn : cn c = nI n) (hC : Cv n (cf c)) {k : Nat} (hk : k < n) (hl : cf c (6 * k + 5) ≠ 1) {v g : Int32} (hv : 0 ≤ v.toInt ∧ v.toInt ≤ 2) (hg : -99999 ≤ g.toInt ∧ g.toInt ≤ 99999) : ∃ bd' sc' sn' sf', F_L_leans bd sc cn cf sn sf (nI c) (nI k) v g = some (tangS n (cf c) k, bd', sc', vu cf c (upd (upd (cf c) (6 * k + 3) v) (6 * k + 4) g), sn', sf') ∧ Sv sc' := by
  obtain ⟨bd', sc', sn', sf', e3, e4⟩ := kSave cf sn sf bd hS hR
  refine ⟨bd', sc', sn', sf', ?_, e4⟩
  unfold F_L_leans F_X3_setTangent
  rw [kCur hc, thr_r, hn, kKeyI hC.1 hk, thr_r, kRin (a := 0) (b := 2) hv, thr_r, kRin (a := -99999) (b := 99999) hg, thr_r, kUn0 hC.1 hk hl, thr_r, e3, bd_s, cTangent hC hk, bd_s, cPut3 hC.1 hk, bd_s, vlet_e, vu_s, cPut4 hC.1 hk, bd_s, vlet_e, vu_vu, bd_s]
theorem C_lock0 (hc : c < 4) (hn : cn c = nI n) (hC : Cv n (cf c)) {k : Nat} (hk : n ≤ k) (hk2 : k < 1000) (b : Int32) : F_L_locks bd sc cn cf sn sf (nI c) (nI k) b = some (-10000001, bd, sc, cf, sn, sf) := by
  unfold F_L_locks F_X3_lock
  rw [kCur hc, thr_r, hn, kKeyO hC.1 hk hk2, thr_l, bd_s]
  exact it (by decide)
theorem C_lock (hS : Sv sc) (hR : Pr cn) (hc : c < 4) (hn : cn c = nI n) (hC : Cv n (cf c)) {k : Nat} (hk : k < n) {b : Int32} (hb : b = 0 ∨ b = 1) : ∃ bd' sc' sn' sf', F_L_locks bd sc cn cf sn sf (nI c) (nI k) b = some (cf c (6 * k + 5), bd', sc', vu cf c (upd (cf c) (6 * k + 5) b), sn', sf') ∧ Sv sc' := by
  obtain ⟨bd', sc', sn', sf', e3, e4⟩ := kSave cf sn sf bd hS hR
  refine ⟨bd', sc', sn', sf', ?_, e4⟩
  unfold F_L_locks F_X3_lock
  rw [kCur hc, thr_r, hn, kKeyI hC.1 hk, thr_r, e3, bd_s, cCell5 hC.1 hk, bd_s]
  rcases hb with rfl | rfl
  · rw [it rfl, cPut5 hC.1 hk, bd_s, vlet_e, bd_s]
  · rw [if_ (by decide), cPut5 hC.1 hk, bd_s, vlet_e, bd_s]
theorem C_strN (hc : c < 4) (hn : cn c = nI n) (hC : Cv n (cf c)) {x y p : Nat} (hxy : x < y) (hy : y ≤ 999) (hp : 10 ≤ p ∧ p ≤ 500) (hm : mayR (cf c) (nI x) (nI y) (nI p) n 0 (-1) = false) : F_L_stretches bd sc cn cf sn sf (nI c) (nI x) (nI y) (nI p) = some (-10000003, bd, sc, cf, sn, sf) := by
  have h1 : F_X3_requireSpan (nI x) (nI y) = some (.inr ()) := by
    have e8 : (998 : Int32).toInt = 998 := rfl
    have e9 : (999 : Int32).toInt = 999 := rfl
    have e0 : (0 : Int32).toInt = 0 := rfl
    have ex := n_T (n := x) (by omega)
    have ey := n_T (n := y) (by omega)
    have ex1 := n_T (n := x + 1) (by omega)
    unfold F_X3_requireSpan
    rw [kRin (by omega), thr_r, nI_1, kRin (by omega), thr_r]
  have ep := n_T (n := p) (by omega)
  have e10 : (10 : Int32).toInt = 10 := rfl
  have e500 : (500 : Int32).toInt = 500 := rfl
  unfold F_L_stretches F_X3_stretch
  rw [kCur hc, thr_r, h1, thr_r, kRin (by omega), thr_r, hn, cCan hC, hm, bd_s, it b1f, bd_s]
  exact it (by decide)
theorem C_str (hS : Sv sc) (hR : Pr cn) (hc : c < 4) (hn : cn c = nI n) (hC : Cv n (cf c)) {x y p : Nat} (hxy : x < y) (hy : y ≤ 999) (hp : 10 ≤ p ∧ p ≤ 500) (hm : mayR (cf c) (nI x) (nI y) (nI p) n 0 (-1) = true) : ∃ bd' sc' sn' sf' f', F_L_stretches bd sc cn cf sn sf (nI c) (nI x) (nI y) (nI p) = some (chg (cf c) (nI x) (nI y) (nI p) n 0 0, bd', sc', vu cf c f', sn', sf') ∧ Sv sc' ∧ (∀ j, j < n → f' (6 * j) = strS (cf c (6 * j)) (nI x) (nI y) (nI p)) ∧ ∀ j w, j < n → 0 < w → w < 6 → f' (6 * j + w) = cf c (6 * j + w) := by
  obtain ⟨bd', sc', sn', sf', e3, e4⟩ := kSave cf sn sf bd hS hR
  have h16 := hC.1
  obtain ⟨f', i1, i2, i3⟩ := cSpanL (f0 := cf c) h16 (nI x) (nI y) (nI p) n 2000 0 (cf c) 0 (by omega) (by omega) (fun j hj => absurd hj (by omega)) (fun _ _ _ => rfl) (fun _ _ _ _ _ => rfl)
  refine ⟨bd', sc', sn', sf', f', ?_, e4, i2, i3⟩
  have h1 : F_X3_requireSpan (nI x) (nI y) = some (.inr ()) := by
    have e8 : (998 : Int32).toInt = 998 := rfl
    have e9 : (999 : Int32).toInt = 999 := rfl
    have e0 : (0 : Int32).toInt = 0 := rfl
    have ex := n_T (n := x) (by omega)
    have ey := n_T (n := y) (by omega)
    have ex1 := n_T (n := x + 1) (by omega)
    unfold F_X3_requireSpan
    rw [kRin (by omega), thr_r, nI_1, kRin (by omega), thr_r]
  have ep := n_T (n := p) (by omega)
  have e10 : (10 : Int32).toInt = 10 := rfl
  have e500 : (500 : Int32).toInt = 500 := rfl
  have i1 : F_X0_stretchSpan_6 (nI n) (nI x) (nI y) (nI p) 2000 (cf c) 0 0 = some (chg (cf c) (nI x) (nI y) (nI p) n 0 0, f') := i1
  unfold F_L_stretches F_X3_stretch F_X0_stretchSpan
  rw [kCur hc, thr_r, h1, thr_r, kRin (by omega), thr_r, hn, cCan hC, hm, bd_s, if_ b1t, e3, bd_s, i1, bd_s, vlet_e, bd_s]
theorem C_move0 (hc : c < 4) (hn : cn c = nI n) (hC : Cv n (cf c)) {k : Nat} (hk : n ≤ k) (hk2 : k < 1000) (v : Int32) : F_L_moves bd sc cn cf sn sf (nI c) (nI k) v = some (-10000001, bd, sc, cn, cf, sn, sf) := by
  unfold F_L_moves F_X3_moveKey
  rw [kCur hc, thr_r, hn, kKeyO hC.1 hk hk2, thr_l, bd_s]
  exact it (by decide)
theorem C_moveL (hc : c < 4) (hn : cn c = nI n) (hC : Cv n (cf c)) {k : Nat} (hk : k < n) (hl : cf c (6 * k + 5) = 1) {fr : Int32} (hf : 0 ≤ fr.toInt ∧ fr.toInt ≤ 999) : F_L_moves bd sc cn cf sn sf (nI c) (nI k) fr = some (-10000003, bd, sc, cn, cf, sn, sf) := by
  unfold F_L_moves F_X3_moveKey
  rw [kCur hc, thr_r, hn, kKeyI hC.1 hk, thr_r, kFr hf, thr_r, kUn1 hC.1 hk hl, thr_l, bd_s]
  exact it (by decide)
theorem C_moveX (hc : c < 4) (hn : cn c = nI n) (hC : Cv n (cf c)) {k : Nat} (hk : k < n) (hl : cf c (6 * k + 5) ≠ 1) {fr : Int32} (hf : 0 ≤ fr.toInt ∧ fr.toInt ≤ 999) {j : Nat} (hj : j < n) (hjk : j ≠ k) (e : cf c (6 * j) = fr) : F_L_moves bd sc cn cf sn sf (nI c) (nI k) fr = some (-10000003, bd, sc, cn, cf, sn, sf) := by
  have h16 := hC.1
  unfold F_L_moves F_X3_moveKey
  rw [kCur hc, thr_r, hn, kKeyI hC.1 hk, thr_r, kFr hf, thr_r, kUn0 hC.1 hk hl, thr_r]
  rcases cAt hC fr with ⟨i, j1, j2, j3⟩ | ⟨j1, -⟩
  · have : i = j := one_at hC j1 hj (j2.trans e.symm)
    subst this
    rw [j3, bd_s, if_ (nI_ne (by omega)), if_ (fun q => hjk ((n_eq (by omega) (by omega)).mp q)), bd_s]
    exact it (by decide)
  · exact absurd e (j1 j hj)
theorem C_move (hS : Sv sc) (hR : Pr cn) (hc : c < 4) (hn : cn c = nI n) (hC : Cv n (cf c)) {k : Nat} (hk : k < n) (hl : cf c (6 * k + 5) ≠ 1) {fr : Int32} (hf : 0 ≤ fr.toInt ∧ fr.toInt ≤ 999) (hno : ∀ j, j < n → j ≠ k → cf c (6 * j) ≠ fr) : ∃ bd' sc' sn' sf' f', F_L_moves bd sc cn cf sn sf (nI c) (nI k) fr = some (nI (cnt (n - 1) (delS k (cf c)) fr), bd', sc', vu cn c (nI n), vu cf c f', sn', sf') ∧ Sv sc' ∧ Ag n (insS (cnt (n - 1) (delS k (cf c)) fr) (delS k (cf c)) (r6 fr (cf c (6 * k + 1)) (cf c (6 * k + 2)) (cf c (6 * k + 3)) (cf c (6 * k + 4)) (cf c (6 * k + 5)))) f' := by
  have h16 := hC.1
  obtain ⟨bd', sc', sn', sf', e3, e4⟩ := kSave cf sn sf bd hS hR
  obtain ⟨f1, i1, i2⟩ := cTakeOut h16 (Ag.rf (F := cf c)) hk
  obtain ⟨f2, i3, i4⟩ := cInsert (n := n - 1) (by omega) i2 fr (cf c (6 * k + 1)) (cf c (6 * k + 2)) (cf c (6 * k + 3)) (cf c (6 * k + 4)) (cf c (6 * k + 5))
  rw [show n - 1 + 1 = n by omega] at i3 i4
  refine ⟨bd', sc', sn', sf', f2, ?_, e4, i4⟩
  have core : F_X0_moveTo (nI n) (cf c) (nI k) fr = some (nI (cnt (n - 1) (delS k (cf c)) fr), nI n, f2) := by
    unfold F_X0_moveTo
    rw [cCell1 h16 hk, bd_s, cCell2 h16 hk, bd_s, cCell3 h16 hk, bd_s, cCell4 h16 hk, bd_s, cCell5 h16 hk, bd_s, i1, bd_s, i3, bd_s]
  unfold F_L_moves F_X3_moveKey
  rw [kCur hc, thr_r, hn, kKeyI hC.1 hk, thr_r, kFr hf, thr_r, kUn0 hC.1 hk hl, thr_r]
  rcases cAt hC fr with ⟨i, j1, j2, j3⟩ | ⟨-, j1⟩
  · have : i = k := Classical.byContradiction fun q => hno i j1 q j2
    subst this
    rw [j3, bd_s, if_ (nI_ne (by omega)), it rfl, e3, bd_s, core, bd_s, vlet_e, vlet_e, bd_s]
  · rw [j1, bd_s, it rfl, e3, bd_s, core, bd_s, vlet_e, vlet_e, bd_s]
theorem C_copy4 (hc : c < 4) (o : Int32) : F_L_copies bd sc cn cf sn sf (nI c) 4 o = some (-10000001, bd, sc, cn, cf, sn, sf) := by
  unfold F_L_copies F_X3_copy
  rw [kCur hc, thr_r, kCur4, thr_l, bd_s]
  exact it (by decide)
theorem C_copyN (hc : c < 4) (hn : cn c = nI n) (hC : Cv n (cf c)) {d m : Nat} (hd : d < 4) (hm : cn d = nI m) (hD : Cv m (cf d)) {o : Int32} (ho : -9999 ≤ o.toInt ∧ o.toInt ≤ 9999) (h : lkR (cf c) n 0 = true ∨ raR (cf d) o m 0 = false) : F_L_copies bd sc cn cf sn sf (nI c) (nI d) o = some (-10000003, bd, sc, cn, cf, sn, sf) := by
  unfold F_L_copies F_X3_copy F_X3_requireNoLock
  rw [kCur hc, thr_r, kCur hd, thr_r, kVa ho, thr_r, hn, cHas hC.1, bd_s]
  cases hl : lkR (cf c) n 0 with
  | true =>
    rw [if_ b1t, thr_l, bd_s]
    exact it (by decide)
  | false =>
    rcases h with h | h
    · rw [hl] at h
      cases h
    · rw [it b1f, thr_r, hm, cRai hD ho, h, bd_s, it b1f, bd_s]
      exact it (by decide)
theorem C_copy (hS : Sv sc) (hR : Pr cn) (hc : c < 4) (hn : cn c = nI n) (hC : Cv n (cf c)) {d m : Nat} (hd : d < 4) (hm : cn d = nI m) (hD : Cv m (cf d)) {o : Int32} (ho : -9999 ≤ o.toInt ∧ o.toInt ≤ 9999) (hl : lkR (cf c) n 0 = false) (hr : raR (cf d) o m 0 = true) : ∃ bd' sc' sn' sf' f', F_L_copies bd sc cn cf sn sf (nI c) (nI d) o = some (nI m, bd', sc', vu cn c (nI m), vu cf c f', sn', sf') ∧ Sv sc' ∧ (∀ j, j < m → f' (6 * j + 1) = cf d (6 * j + 1) + o) ∧ ∀ j w, j < m → w ≠ 1 → w < 6 → f' (6 * j + w) = cf d (6 * j + w) := by
  have h16 := hD.1
  obtain ⟨bd', sc', sn', sf', e3, e4⟩ := kSave cf sn sf bd hS hR
  have core : ∀ f1, Ag m (cf d) f1 → ∃ f', F_X0_raise (nI m) f1 o = some f' ∧ (∀ j, j < m → f' (6 * j + 1) = cf d (6 * j + 1) + o) ∧ ∀ j w, j < m → w ≠ 1 → w < 6 → f' (6 * j + w) = cf d (6 * j + w) := by
    intro f1 a1
    exact cRaiseL (f0 := cf d) h16 o m 2000 0 f1 (by omega) (by omega) (fun j hj => absurd hj (by omega)) (fun j _ hj => a1 _ (by omega)) (fun j w hj _ hw => a1 _ (by omega))
  by_cases hcd : c = d
  · subst hcd
    have hmn : m = n := by
      have e : nI m = nI n := hm.symm.trans hn
      exact (n_eq (by omega) (by have := hC.1; omega)).mp e
    subst hmn
    obtain ⟨f1, a1, a2⟩ := cBecomeS (f := cf c) h16
    obtain ⟨f', b1', b2, b3⟩ := core f1 a2
    refine ⟨bd', sc', sn', sf', f', ?_, e4, b2, b3⟩
    unfold F_L_copies F_X3_copy F_X3_requireNoLock
    rw [kCur hc, thr_r, thr_r, kVa ho, thr_r, hn, cHas hC.1, bd_s, hl, it b1f, thr_r, cRai hD ho, hr, bd_s, if_ b1t, e3, bd_s, it rfl, a1, bd_s, vlet_e, vlet_e, vu_s, vu_s, b1', bd_s, vlet_e, vu_vu, bd_s]
  · obtain ⟨f1, a1, a2⟩ := cBecome (f := cf d) h16 (nI n) (cf c)
    obtain ⟨f', b1', b2, b3⟩ := core f1 a2
    refine ⟨bd', sc', sn', sf', f', ?_, e4, b2, b3⟩
    unfold F_L_copies F_X3_copy F_X3_requireNoLock
    rw [kCur hc, thr_r, kCur hd, thr_r, kVa ho, thr_r, hn, cHas hC.1, bd_s, hl, it b1f, thr_r, hm, cRai hD ho, hr, bd_s, if_ b1t, e3, bd_s, if_ hcd, a1, bd_s, vlet_e, vlet_e, vu_s, vu_s, b1', bd_s, vlet_e, vu_vu, bd_s]
end Calls

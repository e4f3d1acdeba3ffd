/-! ===== the law's loop ===== -/
theorem and31 (z : Int32) : ∃ k, k < 32 ∧ z &&& 31 = nI k := by
  have h1 : (z.toBitVec &&& 31#32).toNat ≤ 31 := by
    rw [BitVec.toNat_and]
    exact Nat.and_le_right
  have h2 : (z &&& 31).toInt = (z.toBitVec &&& 31#32).toInt := rfl
  rw [BitVec.toInt_eq_toNat_of_lt (by omega)] at h2
  exact n_of' (n := 32) (by omega) (by omega)
theorem lw_t5 {i L : Nat} (hi : i ≤ 2560) (hL : L ≤ 2560) : nI i > Int32.ofNat L - 5 ↔ L < i + 5 := by
  have h0 := n_T (n := i) (by omega)
  show Int32.ofNat L - 5 < nI i ↔ _
  rw [fa_lt, h0]
  by_cases h : L < 5
  · rcases (show L = 0 ∨ L = 1 ∨ L = 2 ∨ L = 3 ∨ L = 4 by omega) with rfl | rfl | rfl | rfl | rfl
    · rw [show (Int32.ofNat 0 - 5).toInt = -5 by decide]
      omega
    · rw [show (Int32.ofNat 1 - 5).toInt = -4 by decide]
      omega
    · rw [show (Int32.ofNat 2 - 5).toInt = -3 by decide]
      omega
    · rw [show (Int32.ofNat 3 - 5).toInt = -2 by decide]
      omega
    · rw [show (Int32.ofNat 4 - 5).toInt = -1 by decide]
      omega
  · rw [show Int32.ofNat L - 5 = nI (L - 5) from pk_sub (b := 5) (by omega), n_T (n := L - 5) (by omega)]
    omega
theorem law_head {l : Launch} {p : Program} {e : Env} {s : State} {m : MethodId} {below : List Frame} {meth : Method} {c : Code} {b L : Nat} {xs : Nat → Int32} {G : va_G} {g : Nat → ClassId} {ad : Nat → Nat} {jo js jp ja jk jt jb o1 o2 : Nat} {H : Heap} {locs : List Loc} {ce sl i : Nat} {ls : Array Slot} {Q : State → Prop} (hi : i ≤ 2560) (E : lwE l p s m meth c b L xs G g) (I : lwI G g ad jo js jp ja jk jt jb o1 o2 s H locs) (hl : lv_has ls 9 (lwL b (ad 0) jo o1 o2 i))
    (k1 : L < i + 5 → W p l e room_1 s m #[Value.ref b] below meth c H locs ce sl Q (F0 m 1853 ls [])) (k2 : i + 5 ≤ L → W p l e room_1 s m #[Value.ref b] below meth c H locs ce sl Q (F0 m 37 ls [])) : W p l e room_1 s m #[Value.ref b] below meth c H locs ce sl Q (F0 m 28 ls []) := by
  obtain ⟨X, K, hs, hnc, hX, hbl, hL, hf0⟩ := E
  obtain ⟨hx, hb, hml, hr, hown, hts, hk⟩ := id X
  obtain ⟨bd, sc, tl, tat, tb, cn, cf, sn, sf, tn, tf, vv, ov, un, uy, uw, uq, uz, us, up, ua, uk, ut, ub, fo, fd, hP, hD, hS, hSt, hRs, hTx⟩ := I
  refine lv_iload hx hb dL_law_28 (lv_at hl 0 rfl) ?_
  refine lv_aload_n hx hb dL_law_30 rfl (lv_at hl 5 rfl) ?_
  refine va_slen hx hb hX hbl (Nat.not_le.mpr hbl) hS dL_law_31 ?_
  refine lv_iconst (v := 5) hx hb dL_law_32 (by decide) ?_
  refine lv_isub hx hb dL_law_33 ?_
  refine lv_icmp_gt (tgt := 1853) hx hb dL_law_34 (by decide) (fun h => ?_) (fun h => ?_)
  · exact k1 ((lw_t5 hi hL).mp h)
  · exact k2 (Nat.not_lt.mp fun q => h ((lw_t5 hi hL).mpr q))
set_option maxRecDepth 20000 in
theorem law_switch {l : Launch} {p : Program} {e : Env} {s : State} {m : MethodId} {below : List Frame} {meth : Method} {c : Code} {b L : Nat} {xs : Nat → Int32} {G : va_G} {g : Nat → ClassId} {ad : Nat → Nat} {jo js jp ja jk jt jb o1 o2 : Nat} {H : Heap} {locs : List Loc} {ce sl i : Nat} {ls : Array Slot} {Q : State → Prop} (hce : ce + 1 ≤ 601024 ∧ sl + 6 ≤ 7293034) (hi : i + 5 ≤ L) (E : lwE l p s m meth c b L xs G g) (I : lwI G g ad jo js jp ja jk jt jb o1 o2 s H locs) (hl : lv_has ls 9 (lwL b (ad 0) jo o1 o2 i))
    (kk : ∀ (H1 : Heap) (locs1 : List Loc) (ls1 : Array Slot), lwI G g ad jo js jp ja jk jt jb o1 o2 s H1 locs1 → lv_has ls1 9 (lwL b (ad 0) jo o1 o2 i) → W p l e room_1 s m #[Value.ref b] below meth c H1 locs1 (ce + 1) (sl + 6) Q (F0 m 1847 ls1 [])) : W p l e room_1 s m #[Value.ref b] below meth c H locs ce sl Q (F0 m 37 ls []) := by
  have E0 := E
  have I0 := I
  obtain ⟨X, K, hs, hnc, hX, hbl, hL, hf0⟩ := E
  obtain ⟨hx, hb, hml, hr, hown, hts, hk⟩ := id X
  obtain ⟨bd, sc, tl, tat, tb, cn, cf, sn, sf, tn, tf, vv, ov, un, uy, uw, uq, uz, us, up, ua, uk, ut, ub, fo, fd, hP, hD, hS, hSt, hRs, hTx⟩ := I
  refine lv_aload_n hx hb dL_law_37 rfl (lv_at hl 5 rfl) ?_
  refine lv_iload hx hb dL_law_38 (lv_at hl 0 rfl) ?_
  refine va_sld (i := nI i) hx hb hX hbl (Nat.not_le.mpr hbl) hS (vp_in_iff.mpr (n_ix (by omega) (by omega))) dL_law_40 ?_
  refine lv_bipush (v := 31) hx hb dL_law_41 (by decide) ?_
  refine lv_iand hx hb dL_law_43 ?_
  obtain ⟨k, hk32, ek⟩ := and31 (xs (nI i).toNatClampNeg)
  rw [ek]
  by_cases h24 : 24 ≤ k
  · refine lv_tableOut (tgt := 1847) hx hb dL_law_44 (Or.inr ?_) (by decide) ?_
    · rw [n_T (n := k) (by omega)]
      omega
    refine W.widen (k := ce + 1) (n := sl + 6) (Nat.le_add_right _ _) (Nat.le_add_right _ _) ?_
    exact kk _ _ _ I0 hl
  · rcases (show k = 0 ∨ k = 1 ∨ k = 2 ∨ k = 3 ∨ k = 4 ∨ k = 5 ∨ k = 6 ∨ k = 7 ∨ k = 8 ∨ k = 9 ∨ k = 10 ∨ k = 11 ∨ k = 12 ∨ k = 13 ∨ k = 14 ∨ k = 15 ∨ k = 16 ∨ k = 17 ∨ k = 18 ∨ k = 19 ∨ k = 20 ∨ k = 21 ∨ k = 22 ∨ k = 23 by omega) with rfl | rfl | rfl | rfl | rfl | rfl | rfl | rfl | rfl | rfl | rfl | rfl | rfl | rfl | rfl | rfl | rfl | rfl | rfl | rfl | rfl | rfl | rfl | rfl
    · exact lv_tableIn (off := 112) (tgt := 156) hx hb dL_law_44 (by decide) (by decide) (by decide) (by decide) (law_addKey hce hi E0 I0 hl kk)
    · exact lv_tableIn (off := 204) (tgt := 248) hx hb dL_law_44 (by decide) (by decide) (by decide) (by decide) (law_removeKey hce hi E0 I0 hl kk)
    · exact lv_tableIn (off := 272) (tgt := 316) hx hb dL_law_44 (by decide) (by decide) (by decide) (by decide) (law_setKey hce hi E0 I0 hl kk)
    · exact lv_tableIn (off := 364) (tgt := 408) hx hb dL_law_44 (by decide) (by decide) (by decide) (by decide) (law_moveKey hce hi E0 I0 hl kk)
    · exact lv_tableIn (off := 444) (tgt := 488) hx hb dL_law_44 (by decide) (by decide) (by decide) (by decide) (law_setTangent hce hi E0 I0 hl kk)
    · exact lv_tableIn (off := 536) (tgt := 580) hx hb dL_law_44 (by decide) (by decide) (by decide) (by decide) (law_lock hce hi E0 I0 hl kk)
    · exact lv_tableIn (off := 632) (tgt := 676) hx hb dL_law_44 (by decide) (by decide) (by decide) (by decide) (law_stretch hce hi E0 I0 hl kk)
    · exact lv_tableIn (off := 724) (tgt := 768) hx hb dL_law_44 (by decide) (by decide) (by decide) (by decide) (law_copy hce hi E0 I0 hl kk)
    · exact lv_tableIn (off := 804) (tgt := 848) hx hb dL_law_44 (by decide) (by decide) (by decide) (by decide) (law_reduce hce hi E0 I0 hl kk)
    · exact lv_tableIn (off := 872) (tgt := 916) hx hb dL_law_44 (by decide) (by decide) (by decide) (by decide) (law_key hce hi E0 I0 hl kk)
    · exact lv_tableIn (off := 952) (tgt := 996) hx hb dL_law_44 (by decide) (by decide) (by decide) (by decide) (law_value hce hi E0 I0 hl kk)
    · exact lv_tableIn (off := 1020) (tgt := 1064) hx hb dL_law_44 (by decide) (by decide) (by decide) (by decide) (law_sum hce hi E0 I0 hl kk)
    · exact lv_tableIn (off := 1099) (tgt := 1143) hx hb dL_law_44 (by decide) (by decide) (by decide) (by decide) (law_extreme hce hi E0 I0 hl kk)
    · exact lv_tableIn (off := 1191) (tgt := 1235) hx hb dL_law_44 (by decide) (by decide) (by decide) (by decide) (law_crossings hce hi E0 I0 hl kk)
    · exact lv_tableIn (off := 1259) (tgt := 1303) hx hb dL_law_44 (by decide) (by decide) (by decide) (by decide) (law_difference hce hi E0 I0 hl kk)
    · exact lv_tableIn (off := 1327) (tgt := 1371) hx hb dL_law_44 (by decide) (by decide) (by decide) (by decide) (law_mean hce hi E0 I0 hl kk)
    · exact lv_tableIn (off := 1404) (tgt := 1448) hx hb dL_law_44 (by decide) (by decide) (by decide) (by decide) (law_error hce hi E0 I0 hl kk)
    · exact lv_tableIn (off := 1472) (tgt := 1516) hx hb dL_law_44 (by decide) (by decide) (by decide) (by decide) (law_greatestStretch hce hi E0 I0 hl kk)
    · exact lv_tableIn (off := 1552) (tgt := 1596) hx hb dL_law_44 (by decide) (by decide) (by decide) (by decide) (law_leastEase hce hi E0 I0 hl kk)
    · exact lv_tableIn (off := 1620) (tgt := 1664) hx hb dL_law_44 (by decide) (by decide) (by decide) (by decide) (law_append hce hi E0 I0 hl kk)
    · exact lv_tableIn (off := 1676) (tgt := 1720) hx hb dL_law_44 (by decide) (by decide) (by decide) (by decide) (law_clearText hce hi E0 I0 hl kk)
    · exact lv_tableIn (off := 1689) (tgt := 1733) hx hb dL_law_44 (by decide) (by decide) (by decide) (by decide) (law_parse hce hi E0 I0 hl kk)
    · exact lv_tableIn (off := 1745) (tgt := 1789) hx hb dL_law_44 (by decide) (by decide) (by decide) (by decide) (law_undo hce hi E0 I0 hl kk)
    · exact lv_tableIn (off := 1789) (tgt := 1833) hx hb dL_law_44 (by decide) (by decide) (by decide) (by decide) (law_digest hce hi E0 I0 hl kk)
theorem law_loop {l : Launch} {p : Program} {e : Env} {s : State} {m : MethodId} {below : List Frame} {meth : Method} {c : Code} {b L : Nat} {xs : Nat → Int32} {G : va_G} {g : Nat → ClassId} {ad : Nat → Nat} {jo js jp ja jk jt jb o1 o2 : Nat} {Q : State → Prop} (E : lwE l p s m meth c b L xs G g)
    (kend : ∀ (H1 : Heap) (locs1 : List Loc) (ls1 : Array Slot), (∀ q ∈ locs1, s.heap.size ≤ q.base) → W p l e room_1 s m #[Value.ref b] below meth c H1 locs1 601024 7293034 Q (F0 m 1853 ls1 [])) : ∀ (N i ce sl : Nat) (H : Heap) (locs : List Loc) (ls : Array Slot), L ≤ i + 5 * N + 4 → i ≤ 2560 → ce + N ≤ 601024 → sl + 6 * N ≤ 7293034 → lwI G g ad jo js jp ja jk jt jb o1 o2 s H locs → lv_has ls 9 (lwL b (ad 0) jo o1 o2 i) → W p l e room_1 s m #[Value.ref b] below meth c H locs ce sl Q (F0 m 28 ls []) := by
  have hL := E.2.2.2.2.2.2.1
  intro N
  induction N with
  | zero =>
    intro i ce sl H locs ls h1 h2 h3 h4 I hl
    have I0 := I
    obtain ⟨bd, sc, tl, tat, tb, cn, cf, sn, sf, tn, tf, vv, ov, un, uy, uw, uq, uz, us, up, ua, uk, ut, ub, fo, fd, hP, hD, hS, hSt, hRs, hTx⟩ := I
    exact law_head h2 E I0 hl (fun _ => W.widen (k := 601024) (n := 7293034) (by omega) (by omega) (kend _ _ _ hS.2.2)) (fun h => absurd h (by omega))
  | succ N ih =>
    intro i ce sl H locs ls h1 h2 h3 h4 I hl
    have I0 := I
    obtain ⟨bd, sc, tl, tat, tb, cn, cf, sn, sf, tn, tf, vv, ov, un, uy, uw, uq, uz, us, up, ua, uk, ut, ub, fo, fd, hP, hD, hS, hSt, hRs, hTx⟩ := I
    refine law_head h2 E I0 hl (fun _ => W.widen (k := 601024) (n := 7293034) (by omega) (by omega) (kend _ _ _ hS.2.2)) (fun h => ?_)
    refine law_switch ⟨by omega, by omega⟩ h E I0 hl (fun H1 locs1 ls1 I1 hl1 => ?_)
    have hx := E.1.1
    have hb := E.1.2.1
    refine lv_iinc (v := nI (i + 5)) (lv' := lwL b (ad 0) jo o1 o2 (i + 5)) hx hb dL_law_1847 hl1 (k := 0) rfl (by rw [show Int32.ofInt 5 = nI 5 by decide, nI_add]) (by decide) rfl (fun ls2 hl2 => ?_)
    refine lv_goto (tgt := 28) hx hb dL_law_1850 (by decide) ?_
    exact ih (i + 5) (ce + 1) (sl + 6) H1 locs1 ls2 (by omega) (by omega) (by omega) (by omega) I1 hl2

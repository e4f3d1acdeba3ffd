/-! ===== the law, case by case, 3 ===== -/
set_option maxHeartbeats 4000000 in
set_option maxRecDepth 100000 in
theorem law_error {l : Launch} {p : Program} {e : Env} {s : State} {m : MethodId} {below : List Frame} {meth : Method} {c : Code} {b L : Nat} {xs : Nat → Int32} {G : va_G} {g : Nat → ClassId} {ad : Nat → Nat} {jo js jp ja jk jt jb o1 o2 : Nat} {H : Heap} {locs : List Loc} {ce sl i : Nat} {ls : Array Slot} {Q : State → Prop} (hce : ce + 1 ≤ 601024 ∧ sl + 6 ≤ 7293034) (hi : i + 5 ≤ L) (E : lwE l p s m meth c b L xs G g) (I : lwI G g ad jo js jp ja jk jt jb o1 o2 s H locs) (hl : lv_has ls 9 (lwL b (ad 0) jo o1 o2 i))
    (kk : ∀ (H1 : Heap) (locs1 : List Loc) (ls1 : Array Slot), lwI G g ad jo js jp ja jk jt jb o1 o2 s H1 locs1 → lv_has ls1 9 (lwL b (ad 0) jo o1 o2 i) → W p l e room_1 s m #[Value.ref b] below meth c H1 locs1 (ce + 1) (sl + 6) Q (F0 m 1847 ls1 [])) : W p l e room_1 s m #[Value.ref b] below meth c H locs ce sl Q (F0 m 1448 ls []) := by
  obtain ⟨X, K, hs, hnc, hX, hbl, hL, hf0⟩ := E
  obtain ⟨hx, hb, hml, hr, hown, hts, hk⟩ := id X
  obtain ⟨bd, sc, tl, tat, tb, cn, cf, sn, sf, tn, tf, vv, ov, un, uy, uw, uq, uz, us, up, ua, uk, ut, ub, fo, fd, hP, hD, hS, hSt, hRs, hTx⟩ := I
  have hA : ∀ q : Nat, s.heap.size ≤ q → (fun q => s.heap.size ≤ q) q := fun _ h => h
  have hce0 : ce ≤ 601024 ∧ sl ≤ 7293034 := ⟨by omega, by omega⟩
  have hl : lv_has ls 9 [(5, .int (nI i)), (4, .ref o2), (3, .ref o1), (2, .ref jo), (1, .ref (ad 0)), (0, .ref b)] := hl
  refine lv_aload_n hx hb dL_law_1448 rfl (lv_at hl 4 rfl) ?_
  refine lv_aload_n hx hb dL_law_1449 rfl (lv_at hl 5 rfl) ?_
  refine lv_iload hx hb dL_law_1450 (lv_at hl 0 rfl) ?_
  refine lv_iconst (v := 1) hx hb dL_law_1452 (by decide) ?_
  refine lv_iadd hx hb dL_law_1453 ?_
  refine va_sld (i := nI i + 1) hx hb hX hbl (Nat.not_le.mpr hbl) hS (show vp_in (nI i + 1) L from lw_in (k := 1) (by omega) hL) dL_law_1454 ?_
  refine lv_aload_n hx hb dL_law_1455 rfl (lv_at hl 5 rfl) ?_
  refine lv_iload hx hb dL_law_1456 (lv_at hl 0 rfl) ?_
  refine lv_iconst (v := 2) hx hb dL_law_1458 (by decide) ?_
  refine lv_iadd hx hb dL_law_1459 ?_
  refine va_sld (i := nI i + 2) hx hb hX hbl (Nat.not_le.mpr hbl) hS (show vp_in (nI i + 2) L from lw_in (k := 2) (by omega) hL) dL_law_1460 ?_
  refine lv_aload_n hx hb dL_law_1461 rfl (lv_at hl 2 rfl) ?_
  rcases R_error (uw := uw) (tn := tn) (tf := tf) (uk := uk) (ub := ub) (us := us) (vv := vv) (ov := ov) hRs ((xs (nI i + 1).toNatClampNeg)) ((xs (nI i + 2).toNatClampNeg)) with ⟨t, t', ht, e1, e2⟩ | ⟨a, tn', tf', vv', ov', us', uk', ub', e1, e2, hRs⟩
  · have htz : 0 < t' ∧ t' < 4 := by omega
    refine lxS (As := [.ref (ad 0), .int (xs (nI i + 1).toNatClampNeg), .int (xs (nI i + 2).toNatClampNeg), .ref o1]) (rest := []) (wr := ((o2, .inl (g 5, 1, .inr (.inr (.inr (.inl fd))))) :: (wM g jo js jp ja jk jt jb un uy uw uq uz us up ua uk ut ub))) X K hs hnc (kxL_error l hf0 G g ad bd sc tl tat tb cn cf sn sf tn tf vv ov o1 fo ((xs (nI i + 1).toNatClampNeg)) ((xs (nI i + 2).toNatClampNeg)) _ _ ht e1) hd_L_error gL_law_L_error hP hD hS hA hl.1 dL_law_1462 rfl rfl ⟨(Nat.le_of_ble_eq_true rfl), (Nat.le_of_ble_eq_true rfl)⟩ rfl (Nat.le_of_ble_eq_true rfl) hce (fun w1 H locs hp hP hD hS => ?_)
    have hp : w1 = _ := hp
    subst hp
    have hP : va_P G vwCl (lwW g ad bd sc tl tat tb cn cf sn sf tn tf vv ov jo js jp ja jk jt jb un uy uw uq uz us up ua uk ut ub o1 fo o2 fd) H := hP
    have hD : va_D (fun q => s.heap.size ≤ q) (lwW g ad bd sc tl tat tb cn cf sn sf tn tf vv ov jo js jp ja jk jt jb un uy uw uq uz us up ua uk ut ub o1 fo o2 fd) := hD
    refine lv_istore (lv' := [(6, .int (nI t')), (5, .int (nI i)), (4, .ref o2), (3, .ref o1), (2, .ref jo), (1, .ref (ad 0)), (0, .ref b)]) hx hb dL_law_1465 hl (by decide) rfl (fun ls hl => ?_)
    refine lv_aload_n hx hb dL_law_1467 rfl (lv_at hl 4 rfl) ?_
    refine lv_aload_n hx hb dL_law_1468 rfl (lv_at hl 6 rfl) ?_
    refine lv_iload hx hb dL_law_1469 (lv_at hl 1 rfl) ?_
    refine lv_iconst (v := 1) hx hb dL_law_1471 (by decide) ?_
    refine lv_iadd hx hb dL_law_1472 ?_
    refine va_sld (i := nI i + 1) hx hb hX hbl (Nat.not_le.mpr hbl) hS (show vp_in (nI i + 1) L from lw_in (k := 1) (by omega) hL) dL_law_1473 ?_
    refine lv_aload_n hx hb dL_law_1474 rfl (lv_at hl 6 rfl) ?_
    refine lv_iload hx hb dL_law_1475 (lv_at hl 1 rfl) ?_
    refine lv_iconst (v := 2) hx hb dL_law_1477 (by decide) ?_
    refine lv_iadd hx hb dL_law_1478 ?_
    refine va_sld (i := nI i + 2) hx hb hX hbl (Nat.not_le.mpr hbl) hS (show vp_in (nI i + 2) L from lw_in (k := 2) (by omega) hL) dL_law_1479 ?_
    refine rwVf (ci := 4) (As := [.int (xs (nI i + 1).toNatClampNeg), .int (xs (nI i + 2).toNatClampNeg)]) (rest := []) X K (k_X4_error l G g jo js jp ja jk jt jb un uy uw uq uz us up ua uk ut ub ((xs (nI i + 1).toNatClampNeg)) ((xs (nI i + 2).toNatClampNeg)) _ e2) hd_X4_error gL_law_X4_error hP hD hS hA foc_M hl.1 dL_law_1480 rfl rfl ⟨(Nat.le_of_ble_eq_true rfl), (Nat.le_of_ble_eq_true rfl)⟩ rfl rfl rfl (Nat.le_of_ble_eq_true rfl) hce (fun H locs hP hD hS => ?_)
    have hP : va_P G vwCl (lwW g ad bd sc tl tat tb cn cf sn sf tn tf vv ov jo js jp ja jk jt jb un uy (nI t') uq uz us up ua uk ut ub o1 fo o2 fd) H := hP
    have hD : va_D (fun q => s.heap.size ≤ q) (lwW g ad bd sc tl tat tb cn cf sn sf tn tf vv ov jo js jp ja jk jt jb un uy (nI t') uq uz us up ua uk ut ub o1 fo o2 fd) := hD
    refine lv_istore (lv' := [(7, .int 0), (6, .int (nI t')), (5, .int (nI i)), (4, .ref o2), (3, .ref o1), (2, .ref jo), (1, .ref (ad 0)), (0, .ref b)]) hx hb dL_law_1483 hl (by decide) rfl (fun ls hl => ?_)
    refine lv_aload_n hx hb dL_law_1485 rfl (lv_at hl 5 rfl) ?_
    refine roV (ci := 4) (As := []) (rest := []) X K (k_X4_thrown l G g jo js jp ja jk jt jb un uy (nI t') uq uz us up ua uk ut ub _ rfl) hd_X4_thrown gL_law_X4_thrown ((foc_M (M' := [])).sub hP) hl.1 dL_law_1486 rfl rfl ⟨(Nat.le_of_ble_eq_true rfl), (Nat.le_of_ble_eq_true rfl)⟩ rfl rfl rfl (Nat.le_of_ble_eq_true rfl) hce ?_
    refine lv_iload hx hb dL_law_1489 (lv_at hl 1 rfl) ?_
    refine lv_icmp_eq (tgt := 1496) hx hb dL_law_1491 (by decide) (fun _ => ?_) (fun h => absurd rfl h)
    refine lv_iload hx hb dL_law_1496 (lv_at hl 1 rfl) ?_
    refine lv_if_ne (tgt := 1513) hx hb dL_law_1498 (by decide) (fun _ => ?_) (fun h => absurd h (lw_nz htz))
    refine lv_goto (tgt := 1847) hx hb dL_law_1513 (by decide) ?_
    exact kk _ _ _ (lwI.mk hP hD hS hSt hRs hTx) (lv_dr hl)
  · refine lxS (As := [.ref (ad 0), .int (xs (nI i + 1).toNatClampNeg), .int (xs (nI i + 2).toNatClampNeg), .ref o1]) (rest := []) (wr := ((o2, .inl (g 5, 1, .inr (.inr (.inr (.inl fd))))) :: (wM g jo js jp ja jk jt jb un uy uw uq uz us up ua uk ut ub))) X K hs hnc (kL_error l G g ad bd sc tl tat tb cn cf sn sf tn tf vv ov o1 fo ((xs (nI i + 1).toNatClampNeg)) ((xs (nI i + 2).toNatClampNeg)) _ e1) hd_L_error gL_law_L_error hP hD hS hA hl.1 dL_law_1462 rfl rfl ⟨(Nat.le_of_ble_eq_true rfl), (Nat.le_of_ble_eq_true rfl)⟩ rfl (Nat.le_of_ble_eq_true rfl) hce (fun w1 H locs hp hP hD hS => ?_)
    have hp : w1 = _ := hp
    subst hp
    have hP : va_P G vwCl (lwW g ad bd sc tl tat tb cn cf sn sf tn' tf' vv' ov' jo js jp ja jk jt jb un uy uw uq uz us up ua uk ut ub o1 (vp_updL fo 0 a.toInt64) o2 fd) H := hP
    have hD : va_D (fun q => s.heap.size ≤ q) (lwW g ad bd sc tl tat tb cn cf sn sf tn' tf' vv' ov' jo js jp ja jk jt jb un uy uw uq uz us up ua uk ut ub o1 (vp_updL fo 0 a.toInt64) o2 fd) := hD
    refine lv_istore (lv' := [(6, .int 0), (5, .int (nI i)), (4, .ref o2), (3, .ref o1), (2, .ref jo), (1, .ref (ad 0)), (0, .ref b)]) hx hb dL_law_1465 hl (by decide) rfl (fun ls hl => ?_)
    refine lv_aload_n hx hb dL_law_1467 rfl (lv_at hl 4 rfl) ?_
    refine lv_aload_n hx hb dL_law_1468 rfl (lv_at hl 6 rfl) ?_
    refine lv_iload hx hb dL_law_1469 (lv_at hl 1 rfl) ?_
    refine lv_iconst (v := 1) hx hb dL_law_1471 (by decide) ?_
    refine lv_iadd hx hb dL_law_1472 ?_
    refine va_sld (i := nI i + 1) hx hb hX hbl (Nat.not_le.mpr hbl) hS (show vp_in (nI i + 1) L from lw_in (k := 1) (by omega) hL) dL_law_1473 ?_
    refine lv_aload_n hx hb dL_law_1474 rfl (lv_at hl 6 rfl) ?_
    refine lv_iload hx hb dL_law_1475 (lv_at hl 1 rfl) ?_
    refine lv_iconst (v := 2) hx hb dL_law_1477 (by decide) ?_
    refine lv_iadd hx hb dL_law_1478 ?_
    refine va_sld (i := nI i + 2) hx hb hX hbl (Nat.not_le.mpr hbl) hS (show vp_in (nI i + 2) L from lw_in (k := 2) (by omega) hL) dL_law_1479 ?_
    refine rwVf (ci := 4) (As := [.int (xs (nI i + 1).toNatClampNeg), .int (xs (nI i + 2).toNatClampNeg)]) (rest := []) X K (k_X4_error l G g jo js jp ja jk jt jb un uy uw uq uz us up ua uk ut ub ((xs (nI i + 1).toNatClampNeg)) ((xs (nI i + 2).toNatClampNeg)) _ e2) hd_X4_error gL_law_X4_error hP hD hS hA foc_M hl.1 dL_law_1480 rfl rfl ⟨(Nat.le_of_ble_eq_true rfl), (Nat.le_of_ble_eq_true rfl)⟩ rfl rfl rfl (Nat.le_of_ble_eq_true rfl) hce (fun H locs hP hD hS => ?_)
    have hP : va_P G vwCl (lwW g ad bd sc tl tat tb cn cf sn sf tn' tf' vv' ov' jo js jp ja jk jt jb un uy 0 uq uz us' up ua uk' ut ub' o1 (vp_updL fo 0 a.toInt64) o2 fd) H := hP
    have hD : va_D (fun q => s.heap.size ≤ q) (lwW g ad bd sc tl tat tb cn cf sn sf tn' tf' vv' ov' jo js jp ja jk jt jb un uy 0 uq uz us' up ua uk' ut ub' o1 (vp_updL fo 0 a.toInt64) o2 fd) := hD
    refine lv_istore (lv' := [(7, .int a), (6, .int 0), (5, .int (nI i)), (4, .ref o2), (3, .ref o1), (2, .ref jo), (1, .ref (ad 0)), (0, .ref b)]) hx hb dL_law_1483 hl (by decide) rfl (fun ls hl => ?_)
    refine lv_aload_n hx hb dL_law_1485 rfl (lv_at hl 5 rfl) ?_
    refine roV (ci := 4) (As := []) (rest := []) X K (k_X4_thrown l G g jo js jp ja jk jt jb un uy 0 uq uz us' up ua uk' ut ub' _ rfl) hd_X4_thrown gL_law_X4_thrown ((foc_M (M' := [])).sub hP) hl.1 dL_law_1486 rfl rfl ⟨(Nat.le_of_ble_eq_true rfl), (Nat.le_of_ble_eq_true rfl)⟩ rfl rfl rfl (Nat.le_of_ble_eq_true rfl) hce ?_
    refine lv_iload hx hb dL_law_1489 (lv_at hl 1 rfl) ?_
    refine lv_icmp_eq (tgt := 1496) hx hb dL_law_1491 (by decide) (fun _ => ?_) (fun h => absurd rfl h)
    refine lv_iload hx hb dL_law_1496 (lv_at hl 1 rfl) ?_
    refine lv_if_ne (tgt := 1513) hx hb dL_law_1498 (by decide) (fun h => absurd rfl h) (fun _ => ?_)
    refine lv_aload_n hx hb dL_law_1501 rfl (lv_at hl 4 rfl) ?_
    refine lv_iconst (v := 0) hx hb dL_law_1502 (by decide) ?_
    refine va_lald hx hb K.1 hP 8 4 rfl rfl (vp_in_iff.mpr (by decide)) dL_law_1503 ?_
    refine lv_iload hx hb dL_law_1504 (lv_at hl 0 rfl) ?_
    refine lv_i2l (v := a.toInt64) hx hb dL_law_1506 rfl ?_
    refine W.lcmp hx hb dL_law_1507 ?_
    refine lv_if_eq (tgt := 1513) hx hb dL_law_1508 (by decide) (fun _ => ?_) (fun h => absurd (lcm_o _ _) h)
    refine lv_goto (tgt := 1847) hx hb dL_law_1513 (by decide) ?_
    exact kk _ _ _ (lwI.mk hP hD hS hSt hRs hTx) (lv_dr hl)
set_option maxHeartbeats 4000000 in
set_option maxRecDepth 100000 in
theorem law_greatestStretch {l : Launch} {p : Program} {e : Env} {s : State} {m : MethodId} {below : List Frame} {meth : Method} {c : Code} {b L : Nat} {xs : Nat → Int32} {G : va_G} {g : Nat → ClassId} {ad : Nat → Nat} {jo js jp ja jk jt jb o1 o2 : Nat} {H : Heap} {locs : List Loc} {ce sl i : Nat} {ls : Array Slot} {Q : State → Prop} (hce : ce + 1 ≤ 601024 ∧ sl + 6 ≤ 7293034) (hi : i + 5 ≤ L) (E : lwE l p s m meth c b L xs G g) (I : lwI G g ad jo js jp ja jk jt jb o1 o2 s H locs) (hl : lv_has ls 9 (lwL b (ad 0) jo o1 o2 i))
    (kk : ∀ (H1 : Heap) (locs1 : List Loc) (ls1 : Array Slot), lwI G g ad jo js jp ja jk jt jb o1 o2 s H1 locs1 → lv_has ls1 9 (lwL b (ad 0) jo o1 o2 i) → W p l e room_1 s m #[Value.ref b] below meth c H1 locs1 (ce + 1) (sl + 6) Q (F0 m 1847 ls1 [])) : W p l e room_1 s m #[Value.ref b] below meth c H locs ce sl Q (F0 m 1516 ls []) := by
  obtain ⟨X, K, hs, hnc, hX, hbl, hL, hf0⟩ := E
  obtain ⟨hx, hb, hml, hr, hown, hts, hk⟩ := id X
  obtain ⟨bd, sc, tl, tat, tb, cn, cf, sn, sf, tn, tf, vv, ov, un, uy, uw, uq, uz, us, up, ua, uk, ut, ub, fo, fd, hP, hD, hS, hSt, hRs, hTx⟩ := I
  have hA : ∀ q : Nat, s.heap.size ≤ q → (fun q => s.heap.size ≤ q) q := fun _ h => h
  have hce0 : ce ≤ 601024 ∧ sl ≤ 7293034 := ⟨by omega, by omega⟩
  have hl : lv_has ls 9 [(5, .int (nI i)), (4, .ref o2), (3, .ref o1), (2, .ref jo), (1, .ref (ad 0)), (0, .ref b)] := hl
  refine lv_aload_n hx hb dL_law_1516 rfl (lv_at hl 4 rfl) ?_
  refine lv_aload_n hx hb dL_law_1517 rfl (lv_at hl 5 rfl) ?_
  refine lv_iload hx hb dL_law_1518 (lv_at hl 0 rfl) ?_
  refine lv_iconst (v := 1) hx hb dL_law_1520 (by decide) ?_
  refine lv_iadd hx hb dL_law_1521 ?_
  refine va_sld (i := nI i + 1) hx hb hX hbl (Nat.not_le.mpr hbl) hS (show vp_in (nI i + 1) L from lw_in (k := 1) (by omega) hL) dL_law_1522 ?_
  refine lv_aload_n hx hb dL_law_1523 rfl (lv_at hl 5 rfl) ?_
  refine lv_iload hx hb dL_law_1524 (lv_at hl 0 rfl) ?_
  refine lv_iconst (v := 2) hx hb dL_law_1526 (by decide) ?_
  refine lv_iadd hx hb dL_law_1527 ?_
  refine va_sld (i := nI i + 2) hx hb hX hbl (Nat.not_le.mpr hbl) hS (show vp_in (nI i + 2) L from lw_in (k := 2) (by omega) hL) dL_law_1528 ?_
  refine lv_aload_n hx hb dL_law_1529 rfl (lv_at hl 5 rfl) ?_
  refine lv_iload hx hb dL_law_1530 (lv_at hl 0 rfl) ?_
  refine lv_iconst (v := 3) hx hb dL_law_1532 (by decide) ?_
  refine lv_iadd hx hb dL_law_1533 ?_
  refine va_sld (i := nI i + 3) hx hb hX hbl (Nat.not_le.mpr hbl) hS (show vp_in (nI i + 3) L from lw_in (k := 3) (by omega) hL) dL_law_1534 ?_
  refine lv_aload_n hx hb dL_law_1535 rfl (lv_at hl 2 rfl) ?_
  rcases R_greatestStretch (uw := uw) (us := us) hRs ((xs (nI i + 1).toNatClampNeg)) ((xs (nI i + 2).toNatClampNeg)) ((xs (nI i + 3).toNatClampNeg)) with ⟨t, t', ht, e1, e2⟩ | ⟨a, e1, e2⟩
  · have htz : 0 < t' ∧ t' < 4 := by omega
    refine lxS (As := [.ref (ad 0), .int (xs (nI i + 1).toNatClampNeg), .int (xs (nI i + 2).toNatClampNeg), .int (xs (nI i + 3).toNatClampNeg), .ref o1]) (rest := []) (wr := ((o2, .inl (g 5, 1, .inr (.inr (.inr (.inl fd))))) :: (wM g jo js jp ja jk jt jb un uy uw uq uz us up ua uk ut ub))) X K hs hnc (kxL_greatestStretch l hf0 G g ad bd sc tl tat tb cn cf sn sf tn tf vv ov o1 fo ((xs (nI i + 1).toNatClampNeg)) ((xs (nI i + 2).toNatClampNeg)) ((xs (nI i + 3).toNatClampNeg)) _ _ ht e1) hd_L_greatestStretch gL_law_L_greatestStretch hP hD hS hA hl.1 dL_law_1536 rfl rfl ⟨(Nat.le_of_ble_eq_true rfl), (Nat.le_of_ble_eq_true rfl)⟩ rfl (Nat.le_of_ble_eq_true rfl) hce (fun w1 H locs hp hP hD hS => ?_)
    have hp : w1 = _ := hp
    subst hp
    have hP : va_P G vwCl (lwW g ad bd sc tl tat tb cn cf sn sf tn tf vv ov jo js jp ja jk jt jb un uy uw uq uz us up ua uk ut ub o1 fo o2 fd) H := hP
    have hD : va_D (fun q => s.heap.size ≤ q) (lwW g ad bd sc tl tat tb cn cf sn sf tn tf vv ov jo js jp ja jk jt jb un uy uw uq uz us up ua uk ut ub o1 fo o2 fd) := hD
    refine lv_istore (lv' := [(6, .int (nI t')), (5, .int (nI i)), (4, .ref o2), (3, .ref o1), (2, .ref jo), (1, .ref (ad 0)), (0, .ref b)]) hx hb dL_law_1539 hl (by decide) rfl (fun ls hl => ?_)
    refine lv_aload_n hx hb dL_law_1541 rfl (lv_at hl 4 rfl) ?_
    refine lv_aload_n hx hb dL_law_1542 rfl (lv_at hl 6 rfl) ?_
    refine lv_iload hx hb dL_law_1543 (lv_at hl 1 rfl) ?_
    refine lv_iconst (v := 1) hx hb dL_law_1545 (by decide) ?_
    refine lv_iadd hx hb dL_law_1546 ?_
    refine va_sld (i := nI i + 1) hx hb hX hbl (Nat.not_le.mpr hbl) hS (show vp_in (nI i + 1) L from lw_in (k := 1) (by omega) hL) dL_law_1547 ?_
    refine lv_aload_n hx hb dL_law_1548 rfl (lv_at hl 6 rfl) ?_
    refine lv_iload hx hb dL_law_1549 (lv_at hl 1 rfl) ?_
    refine lv_iconst (v := 2) hx hb dL_law_1551 (by decide) ?_
    refine lv_iadd hx hb dL_law_1552 ?_
    refine va_sld (i := nI i + 2) hx hb hX hbl (Nat.not_le.mpr hbl) hS (show vp_in (nI i + 2) L from lw_in (k := 2) (by omega) hL) dL_law_1553 ?_
    refine lv_aload_n hx hb dL_law_1554 rfl (lv_at hl 6 rfl) ?_
    refine lv_iload hx hb dL_law_1555 (lv_at hl 1 rfl) ?_
    refine lv_iconst (v := 3) hx hb dL_law_1557 (by decide) ?_
    refine lv_iadd hx hb dL_law_1558 ?_
    refine va_sld (i := nI i + 3) hx hb hX hbl (Nat.not_le.mpr hbl) hS (show vp_in (nI i + 3) L from lw_in (k := 3) (by omega) hL) dL_law_1559 ?_
    refine rwVf (ci := 4) (As := [.int (xs (nI i + 1).toNatClampNeg), .int (xs (nI i + 2).toNatClampNeg), .int (xs (nI i + 3).toNatClampNeg)]) (rest := []) X K (k_X4_greatestStretch l G g jo js jp ja jk jt jb un uy uw uq uz us up ua uk ut ub ((xs (nI i + 1).toNatClampNeg)) ((xs (nI i + 2).toNatClampNeg)) ((xs (nI i + 3).toNatClampNeg)) _ e2) hd_X4_greatestStretch gL_law_X4_greatestStretch hP hD hS hA foc_M hl.1 dL_law_1560 rfl rfl ⟨(Nat.le_of_ble_eq_true rfl), (Nat.le_of_ble_eq_true rfl)⟩ rfl rfl rfl (Nat.le_of_ble_eq_true rfl) hce (fun H locs hP hD hS => ?_)
    have hP : va_P G vwCl (lwW g ad bd sc tl tat tb cn cf sn sf tn tf vv ov jo js jp ja jk jt jb un uy (nI t') uq uz us up ua uk ut ub o1 fo o2 fd) H := hP
    have hD : va_D (fun q => s.heap.size ≤ q) (lwW g ad bd sc tl tat tb cn cf sn sf tn tf vv ov jo js jp ja jk jt jb un uy (nI t') uq uz us up ua uk ut ub o1 fo o2 fd) := hD
    refine lv_istore (lv' := [(7, .int 0), (6, .int (nI t')), (5, .int (nI i)), (4, .ref o2), (3, .ref o1), (2, .ref jo), (1, .ref (ad 0)), (0, .ref b)]) hx hb dL_law_1563 hl (by decide) rfl (fun ls hl => ?_)
    refine lv_aload_n hx hb dL_law_1565 rfl (lv_at hl 5 rfl) ?_
    refine roV (ci := 4) (As := []) (rest := []) X K (k_X4_thrown l G g jo js jp ja jk jt jb un uy (nI t') uq uz us up ua uk ut ub _ rfl) hd_X4_thrown gL_law_X4_thrown ((foc_M (M' := [])).sub hP) hl.1 dL_law_1566 rfl rfl ⟨(Nat.le_of_ble_eq_true rfl), (Nat.le_of_ble_eq_true rfl)⟩ rfl rfl rfl (Nat.le_of_ble_eq_true rfl) hce ?_
    refine lv_iload hx hb dL_law_1569 (lv_at hl 1 rfl) ?_
    refine lv_icmp_eq (tgt := 1576) hx hb dL_law_1571 (by decide) (fun _ => ?_) (fun h => absurd rfl h)
    refine lv_iload hx hb dL_law_1576 (lv_at hl 1 rfl) ?_
    refine lv_if_ne (tgt := 1593) hx hb dL_law_1578 (by decide) (fun _ => ?_) (fun h => absurd h (lw_nz htz))
    refine lv_goto (tgt := 1847) hx hb dL_law_1593 (by decide) ?_
    exact kk _ _ _ (lwI.mk hP hD hS hSt hRs hTx) (lv_dr hl)
  · refine lxS (As := [.ref (ad 0), .int (xs (nI i + 1).toNatClampNeg), .int (xs (nI i + 2).toNatClampNeg), .int (xs (nI i + 3).toNatClampNeg), .ref o1]) (rest := []) (wr := ((o2, .inl (g 5, 1, .inr (.inr (.inr (.inl fd))))) :: (wM g jo js jp ja jk jt jb un uy uw uq uz us up ua uk ut ub))) X K hs hnc (kL_greatestStretch l G g ad bd sc tl tat tb cn cf sn sf tn tf vv ov o1 fo ((xs (nI i + 1).toNatClampNeg)) ((xs (nI i + 2).toNatClampNeg)) ((xs (nI i + 3).toNatClampNeg)) _ e1) hd_L_greatestStretch gL_law_L_greatestStretch hP hD hS hA hl.1 dL_law_1536 rfl rfl ⟨(Nat.le_of_ble_eq_true rfl), (Nat.le_of_ble_eq_true rfl)⟩ rfl (Nat.le_of_ble_eq_true rfl) hce (fun w1 H locs hp hP hD hS => ?_)
    have hp : w1 = _ := hp
    subst hp
    have hP : va_P G vwCl (lwW g ad bd sc tl tat tb cn cf sn sf tn tf vv ov jo js jp ja jk jt jb un uy uw uq uz us up ua uk ut ub o1 (vp_updL fo 0 a.toInt64) o2 fd) H := hP
    have hD : va_D (fun q => s.heap.size ≤ q) (lwW g ad bd sc tl tat tb cn cf sn sf tn tf vv ov jo js jp ja jk jt jb un uy uw uq uz us up ua uk ut ub o1 (vp_updL fo 0 a.toInt64) o2 fd) := hD
    refine lv_istore (lv' := [(6, .int 0), (5, .int (nI i)), (4, .ref o2), (3, .ref o1), (2, .ref jo), (1, .ref (ad 0)), (0, .ref b)]) hx hb dL_law_1539 hl (by decide) rfl (fun ls hl => ?_)
    refine lv_aload_n hx hb dL_law_1541 rfl (lv_at hl 4 rfl) ?_
    refine lv_aload_n hx hb dL_law_1542 rfl (lv_at hl 6 rfl) ?_
    refine lv_iload hx hb dL_law_1543 (lv_at hl 1 rfl) ?_
    refine lv_iconst (v := 1) hx hb dL_law_1545 (by decide) ?_
    refine lv_iadd hx hb dL_law_1546 ?_
    refine va_sld (i := nI i + 1) hx hb hX hbl (Nat.not_le.mpr hbl) hS (show vp_in (nI i + 1) L from lw_in (k := 1) (by omega) hL) dL_law_1547 ?_
    refine lv_aload_n hx hb dL_law_1548 rfl (lv_at hl 6 rfl) ?_
    refine lv_iload hx hb dL_law_1549 (lv_at hl 1 rfl) ?_
    refine lv_iconst (v := 2) hx hb dL_law_1551 (by decide) ?_
    refine lv_iadd hx hb dL_law_1552 ?_
    refine va_sld (i := nI i + 2) hx hb hX hbl (Nat.not_le.mpr hbl) hS (show vp_in (nI i + 2) L from lw_in (k := 2) (by omega) hL) dL_law_1553 ?_
    refine lv_aload_n hx hb dL_law_1554 rfl (lv_at hl 6 rfl) ?_
    refine lv_iload hx hb dL_law_1555 (lv_at hl 1 rfl) ?_
    refine lv_iconst (v := 3) hx hb dL_law_1557 (by decide) ?_
    refine lv_iadd hx hb dL_law_1558 ?_
    refine va_sld (i := nI i + 3) hx hb hX hbl (Nat.not_le.mpr hbl) hS (show vp_in (nI i + 3) L from lw_in (k := 3) (by omega) hL) dL_law_1559 ?_
    refine rwVf (ci := 4) (As := [.int (xs (nI i + 1).toNatClampNeg), .int (xs (nI i + 2).toNatClampNeg), .int (xs (nI i + 3).toNatClampNeg)]) (rest := []) X K (k_X4_greatestStretch l G g jo js jp ja jk jt jb un uy uw uq uz us up ua uk ut ub ((xs (nI i + 1).toNatClampNeg)) ((xs (nI i + 2).toNatClampNeg)) ((xs (nI i + 3).toNatClampNeg)) _ e2) hd_X4_greatestStretch gL_law_X4_greatestStretch hP hD hS hA foc_M hl.1 dL_law_1560 rfl rfl ⟨(Nat.le_of_ble_eq_true rfl), (Nat.le_of_ble_eq_true rfl)⟩ rfl rfl rfl (Nat.le_of_ble_eq_true rfl) hce (fun H locs hP hD hS => ?_)
    have hP : va_P G vwCl (lwW g ad bd sc tl tat tb cn cf sn sf tn tf vv ov jo js jp ja jk jt jb un uy 0 uq uz us up ua uk ut ub o1 (vp_updL fo 0 a.toInt64) o2 fd) H := hP
    have hD : va_D (fun q => s.heap.size ≤ q) (lwW g ad bd sc tl tat tb cn cf sn sf tn tf vv ov jo js jp ja jk jt jb un uy 0 uq uz us up ua uk ut ub o1 (vp_updL fo 0 a.toInt64) o2 fd) := hD
    refine lv_istore (lv' := [(7, .int a), (6, .int 0), (5, .int (nI i)), (4, .ref o2), (3, .ref o1), (2, .ref jo), (1, .ref (ad 0)), (0, .ref b)]) hx hb dL_law_1563 hl (by decide) rfl (fun ls hl => ?_)
    refine lv_aload_n hx hb dL_law_1565 rfl (lv_at hl 5 rfl) ?_
    refine roV (ci := 4) (As := []) (rest := []) X K (k_X4_thrown l G g jo js jp ja jk jt jb un uy 0 uq uz us up ua uk ut ub _ rfl) hd_X4_thrown gL_law_X4_thrown ((foc_M (M' := [])).sub hP) hl.1 dL_law_1566 rfl rfl ⟨(Nat.le_of_ble_eq_true rfl), (Nat.le_of_ble_eq_true rfl)⟩ rfl rfl rfl (Nat.le_of_ble_eq_true rfl) hce ?_
    refine lv_iload hx hb dL_law_1569 (lv_at hl 1 rfl) ?_
    refine lv_icmp_eq (tgt := 1576) hx hb dL_law_1571 (by decide) (fun _ => ?_) (fun h => absurd rfl h)
    refine lv_iload hx hb dL_law_1576 (lv_at hl 1 rfl) ?_
    refine lv_if_ne (tgt := 1593) hx hb dL_law_1578 (by decide) (fun h => absurd rfl h) (fun _ => ?_)
    refine lv_aload_n hx hb dL_law_1581 rfl (lv_at hl 4 rfl) ?_
    refine lv_iconst (v := 0) hx hb dL_law_1582 (by decide) ?_
    refine va_lald hx hb K.1 hP 8 4 rfl rfl (vp_in_iff.mpr (by decide)) dL_law_1583 ?_
    refine lv_iload hx hb dL_law_1584 (lv_at hl 0 rfl) ?_
    refine lv_i2l (v := a.toInt64) hx hb dL_law_1586 rfl ?_
    refine W.lcmp hx hb dL_law_1587 ?_
    refine lv_if_eq (tgt := 1593) hx hb dL_law_1588 (by decide) (fun _ => ?_) (fun h => absurd (lcm_o _ _) h)
    refine lv_goto (tgt := 1847) hx hb dL_law_1593 (by decide) ?_
    exact kk _ _ _ (lwI.mk hP hD hS hSt hRs hTx) (lv_dr hl)
set_option maxHeartbeats 4000000 in
set_option maxRecDepth 100000 in
theorem law_leastEase {l : Launch} {p : Program} {e : Env} {s : State} {m : MethodId} {below : List Frame} {meth : Method} {c : Code} {b L : Nat} {xs : Nat → Int32} {G : va_G} {g : Nat → ClassId} {ad : Nat → Nat} {jo js jp ja jk jt jb o1 o2 : Nat} {H : Heap} {locs : List Loc} {ce sl i : Nat} {ls : Array Slot} {Q : State → Prop} (hce : ce + 1 ≤ 601024 ∧ sl + 6 ≤ 7293034) (hi : i + 5 ≤ L) (E : lwE l p s m meth c b L xs G g) (I : lwI G g ad jo js jp ja jk jt jb o1 o2 s H locs) (hl : lv_has ls 9 (lwL b (ad 0) jo o1 o2 i))
    (kk : ∀ (H1 : Heap) (locs1 : List Loc) (ls1 : Array Slot), lwI G g ad jo js jp ja jk jt jb o1 o2 s H1 locs1 → lv_has ls1 9 (lwL b (ad 0) jo o1 o2 i) → W p l e room_1 s m #[Value.ref b] below meth c H1 locs1 (ce + 1) (sl + 6) Q (F0 m 1847 ls1 [])) : W p l e room_1 s m #[Value.ref b] below meth c H locs ce sl Q (F0 m 1596 ls []) := by
  obtain ⟨X, K, hs, hnc, hX, hbl, hL, hf0⟩ := E
  obtain ⟨hx, hb, hml, hr, hown, hts, hk⟩ := id X
  obtain ⟨bd, sc, tl, tat, tb, cn, cf, sn, sf, tn, tf, vv, ov, un, uy, uw, uq, uz, us, up, ua, uk, ut, ub, fo, fd, hP, hD, hS, hSt, hRs, hTx⟩ := I
  have hA : ∀ q : Nat, s.heap.size ≤ q → (fun q => s.heap.size ≤ q) q := fun _ h => h
  have hce0 : ce ≤ 601024 ∧ sl ≤ 7293034 := ⟨by omega, by omega⟩
  have hl : lv_has ls 9 [(5, .int (nI i)), (4, .ref o2), (3, .ref o1), (2, .ref jo), (1, .ref (ad 0)), (0, .ref b)] := hl
  refine lv_aload_n hx hb dL_law_1596 rfl (lv_at hl 4 rfl) ?_
  refine lv_aload_n hx hb dL_law_1597 rfl (lv_at hl 5 rfl) ?_
  refine lv_iload hx hb dL_law_1598 (lv_at hl 0 rfl) ?_
  refine lv_iconst (v := 1) hx hb dL_law_1600 (by decide) ?_
  refine lv_iadd hx hb dL_law_1601 ?_
  refine va_sld (i := nI i + 1) hx hb hX hbl (Nat.not_le.mpr hbl) hS (show vp_in (nI i + 1) L from lw_in (k := 1) (by omega) hL) dL_law_1602 ?_
  refine lv_aload_n hx hb dL_law_1603 rfl (lv_at hl 5 rfl) ?_
  refine lv_iload hx hb dL_law_1604 (lv_at hl 0 rfl) ?_
  refine lv_iconst (v := 2) hx hb dL_law_1606 (by decide) ?_
  refine lv_iadd hx hb dL_law_1607 ?_
  refine va_sld (i := nI i + 2) hx hb hX hbl (Nat.not_le.mpr hbl) hS (show vp_in (nI i + 2) L from lw_in (k := 2) (by omega) hL) dL_law_1608 ?_
  refine lv_aload_n hx hb dL_law_1609 rfl (lv_at hl 2 rfl) ?_
  rcases R_leastEase (uw := uw) (tn := tn) (tf := tf) (us := us) (vv := vv) hRs ((xs (nI i + 1).toNatClampNeg)) ((xs (nI i + 2).toNatClampNeg)) with ⟨t, t', ht, e1, e2⟩ | ⟨a, tn', tf', vv', us', e1, e2, hRs⟩
  · have htz : 0 < t' ∧ t' < 4 := by omega
    refine lxS (As := [.ref (ad 0), .int (xs (nI i + 1).toNatClampNeg), .int (xs (nI i + 2).toNatClampNeg), .ref o1]) (rest := []) (wr := ((o2, .inl (g 5, 1, .inr (.inr (.inr (.inl fd))))) :: (wM g jo js jp ja jk jt jb un uy uw uq uz us up ua uk ut ub))) X K hs hnc (kxL_leastEase l hf0 G g ad bd sc tl tat tb cn cf sn sf tn tf vv ov o1 fo ((xs (nI i + 1).toNatClampNeg)) ((xs (nI i + 2).toNatClampNeg)) _ _ ht e1) hd_L_leastEase gL_law_L_leastEase hP hD hS hA hl.1 dL_law_1610 rfl rfl ⟨(Nat.le_of_ble_eq_true rfl), (Nat.le_of_ble_eq_true rfl)⟩ rfl (Nat.le_of_ble_eq_true rfl) hce (fun w1 H locs hp hP hD hS => ?_)
    have hp : w1 = _ := hp
    subst hp
    have hP : va_P G vwCl (lwW g ad bd sc tl tat tb cn cf sn sf tn tf vv ov jo js jp ja jk jt jb un uy uw uq uz us up ua uk ut ub o1 fo o2 fd) H := hP
    have hD : va_D (fun q => s.heap.size ≤ q) (lwW g ad bd sc tl tat tb cn cf sn sf tn tf vv ov jo js jp ja jk jt jb un uy uw uq uz us up ua uk ut ub o1 fo o2 fd) := hD
    refine lv_istore (lv' := [(6, .int (nI t')), (5, .int (nI i)), (4, .ref o2), (3, .ref o1), (2, .ref jo), (1, .ref (ad 0)), (0, .ref b)]) hx hb dL_law_1613 hl (by decide) rfl (fun ls hl => ?_)
    refine lv_aload_n hx hb dL_law_1615 rfl (lv_at hl 4 rfl) ?_
    refine lv_aload_n hx hb dL_law_1616 rfl (lv_at hl 6 rfl) ?_
    refine lv_iload hx hb dL_law_1617 (lv_at hl 1 rfl) ?_
    refine lv_iconst (v := 1) hx hb dL_law_1619 (by decide) ?_
    refine lv_iadd hx hb dL_law_1620 ?_
    refine va_sld (i := nI i + 1) hx hb hX hbl (Nat.not_le.mpr hbl) hS (show vp_in (nI i + 1) L from lw_in (k := 1) (by omega) hL) dL_law_1621 ?_
    refine lv_aload_n hx hb dL_law_1622 rfl (lv_at hl 6 rfl) ?_
    refine lv_iload hx hb dL_law_1623 (lv_at hl 1 rfl) ?_
    refine lv_iconst (v := 2) hx hb dL_law_1625 (by decide) ?_
    refine lv_iadd hx hb dL_law_1626 ?_
    refine va_sld (i := nI i + 2) hx hb hX hbl (Nat.not_le.mpr hbl) hS (show vp_in (nI i + 2) L from lw_in (k := 2) (by omega) hL) dL_law_1627 ?_
    refine rwVf (ci := 4) (As := [.int (xs (nI i + 1).toNatClampNeg), .int (xs (nI i + 2).toNatClampNeg)]) (rest := []) X K (k_X4_leastEase l G g jo js jp ja jk jt jb un uy uw uq uz us up ua uk ut ub ((xs (nI i + 1).toNatClampNeg)) ((xs (nI i + 2).toNatClampNeg)) _ e2) hd_X4_leastEase gL_law_X4_leastEase hP hD hS hA foc_M hl.1 dL_law_1628 rfl rfl ⟨(Nat.le_of_ble_eq_true rfl), (Nat.le_of_ble_eq_true rfl)⟩ rfl rfl rfl (Nat.le_of_ble_eq_true rfl) hce (fun H locs hP hD hS => ?_)
    have hP : va_P G vwCl (lwW g ad bd sc tl tat tb cn cf sn sf tn tf vv ov jo js jp ja jk jt jb un uy (nI t') uq uz us up ua uk ut ub o1 fo o2 fd) H := hP
    have hD : va_D (fun q => s.heap.size ≤ q) (lwW g ad bd sc tl tat tb cn cf sn sf tn tf vv ov jo js jp ja jk jt jb un uy (nI t') uq uz us up ua uk ut ub o1 fo o2 fd) := hD
    refine lv_istore (lv' := [(7, .int 0), (6, .int (nI t')), (5, .int (nI i)), (4, .ref o2), (3, .ref o1), (2, .ref jo), (1, .ref (ad 0)), (0, .ref b)]) hx hb dL_law_1631 hl (by decide) rfl (fun ls hl => ?_)
    refine lv_aload_n hx hb dL_law_1633 rfl (lv_at hl 5 rfl) ?_
    refine roV (ci := 4) (As := []) (rest := []) X K (k_X4_thrown l G g jo js jp ja jk jt jb un uy (nI t') uq uz us up ua uk ut ub _ rfl) hd_X4_thrown gL_law_X4_thrown ((foc_M (M' := [])).sub hP) hl.1 dL_law_1634 rfl rfl ⟨(Nat.le_of_ble_eq_true rfl), (Nat.le_of_ble_eq_true rfl)⟩ rfl rfl rfl (Nat.le_of_ble_eq_true rfl) hce ?_
    refine lv_iload hx hb dL_law_1637 (lv_at hl 1 rfl) ?_
    refine lv_icmp_eq (tgt := 1644) hx hb dL_law_1639 (by decide) (fun _ => ?_) (fun h => absurd rfl h)
    refine lv_iload hx hb dL_law_1644 (lv_at hl 1 rfl) ?_
    refine lv_if_ne (tgt := 1661) hx hb dL_law_1646 (by decide) (fun _ => ?_) (fun h => absurd h (lw_nz htz))
    refine lv_goto (tgt := 1847) hx hb dL_law_1661 (by decide) ?_
    exact kk _ _ _ (lwI.mk hP hD hS hSt hRs hTx) (lv_dr hl)
  · refine lxS (As := [.ref (ad 0), .int (xs (nI i + 1).toNatClampNeg), .int (xs (nI i + 2).toNatClampNeg), .ref o1]) (rest := []) (wr := ((o2, .inl (g 5, 1, .inr (.inr (.inr (.inl fd))))) :: (wM g jo js jp ja jk jt jb un uy uw uq uz us up ua uk ut ub))) X K hs hnc (kL_leastEase l G g ad bd sc tl tat tb cn cf sn sf tn tf vv ov o1 fo ((xs (nI i + 1).toNatClampNeg)) ((xs (nI i + 2).toNatClampNeg)) _ e1) hd_L_leastEase gL_law_L_leastEase hP hD hS hA hl.1 dL_law_1610 rfl rfl ⟨(Nat.le_of_ble_eq_true rfl), (Nat.le_of_ble_eq_true rfl)⟩ rfl (Nat.le_of_ble_eq_true rfl) hce (fun w1 H locs hp hP hD hS => ?_)
    have hp : w1 = _ := hp
    subst hp
    have hP : va_P G vwCl (lwW g ad bd sc tl tat tb cn cf sn sf tn' tf' vv' ov jo js jp ja jk jt jb un uy uw uq uz us up ua uk ut ub o1 (vp_updL fo 0 a.toInt64) o2 fd) H := hP
    have hD : va_D (fun q => s.heap.size ≤ q) (lwW g ad bd sc tl tat tb cn cf sn sf tn' tf' vv' ov jo js jp ja jk jt jb un uy uw uq uz us up ua uk ut ub o1 (vp_updL fo 0 a.toInt64) o2 fd) := hD
    refine lv_istore (lv' := [(6, .int 0), (5, .int (nI i)), (4, .ref o2), (3, .ref o1), (2, .ref jo), (1, .ref (ad 0)), (0, .ref b)]) hx hb dL_law_1613 hl (by decide) rfl (fun ls hl => ?_)
    refine lv_aload_n hx hb dL_law_1615 rfl (lv_at hl 4 rfl) ?_
    refine lv_aload_n hx hb dL_law_1616 rfl (lv_at hl 6 rfl) ?_
    refine lv_iload hx hb dL_law_1617 (lv_at hl 1 rfl) ?_
    refine lv_iconst (v := 1) hx hb dL_law_1619 (by decide) ?_
    refine lv_iadd hx hb dL_law_1620 ?_
    refine va_sld (i := nI i + 1) hx hb hX hbl (Nat.not_le.mpr hbl) hS (show vp_in (nI i + 1) L from lw_in (k := 1) (by omega) hL) dL_law_1621 ?_
    refine lv_aload_n hx hb dL_law_1622 rfl (lv_at hl 6 rfl) ?_
    refine lv_iload hx hb dL_law_1623 (lv_at hl 1 rfl) ?_
    refine lv_iconst (v := 2) hx hb dL_law_1625 (by decide) ?_
    refine lv_iadd hx hb dL_law_1626 ?_
    refine va_sld (i := nI i + 2) hx hb hX hbl (Nat.not_le.mpr hbl) hS (show vp_in (nI i + 2) L from lw_in (k := 2) (by omega) hL) dL_law_1627 ?_
    refine rwVf (ci := 4) (As := [.int (xs (nI i + 1).toNatClampNeg), .int (xs (nI i + 2).toNatClampNeg)]) (rest := []) X K (k_X4_leastEase l G g jo js jp ja jk jt jb un uy uw uq uz us up ua uk ut ub ((xs (nI i + 1).toNatClampNeg)) ((xs (nI i + 2).toNatClampNeg)) _ e2) hd_X4_leastEase gL_law_X4_leastEase hP hD hS hA foc_M hl.1 dL_law_1628 rfl rfl ⟨(Nat.le_of_ble_eq_true rfl), (Nat.le_of_ble_eq_true rfl)⟩ rfl rfl rfl (Nat.le_of_ble_eq_true rfl) hce (fun H locs hP hD hS => ?_)
    have hP : va_P G vwCl (lwW g ad bd sc tl tat tb cn cf sn sf tn' tf' vv' ov jo js jp ja jk jt jb un uy 0 uq uz us' up ua uk ut ub o1 (vp_updL fo 0 a.toInt64) o2 fd) H := hP
    have hD : va_D (fun q => s.heap.size ≤ q) (lwW g ad bd sc tl tat tb cn cf sn sf tn' tf' vv' ov jo js jp ja jk jt jb un uy 0 uq uz us' up ua uk ut ub o1 (vp_updL fo 0 a.toInt64) o2 fd) := hD
    refine lv_istore (lv' := [(7, .int a), (6, .int 0), (5, .int (nI i)), (4, .ref o2), (3, .ref o1), (2, .ref jo), (1, .ref (ad 0)), (0, .ref b)]) hx hb dL_law_1631 hl (by decide) rfl (fun ls hl => ?_)
    refine lv_aload_n hx hb dL_law_1633 rfl (lv_at hl 5 rfl) ?_
    refine roV (ci := 4) (As := []) (rest := []) X K (k_X4_thrown l G g jo js jp ja jk jt jb un uy 0 uq uz us' up ua uk ut ub _ rfl) hd_X4_thrown gL_law_X4_thrown ((foc_M (M' := [])).sub hP) hl.1 dL_law_1634 rfl rfl ⟨(Nat.le_of_ble_eq_true rfl), (Nat.le_of_ble_eq_true rfl)⟩ rfl rfl rfl (Nat.le_of_ble_eq_true rfl) hce ?_
    refine lv_iload hx hb dL_law_1637 (lv_at hl 1 rfl) ?_
    refine lv_icmp_eq (tgt := 1644) hx hb dL_law_1639 (by decide) (fun _ => ?_) (fun h => absurd rfl h)
    refine lv_iload hx hb dL_law_1644 (lv_at hl 1 rfl) ?_
    refine lv_if_ne (tgt := 1661) hx hb dL_law_1646 (by decide) (fun h => absurd rfl h) (fun _ => ?_)
    refine lv_aload_n hx hb dL_law_1649 rfl (lv_at hl 4 rfl) ?_
    refine lv_iconst (v := 0) hx hb dL_law_1650 (by decide) ?_
    refine va_lald hx hb K.1 hP 8 4 rfl rfl (vp_in_iff.mpr (by decide)) dL_law_1651 ?_
    refine lv_iload hx hb dL_law_1652 (lv_at hl 0 rfl) ?_
    refine lv_i2l (v := a.toInt64) hx hb dL_law_1654 rfl ?_
    refine W.lcmp hx hb dL_law_1655 ?_
    refine lv_if_eq (tgt := 1661) hx hb dL_law_1656 (by decide) (fun _ => ?_) (fun h => absurd (lcm_o _ _) h)
    refine lv_goto (tgt := 1847) hx hb dL_law_1661 (by decide) ?_
    exact kk _ _ _ (lwI.mk hP hD hS hSt hRs hTx) (lv_dr hl)
set_option maxHeartbeats 4000000 in
set_option maxRecDepth 100000 in
theorem law_append {l : Launch} {p : Program} {e : Env} {s : State} {m : MethodId} {below : List Frame} {meth : Method} {c : Code} {b L : Nat} {xs : Nat → Int32} {G : va_G} {g : Nat → ClassId} {ad : Nat → Nat} {jo js jp ja jk jt jb o1 o2 : Nat} {H : Heap} {locs : List Loc} {ce sl i : Nat} {ls : Array Slot} {Q : State → Prop} (hce : ce + 1 ≤ 601024 ∧ sl + 6 ≤ 7293034) (hi : i + 5 ≤ L) (E : lwE l p s m meth c b L xs G g) (I : lwI G g ad jo js jp ja jk jt jb o1 o2 s H locs) (hl : lv_has ls 9 (lwL b (ad 0) jo o1 o2 i))
    (kk : ∀ (H1 : Heap) (locs1 : List Loc) (ls1 : Array Slot), lwI G g ad jo js jp ja jk jt jb o1 o2 s H1 locs1 → lv_has ls1 9 (lwL b (ad 0) jo o1 o2 i) → W p l e room_1 s m #[Value.ref b] below meth c H1 locs1 (ce + 1) (sl + 6) Q (F0 m 1847 ls1 [])) : W p l e room_1 s m #[Value.ref b] below meth c H locs ce sl Q (F0 m 1664 ls []) := by
  obtain ⟨X, K, hs, hnc, hX, hbl, hL, hf0⟩ := E
  obtain ⟨hx, hb, hml, hr, hown, hts, hk⟩ := id X
  obtain ⟨bd, sc, tl, tat, tb, cn, cf, sn, sf, tn, tf, vv, ov, un, uy, uw, uq, uz, us, up, ua, uk, ut, ub, fo, fd, hP, hD, hS, hSt, hRs, hTx⟩ := I
  have hA : ∀ q : Nat, s.heap.size ≤ q → (fun q => s.heap.size ≤ q) q := fun _ h => h
  have hce0 : ce ≤ 601024 ∧ sl ≤ 7293034 := ⟨by omega, by omega⟩
  have hl : lv_has ls 9 [(5, .int (nI i)), (4, .ref o2), (3, .ref o1), (2, .ref jo), (1, .ref (ad 0)), (0, .ref b)] := hl
  refine lv_aload_n hx hb dL_law_1664 rfl (lv_at hl 4 rfl) ?_
  refine lv_aload_n hx hb dL_law_1665 rfl (lv_at hl 5 rfl) ?_
  refine lv_iload hx hb dL_law_1666 (lv_at hl 0 rfl) ?_
  refine lv_iconst (v := 1) hx hb dL_law_1668 (by decide) ?_
  refine lv_iadd hx hb dL_law_1669 ?_
  refine va_sld (i := nI i + 1) hx hb hX hbl (Nat.not_le.mpr hbl) hS (show vp_in (nI i + 1) L from lw_in (k := 1) (by omega) hL) dL_law_1670 ?_
  refine lv_aload_n hx hb dL_law_1671 rfl (lv_at hl 2 rfl) ?_
  rcases R_append (uw := uw) (uy := uy) (tl := tl) hTx ((xs (nI i + 1).toNatClampNeg)) with ⟨t, t', ht, e1, e2⟩ | ⟨a, tl', tb', uy', ut', e1, e2, hTx⟩
  · have htz : 0 < t' ∧ t' < 4 := by omega
    refine lxS (As := [.ref (ad 0), .int (xs (nI i + 1).toNatClampNeg), .ref o1]) (rest := []) (wr := ((o2, .inl (g 5, 1, .inr (.inr (.inr (.inl fd))))) :: (wM g jo js jp ja jk jt jb un uy uw uq uz us up ua uk ut ub))) X K hs hnc (kxL_append l hf0 G g ad bd sc tl tat tb cn cf sn sf tn tf vv ov o1 fo ((xs (nI i + 1).toNatClampNeg)) _ _ ht e1) hd_L_append gL_law_L_append hP hD hS hA hl.1 dL_law_1672 rfl rfl ⟨(Nat.le_of_ble_eq_true rfl), (Nat.le_of_ble_eq_true rfl)⟩ rfl (Nat.le_of_ble_eq_true rfl) hce (fun w1 H locs hp hP hD hS => ?_)
    have hp : w1 = _ := hp
    subst hp
    have hP : va_P G vwCl (lwW g ad bd sc tl tat tb cn cf sn sf tn tf vv ov jo js jp ja jk jt jb un uy uw uq uz us up ua uk ut ub o1 fo o2 fd) H := hP
    have hD : va_D (fun q => s.heap.size ≤ q) (lwW g ad bd sc tl tat tb cn cf sn sf tn tf vv ov jo js jp ja jk jt jb un uy uw uq uz us up ua uk ut ub o1 fo o2 fd) := hD
    refine lv_istore (lv' := [(6, .int (nI t')), (5, .int (nI i)), (4, .ref o2), (3, .ref o1), (2, .ref jo), (1, .ref (ad 0)), (0, .ref b)]) hx hb dL_law_1675 hl (by decide) rfl (fun ls hl => ?_)
    refine lv_aload_n hx hb dL_law_1677 rfl (lv_at hl 4 rfl) ?_
    refine lv_aload_n hx hb dL_law_1678 rfl (lv_at hl 6 rfl) ?_
    refine lv_iload hx hb dL_law_1679 (lv_at hl 1 rfl) ?_
    refine lv_iconst (v := 1) hx hb dL_law_1681 (by decide) ?_
    refine lv_iadd hx hb dL_law_1682 ?_
    refine va_sld (i := nI i + 1) hx hb hX hbl (Nat.not_le.mpr hbl) hS (show vp_in (nI i + 1) L from lw_in (k := 1) (by omega) hL) dL_law_1683 ?_
    refine rwVf (ci := 4) (As := [.int (xs (nI i + 1).toNatClampNeg)]) (rest := []) X K (k_X4_append l G g jo js jp ja jk jt jb un uy uw uq uz us up ua uk ut ub ((xs (nI i + 1).toNatClampNeg)) _ e2) hd_X4_append gL_law_X4_append hP hD hS hA foc_M hl.1 dL_law_1684 rfl rfl ⟨(Nat.le_of_ble_eq_true rfl), (Nat.le_of_ble_eq_true rfl)⟩ rfl rfl rfl (Nat.le_of_ble_eq_true rfl) hce (fun H locs hP hD hS => ?_)
    have hP : va_P G vwCl (lwW g ad bd sc tl tat tb cn cf sn sf tn tf vv ov jo js jp ja jk jt jb un uy (nI t') uq uz us up ua uk ut ub o1 fo o2 fd) H := hP
    have hD : va_D (fun q => s.heap.size ≤ q) (lwW g ad bd sc tl tat tb cn cf sn sf tn tf vv ov jo js jp ja jk jt jb un uy (nI t') uq uz us up ua uk ut ub o1 fo o2 fd) := hD
    refine lv_istore (lv' := [(7, .int 0), (6, .int (nI t')), (5, .int (nI i)), (4, .ref o2), (3, .ref o1), (2, .ref jo), (1, .ref (ad 0)), (0, .ref b)]) hx hb dL_law_1687 hl (by decide) rfl (fun ls hl => ?_)
    refine lv_aload_n hx hb dL_law_1689 rfl (lv_at hl 5 rfl) ?_
    refine roV (ci := 4) (As := []) (rest := []) X K (k_X4_thrown l G g jo js jp ja jk jt jb un uy (nI t') uq uz us up ua uk ut ub _ rfl) hd_X4_thrown gL_law_X4_thrown ((foc_M (M' := [])).sub hP) hl.1 dL_law_1690 rfl rfl ⟨(Nat.le_of_ble_eq_true rfl), (Nat.le_of_ble_eq_true rfl)⟩ rfl rfl rfl (Nat.le_of_ble_eq_true rfl) hce ?_
    refine lv_iload hx hb dL_law_1693 (lv_at hl 1 rfl) ?_
    refine lv_icmp_eq (tgt := 1700) hx hb dL_law_1695 (by decide) (fun _ => ?_) (fun h => absurd rfl h)
    refine lv_iload hx hb dL_law_1700 (lv_at hl 1 rfl) ?_
    refine lv_if_ne (tgt := 1717) hx hb dL_law_1702 (by decide) (fun _ => ?_) (fun h => absurd h (lw_nz htz))
    refine lv_goto (tgt := 1847) hx hb dL_law_1717 (by decide) ?_
    exact kk _ _ _ (lwI.mk hP hD hS hSt hRs hTx) (lv_dr hl)
  · refine lxS (As := [.ref (ad 0), .int (xs (nI i + 1).toNatClampNeg), .ref o1]) (rest := []) (wr := ((o2, .inl (g 5, 1, .inr (.inr (.inr (.inl fd))))) :: (wM g jo js jp ja jk jt jb un uy uw uq uz us up ua uk ut ub))) X K hs hnc (kL_append l G g ad bd sc tl tat tb cn cf sn sf tn tf vv ov o1 fo ((xs (nI i + 1).toNatClampNeg)) _ e1) hd_L_append gL_law_L_append hP hD hS hA hl.1 dL_law_1672 rfl rfl ⟨(Nat.le_of_ble_eq_true rfl), (Nat.le_of_ble_eq_true rfl)⟩ rfl (Nat.le_of_ble_eq_true rfl) hce (fun w1 H locs hp hP hD hS => ?_)
    have hp : w1 = _ := hp
    subst hp
    have hP : va_P G vwCl (lwW g ad bd sc tl' tat tb' cn cf sn sf tn tf vv ov jo js jp ja jk jt jb un uy uw uq uz us up ua uk ut ub o1 (vp_updL fo 0 a.toInt64) o2 fd) H := hP
    have hD : va_D (fun q => s.heap.size ≤ q) (lwW g ad bd sc tl' tat tb' cn cf sn sf tn tf vv ov jo js jp ja jk jt jb un uy uw uq uz us up ua uk ut ub o1 (vp_updL fo 0 a.toInt64) o2 fd) := hD
    refine lv_istore (lv' := [(6, .int 0), (5, .int (nI i)), (4, .ref o2), (3, .ref o1), (2, .ref jo), (1, .ref (ad 0)), (0, .ref b)]) hx hb dL_law_1675 hl (by decide) rfl (fun ls hl => ?_)
    refine lv_aload_n hx hb dL_law_1677 rfl (lv_at hl 4 rfl) ?_
    refine lv_aload_n hx hb dL_law_1678 rfl (lv_at hl 6 rfl) ?_
    refine lv_iload hx hb dL_law_1679 (lv_at hl 1 rfl) ?_
    refine lv_iconst (v := 1) hx hb dL_law_1681 (by decide) ?_
    refine lv_iadd hx hb dL_law_1682 ?_
    refine va_sld (i := nI i + 1) hx hb hX hbl (Nat.not_le.mpr hbl) hS (show vp_in (nI i + 1) L from lw_in (k := 1) (by omega) hL) dL_law_1683 ?_
    refine rwVf (ci := 4) (As := [.int (xs (nI i + 1).toNatClampNeg)]) (rest := []) X K (k_X4_append l G g jo js jp ja jk jt jb un uy uw uq uz us up ua uk ut ub ((xs (nI i + 1).toNatClampNeg)) _ e2) hd_X4_append gL_law_X4_append hP hD hS hA foc_M hl.1 dL_law_1684 rfl rfl ⟨(Nat.le_of_ble_eq_true rfl), (Nat.le_of_ble_eq_true rfl)⟩ rfl rfl rfl (Nat.le_of_ble_eq_true rfl) hce (fun H locs hP hD hS => ?_)
    have hP : va_P G vwCl (lwW g ad bd sc tl' tat tb' cn cf sn sf tn tf vv ov jo js jp ja jk jt jb un uy' 0 uq uz us up ua uk ut' ub o1 (vp_updL fo 0 a.toInt64) o2 fd) H := hP
    have hD : va_D (fun q => s.heap.size ≤ q) (lwW g ad bd sc tl' tat tb' cn cf sn sf tn tf vv ov jo js jp ja jk jt jb un uy' 0 uq uz us up ua uk ut' ub o1 (vp_updL fo 0 a.toInt64) o2 fd) := hD
    refine lv_istore (lv' := [(7, .int a), (6, .int 0), (5, .int (nI i)), (4, .ref o2), (3, .ref o1), (2, .ref jo), (1, .ref (ad 0)), (0, .ref b)]) hx hb dL_law_1687 hl (by decide) rfl (fun ls hl => ?_)
    refine lv_aload_n hx hb dL_law_1689 rfl (lv_at hl 5 rfl) ?_
    refine roV (ci := 4) (As := []) (rest := []) X K (k_X4_thrown l G g jo js jp ja jk jt jb un uy' 0 uq uz us up ua uk ut' ub _ rfl) hd_X4_thrown gL_law_X4_thrown ((foc_M (M' := [])).sub hP) hl.1 dL_law_1690 rfl rfl ⟨(Nat.le_of_ble_eq_true rfl), (Nat.le_of_ble_eq_true rfl)⟩ rfl rfl rfl (Nat.le_of_ble_eq_true rfl) hce ?_
    refine lv_iload hx hb dL_law_1693 (lv_at hl 1 rfl) ?_
    refine lv_icmp_eq (tgt := 1700) hx hb dL_law_1695 (by decide) (fun _ => ?_) (fun h => absurd rfl h)
    refine lv_iload hx hb dL_law_1700 (lv_at hl 1 rfl) ?_
    refine lv_if_ne (tgt := 1717) hx hb dL_law_1702 (by decide) (fun h => absurd rfl h) (fun _ => ?_)
    refine lv_aload_n hx hb dL_law_1705 rfl (lv_at hl 4 rfl) ?_
    refine lv_iconst (v := 0) hx hb dL_law_1706 (by decide) ?_
    refine va_lald hx hb K.1 hP 8 4 rfl rfl (vp_in_iff.mpr (by decide)) dL_law_1707 ?_
    refine lv_iload hx hb dL_law_1708 (lv_at hl 0 rfl) ?_
    refine lv_i2l (v := a.toInt64) hx hb dL_law_1710 rfl ?_
    refine W.lcmp hx hb dL_law_1711 ?_
    refine lv_if_eq (tgt := 1717) hx hb dL_law_1712 (by decide) (fun _ => ?_) (fun h => absurd (lcm_o _ _) h)
    refine lv_goto (tgt := 1847) hx hb dL_law_1717 (by decide) ?_
    exact kk _ _ _ (lwI.mk hP hD hS hSt hRs hTx) (lv_dr hl)
set_option maxHeartbeats 4000000 in
set_option maxRecDepth 100000 in
theorem law_clearText {l : Launch} {p : Program} {e : Env} {s : State} {m : MethodId} {below : List Frame} {meth : Method} {c : Code} {b L : Nat} {xs : Nat → Int32} {G : va_G} {g : Nat → ClassId} {ad : Nat → Nat} {jo js jp ja jk jt jb o1 o2 : Nat} {H : Heap} {locs : List Loc} {ce sl i : Nat} {ls : Array Slot} {Q : State → Prop} (hce : ce + 1 ≤ 601024 ∧ sl + 6 ≤ 7293034) (hi : i + 5 ≤ L) (E : lwE l p s m meth c b L xs G g) (I : lwI G g ad jo js jp ja jk jt jb o1 o2 s H locs) (hl : lv_has ls 9 (lwL b (ad 0) jo o1 o2 i))
    (kk : ∀ (H1 : Heap) (locs1 : List Loc) (ls1 : Array Slot), lwI G g ad jo js jp ja jk jt jb o1 o2 s H1 locs1 → lv_has ls1 9 (lwL b (ad 0) jo o1 o2 i) → W p l e room_1 s m #[Value.ref b] below meth c H1 locs1 (ce + 1) (sl + 6) Q (F0 m 1847 ls1 [])) : W p l e room_1 s m #[Value.ref b] below meth c H locs ce sl Q (F0 m 1720 ls []) := by
  obtain ⟨X, K, hs, hnc, hX, hbl, hL, hf0⟩ := E
  obtain ⟨hx, hb, hml, hr, hown, hts, hk⟩ := id X
  obtain ⟨bd, sc, tl, tat, tb, cn, cf, sn, sf, tn, tf, vv, ov, un, uy, uw, uq, uz, us, up, ua, uk, ut, ub, fo, fd, hP, hD, hS, hSt, hRs, hTx⟩ := I
  have hA : ∀ q : Nat, s.heap.size ≤ q → (fun q => s.heap.size ≤ q) q := fun _ h => h
  have hce0 : ce ≤ 601024 ∧ sl ≤ 7293034 := ⟨by omega, by omega⟩
  have hl : lv_has ls 9 [(5, .int (nI i)), (4, .ref o2), (3, .ref o1), (2, .ref jo), (1, .ref (ad 0)), (0, .ref b)] := hl
  refine W.widen (k := ce + 1) (n := sl + 6) (Nat.le_add_right _ _) (Nat.le_add_right _ _) ?_
  obtain ⟨a, tl', uy', e1, e2, hTx⟩ := R_clearText (uw := uw) hTx
  refine lv_aload_n hx hb dL_law_1720 rfl (lv_at hl 4 rfl) ?_
  refine rwVf (ci := 3) (As := []) (rest := []) X K (k_X3_clearText l G g ad bd sc tl tat tb cn cf sn sf tn tf vv ov _ e1) hd_X3_clearText gL_law_X3_clearText hP hD hS hA foc_X hl.1 dL_law_1721 rfl rfl ⟨(Nat.le_of_ble_eq_true rfl), (Nat.le_of_ble_eq_true rfl)⟩ rfl rfl rfl (Nat.le_of_ble_eq_true rfl) hce (fun H locs hP hD hS => ?_)
  have hP : va_P G vwCl (lwW g ad bd sc tl' tat tb cn cf sn sf tn tf vv ov jo js jp ja jk jt jb un uy uw uq uz us up ua uk ut ub o1 fo o2 fd) H := hP
  have hD : va_D (fun q => s.heap.size ≤ q) (lwW g ad bd sc tl' tat tb cn cf sn sf tn tf vv ov jo js jp ja jk jt jb un uy uw uq uz us up ua uk ut ub o1 fo o2 fd) := hD
  refine lv_aload_n hx hb dL_law_1724 rfl (lv_at hl 3 rfl) ?_
  refine rwVf (ci := 4) (As := []) (rest := [.int a]) X K (k_X4_clearText l G g jo js jp ja jk jt jb un uy uw uq uz us up ua uk ut ub _ e2) hd_X4_clearText gL_law_X4_clearText hP hD hS hA foc_M hl.1 dL_law_1725 rfl rfl ⟨(Nat.le_of_ble_eq_true rfl), (Nat.le_of_ble_eq_true rfl)⟩ rfl rfl rfl (Nat.le_of_ble_eq_true rfl) hce (fun H locs hP hD hS => ?_)
  have hP : va_P G vwCl (lwW g ad bd sc tl' tat tb cn cf sn sf tn tf vv ov jo js jp ja jk jt jb un uy' 0 uq uz us up ua uk ut ub o1 fo o2 fd) H := hP
  have hD : va_D (fun q => s.heap.size ≤ q) (lwW g ad bd sc tl' tat tb cn cf sn sf tn tf vv ov jo js jp ja jk jt jb un uy' 0 uq uz us up ua uk ut ub o1 fo o2 fd) := hD
  refine lv_icmp_eq (tgt := 1847) hx hb dL_law_1728 (by decide) (fun _ => ?_) (fun h => absurd rfl h)
  exact kk _ _ _ (lwI.mk hP hD hS hSt hRs hTx) hl
set_option maxHeartbeats 4000000 in
set_option maxRecDepth 100000 in
theorem law_parse {l : Launch} {p : Program} {e : Env} {s : State} {m : MethodId} {below : List Frame} {meth : Method} {c : Code} {b L : Nat} {xs : Nat → Int32} {G : va_G} {g : Nat → ClassId} {ad : Nat → Nat} {jo js jp ja jk jt jb o1 o2 : Nat} {H : Heap} {locs : List Loc} {ce sl i : Nat} {ls : Array Slot} {Q : State → Prop} (hce : ce + 1 ≤ 601024 ∧ sl + 6 ≤ 7293034) (hi : i + 5 ≤ L) (E : lwE l p s m meth c b L xs G g) (I : lwI G g ad jo js jp ja jk jt jb o1 o2 s H locs) (hl : lv_has ls 9 (lwL b (ad 0) jo o1 o2 i))
    (kk : ∀ (H1 : Heap) (locs1 : List Loc) (ls1 : Array Slot), lwI G g ad jo js jp ja jk jt jb o1 o2 s H1 locs1 → lv_has ls1 9 (lwL b (ad 0) jo o1 o2 i) → W p l e room_1 s m #[Value.ref b] below meth c H1 locs1 (ce + 1) (sl + 6) Q (F0 m 1847 ls1 [])) : W p l e room_1 s m #[Value.ref b] below meth c H locs ce sl Q (F0 m 1733 ls []) := by
  obtain ⟨X, K, hs, hnc, hX, hbl, hL, hf0⟩ := E
  obtain ⟨hx, hb, hml, hr, hown, hts, hk⟩ := id X
  obtain ⟨bd, sc, tl, tat, tb, cn, cf, sn, sf, tn, tf, vv, ov, un, uy, uw, uq, uz, us, up, ua, uk, ut, ub, fo, fd, hP, hD, hS, hSt, hRs, hTx⟩ := I
  have hA : ∀ q : Nat, s.heap.size ≤ q → (fun q => s.heap.size ≤ q) q := fun _ h => h
  have hce0 : ce ≤ 601024 ∧ sl ≤ 7293034 := ⟨by omega, by omega⟩
  have hl : lv_has ls 9 [(5, .int (nI i)), (4, .ref o2), (3, .ref o1), (2, .ref jo), (1, .ref (ad 0)), (0, .ref b)] := hl
  refine lv_aload_n hx hb dL_law_1733 rfl (lv_at hl 4 rfl) ?_
  refine lv_aload_n hx hb dL_law_1734 rfl (lv_at hl 5 rfl) ?_
  refine lv_iload hx hb dL_law_1735 (lv_at hl 0 rfl) ?_
  refine lv_iconst (v := 1) hx hb dL_law_1737 (by decide) ?_
  refine lv_iadd hx hb dL_law_1738 ?_
  refine va_sld (i := nI i + 1) hx hb hX hbl (Nat.not_le.mpr hbl) hS (show vp_in (nI i + 1) L from lw_in (k := 1) (by omega) hL) dL_law_1739 ?_
  refine lv_aload_n hx hb dL_law_1740 rfl (lv_at hl 2 rfl) ?_
  rcases R_parse (uw := uw) (uq := uq) (uz := uz) (uy := uy) (tl := tl) (tat := tat) (tn := tn) (tf := tf) (ua := ua) (up := up) (us := us) (un := un) (sc := sc) bd hSt hRs hTx ((xs (nI i + 1).toNatClampNeg)) with ⟨t, t', uq', uz', us', ua', ht, e1, e2, hRs⟩ | ⟨a, bd', sc', tat', cn', cf', sn', sf', tn', tf', un', uq', uz', us', up', ua', e1, e2, hSt, hRs⟩
  · have htz : 0 < t' ∧ t' < 4 := by omega
    refine lxS (As := [.ref (ad 0), .int (xs (nI i + 1).toNatClampNeg), .ref o1]) (rest := []) (wr := ((o2, .inl (g 5, 1, .inr (.inr (.inr (.inl fd))))) :: (wM g jo js jp ja jk jt jb un uy uw uq uz us up ua uk ut ub))) X K hs hnc (kxL_parse l hf0 G g ad bd sc tl tat tb cn cf sn sf tn tf vv ov o1 fo ((xs (nI i + 1).toNatClampNeg)) _ _ ht e1) hd_L_parse gL_law_L_parse hP hD hS hA hl.1 dL_law_1741 rfl rfl ⟨(Nat.le_of_ble_eq_true rfl), (Nat.le_of_ble_eq_true rfl)⟩ rfl (Nat.le_of_ble_eq_true rfl) hce (fun w1 H locs hp hP hD hS => ?_)
    obtain ⟨w0, ⟨tat1, tn1, tf1, vv1, ov1, hw⟩, hp⟩ := hp
    subst hw
    subst hp
    have hP : va_P G vwCl (lwW g ad bd sc tl tat1 tb cn cf sn sf tn1 tf1 vv1 ov1 jo js jp ja jk jt jb un uy uw uq uz us up ua uk ut ub o1 fo o2 fd) H := hP
    have hD : va_D (fun q => s.heap.size ≤ q) (lwW g ad bd sc tl tat1 tb cn cf sn sf tn1 tf1 vv1 ov1 jo js jp ja jk jt jb un uy uw uq uz us up ua uk ut ub o1 fo o2 fd) := hD
    refine lv_istore (lv' := [(6, .int (nI t')), (5, .int (nI i)), (4, .ref o2), (3, .ref o1), (2, .ref jo), (1, .ref (ad 0)), (0, .ref b)]) hx hb dL_law_1744 hl (by decide) rfl (fun ls hl => ?_)
    refine lv_aload_n hx hb dL_law_1746 rfl (lv_at hl 4 rfl) ?_
    refine lv_aload_n hx hb dL_law_1747 rfl (lv_at hl 6 rfl) ?_
    refine lv_iload hx hb dL_law_1748 (lv_at hl 1 rfl) ?_
    refine lv_iconst (v := 1) hx hb dL_law_1750 (by decide) ?_
    refine lv_iadd hx hb dL_law_1751 ?_
    refine va_sld (i := nI i + 1) hx hb hX hbl (Nat.not_le.mpr hbl) hS (show vp_in (nI i + 1) L from lw_in (k := 1) (by omega) hL) dL_law_1752 ?_
    refine rwVf (ci := 4) (As := [.int (xs (nI i + 1).toNatClampNeg)]) (rest := []) X K (k_X4_parse l G g jo js jp ja jk jt jb un uy uw uq uz us up ua uk ut ub ((xs (nI i + 1).toNatClampNeg)) _ e2) hd_X4_parse gL_law_X4_parse hP hD hS hA foc_M hl.1 dL_law_1753 rfl rfl ⟨(Nat.le_of_ble_eq_true rfl), (Nat.le_of_ble_eq_true rfl)⟩ rfl rfl rfl (Nat.le_of_ble_eq_true rfl) hce (fun H locs hP hD hS => ?_)
    have hP : va_P G vwCl (lwW g ad bd sc tl tat1 tb cn cf sn sf tn1 tf1 vv1 ov1 jo js jp ja jk jt jb un uy (nI t') uq' uz' us' up ua' uk ut ub o1 fo o2 fd) H := hP
    have hD : va_D (fun q => s.heap.size ≤ q) (lwW g ad bd sc tl tat1 tb cn cf sn sf tn1 tf1 vv1 ov1 jo js jp ja jk jt jb un uy (nI t') uq' uz' us' up ua' uk ut ub o1 fo o2 fd) := hD
    refine lv_istore (lv' := [(7, .int 0), (6, .int (nI t')), (5, .int (nI i)), (4, .ref o2), (3, .ref o1), (2, .ref jo), (1, .ref (ad 0)), (0, .ref b)]) hx hb dL_law_1756 hl (by decide) rfl (fun ls hl => ?_)
    refine lv_aload_n hx hb dL_law_1758 rfl (lv_at hl 5 rfl) ?_
    refine roV (ci := 4) (As := []) (rest := []) X K (k_X4_thrown l G g jo js jp ja jk jt jb un uy (nI t') uq' uz' us' up ua' uk ut ub _ rfl) hd_X4_thrown gL_law_X4_thrown ((foc_M (M' := [])).sub hP) hl.1 dL_law_1759 rfl rfl ⟨(Nat.le_of_ble_eq_true rfl), (Nat.le_of_ble_eq_true rfl)⟩ rfl rfl rfl (Nat.le_of_ble_eq_true rfl) hce ?_
    refine lv_iload hx hb dL_law_1762 (lv_at hl 1 rfl) ?_
    refine lv_icmp_eq (tgt := 1769) hx hb dL_law_1764 (by decide) (fun _ => ?_) (fun h => absurd rfl h)
    refine lv_iload hx hb dL_law_1769 (lv_at hl 1 rfl) ?_
    refine lv_if_ne (tgt := 1786) hx hb dL_law_1771 (by decide) (fun _ => ?_) (fun h => absurd h (lw_nz htz))
    refine lv_goto (tgt := 1847) hx hb dL_law_1786 (by decide) ?_
    exact kk _ _ _ (lwI.mk hP hD hS hSt hRs hTx) (lv_dr hl)
  · refine lxS (As := [.ref (ad 0), .int (xs (nI i + 1).toNatClampNeg), .ref o1]) (rest := []) (wr := ((o2, .inl (g 5, 1, .inr (.inr (.inr (.inl fd))))) :: (wM g jo js jp ja jk jt jb un uy uw uq uz us up ua uk ut ub))) X K hs hnc (kL_parse l G g ad bd sc tl tat tb cn cf sn sf tn tf vv ov o1 fo ((xs (nI i + 1).toNatClampNeg)) _ e1) hd_L_parse gL_law_L_parse hP hD hS hA hl.1 dL_law_1741 rfl rfl ⟨(Nat.le_of_ble_eq_true rfl), (Nat.le_of_ble_eq_true rfl)⟩ rfl (Nat.le_of_ble_eq_true rfl) hce (fun w1 H locs hp hP hD hS => ?_)
    have hp : w1 = _ := hp
    subst hp
    have hP : va_P G vwCl (lwW g ad bd' sc' tl tat' tb cn' cf' sn' sf' tn' tf' vv ov jo js jp ja jk jt jb un uy uw uq uz us up ua uk ut ub o1 (vp_updL fo 0 a.toInt64) o2 fd) H := hP
    have hD : va_D (fun q => s.heap.size ≤ q) (lwW g ad bd' sc' tl tat' tb cn' cf' sn' sf' tn' tf' vv ov jo js jp ja jk jt jb un uy uw uq uz us up ua uk ut ub o1 (vp_updL fo 0 a.toInt64) o2 fd) := hD
    refine lv_istore (lv' := [(6, .int 0), (5, .int (nI i)), (4, .ref o2), (3, .ref o1), (2, .ref jo), (1, .ref (ad 0)), (0, .ref b)]) hx hb dL_law_1744 hl (by decide) rfl (fun ls hl => ?_)
    refine lv_aload_n hx hb dL_law_1746 rfl (lv_at hl 4 rfl) ?_
    refine lv_aload_n hx hb dL_law_1747 rfl (lv_at hl 6 rfl) ?_
    refine lv_iload hx hb dL_law_1748 (lv_at hl 1 rfl) ?_
    refine lv_iconst (v := 1) hx hb dL_law_1750 (by decide) ?_
    refine lv_iadd hx hb dL_law_1751 ?_
    refine va_sld (i := nI i + 1) hx hb hX hbl (Nat.not_le.mpr hbl) hS (show vp_in (nI i + 1) L from lw_in (k := 1) (by omega) hL) dL_law_1752 ?_
    refine rwVf (ci := 4) (As := [.int (xs (nI i + 1).toNatClampNeg)]) (rest := []) X K (k_X4_parse l G g jo js jp ja jk jt jb un uy uw uq uz us up ua uk ut ub ((xs (nI i + 1).toNatClampNeg)) _ e2) hd_X4_parse gL_law_X4_parse hP hD hS hA foc_M hl.1 dL_law_1753 rfl rfl ⟨(Nat.le_of_ble_eq_true rfl), (Nat.le_of_ble_eq_true rfl)⟩ rfl rfl rfl (Nat.le_of_ble_eq_true rfl) hce (fun H locs hP hD hS => ?_)
    have hP : va_P G vwCl (lwW g ad bd' sc' tl tat' tb cn' cf' sn' sf' tn' tf' vv ov jo js jp ja jk jt jb un' uy 0 uq' uz' us' up' ua' uk ut ub o1 (vp_updL fo 0 a.toInt64) o2 fd) H := hP
    have hD : va_D (fun q => s.heap.size ≤ q) (lwW g ad bd' sc' tl tat' tb cn' cf' sn' sf' tn' tf' vv ov jo js jp ja jk jt jb un' uy 0 uq' uz' us' up' ua' uk ut ub o1 (vp_updL fo 0 a.toInt64) o2 fd) := hD
    refine lv_istore (lv' := [(7, .int a), (6, .int 0), (5, .int (nI i)), (4, .ref o2), (3, .ref o1), (2, .ref jo), (1, .ref (ad 0)), (0, .ref b)]) hx hb dL_law_1756 hl (by decide) rfl (fun ls hl => ?_)
    refine lv_aload_n hx hb dL_law_1758 rfl (lv_at hl 5 rfl) ?_
    refine roV (ci := 4) (As := []) (rest := []) X K (k_X4_thrown l G g jo js jp ja jk jt jb un' uy 0 uq' uz' us' up' ua' uk ut ub _ rfl) hd_X4_thrown gL_law_X4_thrown ((foc_M (M' := [])).sub hP) hl.1 dL_law_1759 rfl rfl ⟨(Nat.le_of_ble_eq_true rfl), (Nat.le_of_ble_eq_true rfl)⟩ rfl rfl rfl (Nat.le_of_ble_eq_true rfl) hce ?_
    refine lv_iload hx hb dL_law_1762 (lv_at hl 1 rfl) ?_
    refine lv_icmp_eq (tgt := 1769) hx hb dL_law_1764 (by decide) (fun _ => ?_) (fun h => absurd rfl h)
    refine lv_iload hx hb dL_law_1769 (lv_at hl 1 rfl) ?_
    refine lv_if_ne (tgt := 1786) hx hb dL_law_1771 (by decide) (fun h => absurd rfl h) (fun _ => ?_)
    refine lv_aload_n hx hb dL_law_1774 rfl (lv_at hl 4 rfl) ?_
    refine lv_iconst (v := 0) hx hb dL_law_1775 (by decide) ?_
    refine va_lald hx hb K.1 hP 8 4 rfl rfl (vp_in_iff.mpr (by decide)) dL_law_1776 ?_
    refine lv_iload hx hb dL_law_1777 (lv_at hl 0 rfl) ?_
    refine lv_i2l (v := a.toInt64) hx hb dL_law_1779 rfl ?_
    refine W.lcmp hx hb dL_law_1780 ?_
    refine lv_if_eq (tgt := 1786) hx hb dL_law_1781 (by decide) (fun _ => ?_) (fun h => absurd (lcm_o _ _) h)
    refine lv_goto (tgt := 1847) hx hb dL_law_1786 (by decide) ?_
    exact kk _ _ _ (lwI.mk hP hD hS hSt hRs hTx) (lv_dr hl)
set_option maxHeartbeats 4000000 in
set_option maxRecDepth 100000 in
theorem law_undo {l : Launch} {p : Program} {e : Env} {s : State} {m : MethodId} {below : List Frame} {meth : Method} {c : Code} {b L : Nat} {xs : Nat → Int32} {G : va_G} {g : Nat → ClassId} {ad : Nat → Nat} {jo js jp ja jk jt jb o1 o2 : Nat} {H : Heap} {locs : List Loc} {ce sl i : Nat} {ls : Array Slot} {Q : State → Prop} (hce : ce + 1 ≤ 601024 ∧ sl + 6 ≤ 7293034) (hi : i + 5 ≤ L) (E : lwE l p s m meth c b L xs G g) (I : lwI G g ad jo js jp ja jk jt jb o1 o2 s H locs) (hl : lv_has ls 9 (lwL b (ad 0) jo o1 o2 i))
    (kk : ∀ (H1 : Heap) (locs1 : List Loc) (ls1 : Array Slot), lwI G g ad jo js jp ja jk jt jb o1 o2 s H1 locs1 → lv_has ls1 9 (lwL b (ad 0) jo o1 o2 i) → W p l e room_1 s m #[Value.ref b] below meth c H1 locs1 (ce + 1) (sl + 6) Q (F0 m 1847 ls1 [])) : W p l e room_1 s m #[Value.ref b] below meth c H locs ce sl Q (F0 m 1789 ls []) := by
  obtain ⟨X, K, hs, hnc, hX, hbl, hL, hf0⟩ := E
  obtain ⟨hx, hb, hml, hr, hown, hts, hk⟩ := id X
  obtain ⟨bd, sc, tl, tat, tb, cn, cf, sn, sf, tn, tf, vv, ov, un, uy, uw, uq, uz, us, up, ua, uk, ut, ub, fo, fd, hP, hD, hS, hSt, hRs, hTx⟩ := I
  have hA : ∀ q : Nat, s.heap.size ≤ q → (fun q => s.heap.size ≤ q) q := fun _ h => h
  have hce0 : ce ≤ 601024 ∧ sl ≤ 7293034 := ⟨by omega, by omega⟩
  have hl : lv_has ls 9 [(5, .int (nI i)), (4, .ref o2), (3, .ref o1), (2, .ref jo), (1, .ref (ad 0)), (0, .ref b)] := hl
  refine lv_aload_n hx hb dL_law_1789 rfl (lv_at hl 4 rfl) ?_
  refine lv_aload_n hx hb dL_law_1790 rfl (lv_at hl 2 rfl) ?_
  rcases R_undo (uw := uw) (up := up) (us := us) (un := un) (sc := sc) hSt with ⟨t, t', ht, e1, e2⟩ | ⟨a, sc', cn', cf', un', us', e1, e2, hSt, hRs⟩
  · have htz : 0 < t' ∧ t' < 4 := by omega
    refine lxS (As := [.ref (ad 0), .ref o1]) (rest := []) (wr := ((o2, .inl (g 5, 1, .inr (.inr (.inr (.inl fd))))) :: (wM g jo js jp ja jk jt jb un uy uw uq uz us up ua uk ut ub))) X K hs hnc (kxL_undo l hf0 G g ad bd sc tl tat tb cn cf sn sf tn tf vv ov o1 fo _ _ ht e1) hd_L_undo gL_law_L_undo hP hD hS hA hl.1 dL_law_1791 rfl rfl ⟨(Nat.le_of_ble_eq_true rfl), (Nat.le_of_ble_eq_true rfl)⟩ rfl (Nat.le_of_ble_eq_true rfl) hce (fun w1 H locs hp hP hD hS => ?_)
    have hp : w1 = _ := hp
    subst hp
    have hP : va_P G vwCl (lwW g ad bd sc tl tat tb cn cf sn sf tn tf vv ov jo js jp ja jk jt jb un uy uw uq uz us up ua uk ut ub o1 fo o2 fd) H := hP
    have hD : va_D (fun q => s.heap.size ≤ q) (lwW g ad bd sc tl tat tb cn cf sn sf tn tf vv ov jo js jp ja jk jt jb un uy uw uq uz us up ua uk ut ub o1 fo o2 fd) := hD
    refine lv_istore (lv' := [(6, .int (nI t')), (5, .int (nI i)), (4, .ref o2), (3, .ref o1), (2, .ref jo), (1, .ref (ad 0)), (0, .ref b)]) hx hb dL_law_1794 hl (by decide) rfl (fun ls hl => ?_)
    refine lv_aload_n hx hb dL_law_1796 rfl (lv_at hl 4 rfl) ?_
    refine rwVf (ci := 4) (As := []) (rest := []) X K (k_X4_undo l G g jo js jp ja jk jt jb un uy uw uq uz us up ua uk ut ub _ e2) hd_X4_undo gL_law_X4_undo hP hD hS hA foc_M hl.1 dL_law_1797 rfl rfl ⟨(Nat.le_of_ble_eq_true rfl), (Nat.le_of_ble_eq_true rfl)⟩ rfl rfl rfl (Nat.le_of_ble_eq_true rfl) hce (fun H locs hP hD hS => ?_)
    have hP : va_P G vwCl (lwW g ad bd sc tl tat tb cn cf sn sf tn tf vv ov jo js jp ja jk jt jb un uy (nI t') uq uz us up ua uk ut ub o1 fo o2 fd) H := hP
    have hD : va_D (fun q => s.heap.size ≤ q) (lwW g ad bd sc tl tat tb cn cf sn sf tn tf vv ov jo js jp ja jk jt jb un uy (nI t') uq uz us up ua uk ut ub o1 fo o2 fd) := hD
    refine lv_istore (lv' := [(7, .int 0), (6, .int (nI t')), (5, .int (nI i)), (4, .ref o2), (3, .ref o1), (2, .ref jo), (1, .ref (ad 0)), (0, .ref b)]) hx hb dL_law_1800 hl (by decide) rfl (fun ls hl => ?_)
    refine lv_aload_n hx hb dL_law_1802 rfl (lv_at hl 5 rfl) ?_
    refine roV (ci := 4) (As := []) (rest := []) X K (k_X4_thrown l G g jo js jp ja jk jt jb un uy (nI t') uq uz us up ua uk ut ub _ rfl) hd_X4_thrown gL_law_X4_thrown ((foc_M (M' := [])).sub hP) hl.1 dL_law_1803 rfl rfl ⟨(Nat.le_of_ble_eq_true rfl), (Nat.le_of_ble_eq_true rfl)⟩ rfl rfl rfl (Nat.le_of_ble_eq_true rfl) hce ?_
    refine lv_iload hx hb dL_law_1806 (lv_at hl 1 rfl) ?_
    refine lv_icmp_eq (tgt := 1813) hx hb dL_law_1808 (by decide) (fun _ => ?_) (fun h => absurd rfl h)
    refine lv_iload hx hb dL_law_1813 (lv_at hl 1 rfl) ?_
    refine lv_if_ne (tgt := 1830) hx hb dL_law_1815 (by decide) (fun _ => ?_) (fun h => absurd h (lw_nz htz))
    refine lv_goto (tgt := 1847) hx hb dL_law_1830 (by decide) ?_
    exact kk _ _ _ (lwI.mk hP hD hS hSt hRs hTx) (lv_dr hl)
  · refine lxS (As := [.ref (ad 0), .ref o1]) (rest := []) (wr := ((o2, .inl (g 5, 1, .inr (.inr (.inr (.inl fd))))) :: (wM g jo js jp ja jk jt jb un uy uw uq uz us up ua uk ut ub))) X K hs hnc (kL_undo l G g ad bd sc tl tat tb cn cf sn sf tn tf vv ov o1 fo _ e1) hd_L_undo gL_law_L_undo hP hD hS hA hl.1 dL_law_1791 rfl rfl ⟨(Nat.le_of_ble_eq_true rfl), (Nat.le_of_ble_eq_true rfl)⟩ rfl (Nat.le_of_ble_eq_true rfl) hce (fun w1 H locs hp hP hD hS => ?_)
    have hp : w1 = _ := hp
    subst hp
    have hP : va_P G vwCl (lwW g ad bd sc' tl tat tb cn' cf' sn sf tn tf vv ov jo js jp ja jk jt jb un uy uw uq uz us up ua uk ut ub o1 (vp_updL fo 0 a.toInt64) o2 fd) H := hP
    have hD : va_D (fun q => s.heap.size ≤ q) (lwW g ad bd sc' tl tat tb cn' cf' sn sf tn tf vv ov jo js jp ja jk jt jb un uy uw uq uz us up ua uk ut ub o1 (vp_updL fo 0 a.toInt64) o2 fd) := hD
    refine lv_istore (lv' := [(6, .int 0), (5, .int (nI i)), (4, .ref o2), (3, .ref o1), (2, .ref jo), (1, .ref (ad 0)), (0, .ref b)]) hx hb dL_law_1794 hl (by decide) rfl (fun ls hl => ?_)
    refine lv_aload_n hx hb dL_law_1796 rfl (lv_at hl 4 rfl) ?_
    refine rwVf (ci := 4) (As := []) (rest := []) X K (k_X4_undo l G g jo js jp ja jk jt jb un uy uw uq uz us up ua uk ut ub _ e2) hd_X4_undo gL_law_X4_undo hP hD hS hA foc_M hl.1 dL_law_1797 rfl rfl ⟨(Nat.le_of_ble_eq_true rfl), (Nat.le_of_ble_eq_true rfl)⟩ rfl rfl rfl (Nat.le_of_ble_eq_true rfl) hce (fun H locs hP hD hS => ?_)
    have hP : va_P G vwCl (lwW g ad bd sc' tl tat tb cn' cf' sn sf tn tf vv ov jo js jp ja jk jt jb un' uy 0 uq uz us' up ua uk ut ub o1 (vp_updL fo 0 a.toInt64) o2 fd) H := hP
    have hD : va_D (fun q => s.heap.size ≤ q) (lwW g ad bd sc' tl tat tb cn' cf' sn sf tn tf vv ov jo js jp ja jk jt jb un' uy 0 uq uz us' up ua uk ut ub o1 (vp_updL fo 0 a.toInt64) o2 fd) := hD
    refine lv_istore (lv' := [(7, .int a), (6, .int 0), (5, .int (nI i)), (4, .ref o2), (3, .ref o1), (2, .ref jo), (1, .ref (ad 0)), (0, .ref b)]) hx hb dL_law_1800 hl (by decide) rfl (fun ls hl => ?_)
    refine lv_aload_n hx hb dL_law_1802 rfl (lv_at hl 5 rfl) ?_
    refine roV (ci := 4) (As := []) (rest := []) X K (k_X4_thrown l G g jo js jp ja jk jt jb un' uy 0 uq uz us' up ua uk ut ub _ rfl) hd_X4_thrown gL_law_X4_thrown ((foc_M (M' := [])).sub hP) hl.1 dL_law_1803 rfl rfl ⟨(Nat.le_of_ble_eq_true rfl), (Nat.le_of_ble_eq_true rfl)⟩ rfl rfl rfl (Nat.le_of_ble_eq_true rfl) hce ?_
    refine lv_iload hx hb dL_law_1806 (lv_at hl 1 rfl) ?_
    refine lv_icmp_eq (tgt := 1813) hx hb dL_law_1808 (by decide) (fun _ => ?_) (fun h => absurd rfl h)
    refine lv_iload hx hb dL_law_1813 (lv_at hl 1 rfl) ?_
    refine lv_if_ne (tgt := 1830) hx hb dL_law_1815 (by decide) (fun h => absurd rfl h) (fun _ => ?_)
    refine lv_aload_n hx hb dL_law_1818 rfl (lv_at hl 4 rfl) ?_
    refine lv_iconst (v := 0) hx hb dL_law_1819 (by decide) ?_
    refine va_lald hx hb K.1 hP 8 4 rfl rfl (vp_in_iff.mpr (by decide)) dL_law_1820 ?_
    refine lv_iload hx hb dL_law_1821 (lv_at hl 0 rfl) ?_
    refine lv_i2l (v := a.toInt64) hx hb dL_law_1823 rfl ?_
    refine W.lcmp hx hb dL_law_1824 ?_
    refine lv_if_eq (tgt := 1830) hx hb dL_law_1825 (by decide) (fun _ => ?_) (fun h => absurd (lcm_o _ _) h)
    refine lv_goto (tgt := 1847) hx hb dL_law_1830 (by decide) ?_
    exact kk _ _ _ (lwI.mk hP hD hS hSt hRs hTx) (lv_dr hl)
set_option maxHeartbeats 4000000 in
set_option maxRecDepth 100000 in
theorem law_digest {l : Launch} {p : Program} {e : Env} {s : State} {m : MethodId} {below : List Frame} {meth : Method} {c : Code} {b L : Nat} {xs : Nat → Int32} {G : va_G} {g : Nat → ClassId} {ad : Nat → Nat} {jo js jp ja jk jt jb o1 o2 : Nat} {H : Heap} {locs : List Loc} {ce sl i : Nat} {ls : Array Slot} {Q : State → Prop} (hce : ce + 1 ≤ 601024 ∧ sl + 6 ≤ 7293034) (hi : i + 5 ≤ L) (E : lwE l p s m meth c b L xs G g) (I : lwI G g ad jo js jp ja jk jt jb o1 o2 s H locs) (hl : lv_has ls 9 (lwL b (ad 0) jo o1 o2 i))
    (kk : ∀ (H1 : Heap) (locs1 : List Loc) (ls1 : Array Slot), lwI G g ad jo js jp ja jk jt jb o1 o2 s H1 locs1 → lv_has ls1 9 (lwL b (ad 0) jo o1 o2 i) → W p l e room_1 s m #[Value.ref b] below meth c H1 locs1 (ce + 1) (sl + 6) Q (F0 m 1847 ls1 [])) : W p l e room_1 s m #[Value.ref b] below meth c H locs ce sl Q (F0 m 1833 ls []) := by
  obtain ⟨X, K, hs, hnc, hX, hbl, hL, hf0⟩ := E
  obtain ⟨hx, hb, hml, hr, hown, hts, hk⟩ := id X
  obtain ⟨bd, sc, tl, tat, tb, cn, cf, sn, sf, tn, tf, vv, ov, un, uy, uw, uq, uz, us, up, ua, uk, ut, ub, fo, fd, hP, hD, hS, hSt, hRs, hTx⟩ := I
  have hA : ∀ q : Nat, s.heap.size ≤ q → (fun q => s.heap.size ≤ q) q := fun _ h => h
  have hce0 : ce ≤ 601024 ∧ sl ≤ 7293034 := ⟨by omega, by omega⟩
  have hl : lv_has ls 9 [(5, .int (nI i)), (4, .ref o2), (3, .ref o1), (2, .ref jo), (1, .ref (ad 0)), (0, .ref b)] := hl
  refine W.widen (k := ce + 1) (n := sl + 6) (Nat.le_add_right _ _) (Nat.le_add_right _ _) ?_
  obtain ⟨a, e1, e2⟩ := R_digest (uw := uw) hSt hRs hTx
  refine lv_aload_n hx hb dL_law_1833 rfl (lv_at hl 4 rfl) ?_
  refine roV (ci := 3) (As := []) (rest := []) X K (k_X3_digest l G g ad bd sc tl tat tb cn cf sn sf tn tf vv ov _ e1) hd_X3_digest gL_law_X3_digest ((foc_X (X' := [])).sub hP) hl.1 dL_law_1834 rfl rfl ⟨(Nat.le_of_ble_eq_true rfl), (Nat.le_of_ble_eq_true rfl)⟩ rfl rfl rfl (Nat.le_of_ble_eq_true rfl) hce ?_
  refine lv_aload_n hx hb dL_law_1837 rfl (lv_at hl 3 rfl) ?_
  refine rwVf (ci := 4) (As := []) (rest := [.long a]) X K (k_X4_digest l G g jo js jp ja jk jt jb un uy uw uq uz us up ua uk ut ub _ e2) hd_X4_digest gL_law_X4_digest hP hD hS hA foc_M hl.1 dL_law_1838 rfl rfl ⟨(Nat.le_of_ble_eq_true rfl), (Nat.le_of_ble_eq_true rfl)⟩ rfl rfl rfl (Nat.le_of_ble_eq_true rfl) hce (fun H locs hP hD hS => ?_)
  have hP : va_P G vwCl (lwW g ad bd sc tl tat tb cn cf sn sf tn tf vv ov jo js jp ja jk jt jb un uy 0 uq uz us up ua uk ut ub o1 fo o2 fd) H := hP
  have hD : va_D (fun q => s.heap.size ≤ q) (lwW g ad bd sc tl tat tb cn cf sn sf tn tf vv ov jo js jp ja jk jt jb un uy 0 uq uz us up ua uk ut ub o1 fo o2 fd) := hD
  refine W.lcmp hx hb dL_law_1841 ?_
  refine lv_if_eq (tgt := 1847) hx hb dL_law_1842 (by decide) (fun _ => ?_) (fun h => absurd (lcm_z _) h)
  exact kk _ _ _ (lwI.mk hP hD hS hSt hRs hTx) hl

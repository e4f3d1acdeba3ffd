/-! ===== the law, case by case, 1 ===== -/
set_option maxHeartbeats 4000000 in
set_option maxRecDepth 100000 in
theorem law_removeKey {l : Launch} {p : Program} {e : Env} {s : State} {m : MethodId} {below : List Frame} {meth : Method} {c : Code} {b L : Nat} {xs : Nat → Int32} {G : va_G} {g : Nat → ClassId} {ad : Nat → Nat} {jo js jp ja jk jt jb o1 o2 : Nat} {H : Heap} {locs : List Loc} {ce sl i : Nat} {ls : Array Slot} {Q : State → Prop} (hce : ce + 1 ≤ 601024 ∧ sl + 6 ≤ 7293034) (hi : i + 5 ≤ L) (E : lwE l p s m meth c b L xs G g) (I : lwI G g ad jo js jp ja jk jt jb o1 o2 s H locs) (hl : lv_has ls 9 (lwL b (ad 0) jo o1 o2 i))
    (kk : ∀ (H1 : Heap) (locs1 : List Loc) (ls1 : Array Slot), lwI G g ad jo js jp ja jk jt jb o1 o2 s H1 locs1 → lv_has ls1 9 (lwL b (ad 0) jo o1 o2 i) → W p l e room_1 s m #[Value.ref b] below meth c H1 locs1 (ce + 1) (sl + 6) Q (F0 m 1847 ls1 [])) : W p l e room_1 s m #[Value.ref b] below meth c H locs ce sl Q (F0 m 248 ls []) := by
  obtain ⟨X, K, hs, hnc, hX, hbl, hL, hf0⟩ := E
  obtain ⟨hx, hb, hml, hr, hown, hts, hk⟩ := id X
  obtain ⟨bd, sc, tl, tat, tb, cn, cf, sn, sf, tn, tf, vv, ov, un, uy, uw, uq, uz, us, up, ua, uk, ut, ub, fo, fd, hP, hD, hS, hSt, hRs, hTx⟩ := I
  have hA : ∀ q : Nat, s.heap.size ≤ q → (fun q => s.heap.size ≤ q) q := fun _ h => h
  have hce0 : ce ≤ 601024 ∧ sl ≤ 7293034 := ⟨by omega, by omega⟩
  have hl : lv_has ls 9 [(5, .int (nI i)), (4, .ref o2), (3, .ref o1), (2, .ref jo), (1, .ref (ad 0)), (0, .ref b)] := hl
  refine lv_aload_n hx hb dL_law_248 rfl (lv_at hl 4 rfl) ?_
  refine lv_aload_n hx hb dL_law_249 rfl (lv_at hl 5 rfl) ?_
  refine lv_iload hx hb dL_law_250 (lv_at hl 0 rfl) ?_
  refine lv_iconst (v := 1) hx hb dL_law_252 (by decide) ?_
  refine lv_iadd hx hb dL_law_253 ?_
  refine va_sld (i := nI i + 1) hx hb hX hbl (Nat.not_le.mpr hbl) hS (show vp_in (nI i + 1) L from lw_in (k := 1) (by omega) hL) dL_law_254 ?_
  refine lv_aload_n hx hb dL_law_255 rfl (lv_at hl 5 rfl) ?_
  refine lv_iload hx hb dL_law_256 (lv_at hl 0 rfl) ?_
  refine lv_iconst (v := 2) hx hb dL_law_258 (by decide) ?_
  refine lv_iadd hx hb dL_law_259 ?_
  refine va_sld (i := nI i + 2) hx hb hX hbl (Nat.not_le.mpr hbl) hS (show vp_in (nI i + 2) L from lw_in (k := 2) (by omega) hL) dL_law_260 ?_
  refine lv_aload_n hx hb dL_law_261 rfl (lv_at hl 2 rfl) ?_
  rcases R_removeKey (uw := uw) (ua := ua) (up := up) (us := us) (un := un) (sc := sc) bd hSt hRs ((xs (nI i + 1).toNatClampNeg)) ((xs (nI i + 2).toNatClampNeg)) with ⟨t, t', ht, e1, e2⟩ | ⟨a, bd', sc', cn', cf', sn', sf', un', us', up', ua', e1, e2, hSt, hRs⟩
  · have htz : 0 < t' ∧ t' < 4 := by omega
    refine lxS (As := [.ref (ad 0), .int (xs (nI i + 1).toNatClampNeg), .int (xs (nI i + 2).toNatClampNeg), .ref o1]) (rest := []) (wr := ((o2, .inl (g 5, 1, .inr (.inr (.inr (.inl fd))))) :: (wM g jo js jp ja jk jt jb un uy uw uq uz us up ua uk ut ub))) X K hs hnc (kxL_removeKey l hf0 G g ad bd sc tl tat tb cn cf sn sf tn tf vv ov o1 fo ((xs (nI i + 1).toNatClampNeg)) ((xs (nI i + 2).toNatClampNeg)) _ _ ht e1) hd_L_removeKey gL_law_L_removeKey hP hD hS hA hl.1 dL_law_262 rfl rfl ⟨(Nat.le_of_ble_eq_true rfl), (Nat.le_of_ble_eq_true rfl)⟩ rfl (Nat.le_of_ble_eq_true rfl) hce (fun w1 H locs hp hP hD hS => ?_)
    have hp : w1 = _ := hp
    subst hp
    have hP : va_P G vwCl (lwW g ad bd sc tl tat tb cn cf sn sf tn tf vv ov jo js jp ja jk jt jb un uy uw uq uz us up ua uk ut ub o1 fo o2 fd) H := hP
    have hD : va_D (fun q => s.heap.size ≤ q) (lwW g ad bd sc tl tat tb cn cf sn sf tn tf vv ov jo js jp ja jk jt jb un uy uw uq uz us up ua uk ut ub o1 fo o2 fd) := hD
    refine lv_istore (lv' := [(6, .int (nI t')), (5, .int (nI i)), (4, .ref o2), (3, .ref o1), (2, .ref jo), (1, .ref (ad 0)), (0, .ref b)]) hx hb dL_law_265 hl (by decide) rfl (fun ls hl => ?_)
    refine lv_aload_n hx hb dL_law_267 rfl (lv_at hl 4 rfl) ?_
    refine lv_aload_n hx hb dL_law_268 rfl (lv_at hl 6 rfl) ?_
    refine lv_iload hx hb dL_law_269 (lv_at hl 1 rfl) ?_
    refine lv_iconst (v := 1) hx hb dL_law_271 (by decide) ?_
    refine lv_iadd hx hb dL_law_272 ?_
    refine va_sld (i := nI i + 1) hx hb hX hbl (Nat.not_le.mpr hbl) hS (show vp_in (nI i + 1) L from lw_in (k := 1) (by omega) hL) dL_law_273 ?_
    refine lv_aload_n hx hb dL_law_274 rfl (lv_at hl 6 rfl) ?_
    refine lv_iload hx hb dL_law_275 (lv_at hl 1 rfl) ?_
    refine lv_iconst (v := 2) hx hb dL_law_277 (by decide) ?_
    refine lv_iadd hx hb dL_law_278 ?_
    refine va_sld (i := nI i + 2) hx hb hX hbl (Nat.not_le.mpr hbl) hS (show vp_in (nI i + 2) L from lw_in (k := 2) (by omega) hL) dL_law_279 ?_
    refine rwVf (ci := 4) (As := [.int (xs (nI i + 1).toNatClampNeg), .int (xs (nI i + 2).toNatClampNeg)]) (rest := []) X K (k_X4_removeKey l G g jo js jp ja jk jt jb un uy uw uq uz us up ua uk ut ub ((xs (nI i + 1).toNatClampNeg)) ((xs (nI i + 2).toNatClampNeg)) _ e2) hd_X4_removeKey gL_law_X4_removeKey hP hD hS hA foc_M hl.1 dL_law_280 rfl rfl ⟨(Nat.le_of_ble_eq_true rfl), (Nat.le_of_ble_eq_true rfl)⟩ rfl rfl rfl (Nat.le_of_ble_eq_true rfl) hce (fun H locs hP hD hS => ?_)
    have hP : va_P G vwCl (lwW g ad bd sc tl tat tb cn cf sn sf tn tf vv ov jo js jp ja jk jt jb un uy (nI t') uq uz us up ua uk ut ub o1 fo o2 fd) H := hP
    have hD : va_D (fun q => s.heap.size ≤ q) (lwW g ad bd sc tl tat tb cn cf sn sf tn tf vv ov jo js jp ja jk jt jb un uy (nI t') uq uz us up ua uk ut ub o1 fo o2 fd) := hD
    refine lv_istore (lv' := [(7, .int 0), (6, .int (nI t')), (5, .int (nI i)), (4, .ref o2), (3, .ref o1), (2, .ref jo), (1, .ref (ad 0)), (0, .ref b)]) hx hb dL_law_283 hl (by decide) rfl (fun ls hl => ?_)
    refine lv_aload_n hx hb dL_law_285 rfl (lv_at hl 5 rfl) ?_
    refine roV (ci := 4) (As := []) (rest := []) X K (k_X4_thrown l G g jo js jp ja jk jt jb un uy (nI t') uq uz us up ua uk ut ub _ rfl) hd_X4_thrown gL_law_X4_thrown ((foc_M (M' := [])).sub hP) hl.1 dL_law_286 rfl rfl ⟨(Nat.le_of_ble_eq_true rfl), (Nat.le_of_ble_eq_true rfl)⟩ rfl rfl rfl (Nat.le_of_ble_eq_true rfl) hce ?_
    refine lv_iload hx hb dL_law_289 (lv_at hl 1 rfl) ?_
    refine lv_icmp_eq (tgt := 296) hx hb dL_law_291 (by decide) (fun _ => ?_) (fun h => absurd rfl h)
    refine lv_iload hx hb dL_law_296 (lv_at hl 1 rfl) ?_
    refine lv_if_ne (tgt := 313) hx hb dL_law_298 (by decide) (fun _ => ?_) (fun h => absurd h (lw_nz htz))
    refine lv_goto (tgt := 1847) hx hb dL_law_313 (by decide) ?_
    exact kk _ _ _ (lwI.mk hP hD hS hSt hRs hTx) (lv_dr hl)
  · refine lxS (As := [.ref (ad 0), .int (xs (nI i + 1).toNatClampNeg), .int (xs (nI i + 2).toNatClampNeg), .ref o1]) (rest := []) (wr := ((o2, .inl (g 5, 1, .inr (.inr (.inr (.inl fd))))) :: (wM g jo js jp ja jk jt jb un uy uw uq uz us up ua uk ut ub))) X K hs hnc (kL_removeKey l G g ad bd sc tl tat tb cn cf sn sf tn tf vv ov o1 fo ((xs (nI i + 1).toNatClampNeg)) ((xs (nI i + 2).toNatClampNeg)) _ e1) hd_L_removeKey gL_law_L_removeKey hP hD hS hA hl.1 dL_law_262 rfl rfl ⟨(Nat.le_of_ble_eq_true rfl), (Nat.le_of_ble_eq_true rfl)⟩ rfl (Nat.le_of_ble_eq_true rfl) hce (fun w1 H locs hp hP hD hS => ?_)
    have hp : w1 = _ := hp
    subst hp
    have hP : va_P G vwCl (lwW g ad bd' sc' tl tat tb cn' cf' sn' sf' tn tf vv ov jo js jp ja jk jt jb un uy uw uq uz us up ua uk ut ub o1 (vp_updL fo 0 a.toInt64) o2 fd) H := hP
    have hD : va_D (fun q => s.heap.size ≤ q) (lwW g ad bd' sc' tl tat tb cn' cf' sn' sf' tn tf vv ov jo js jp ja jk jt jb un uy uw uq uz us up ua uk ut ub o1 (vp_updL fo 0 a.toInt64) o2 fd) := hD
    refine lv_istore (lv' := [(6, .int 0), (5, .int (nI i)), (4, .ref o2), (3, .ref o1), (2, .ref jo), (1, .ref (ad 0)), (0, .ref b)]) hx hb dL_law_265 hl (by decide) rfl (fun ls hl => ?_)
    refine lv_aload_n hx hb dL_law_267 rfl (lv_at hl 4 rfl) ?_
    refine lv_aload_n hx hb dL_law_268 rfl (lv_at hl 6 rfl) ?_
    refine lv_iload hx hb dL_law_269 (lv_at hl 1 rfl) ?_
    refine lv_iconst (v := 1) hx hb dL_law_271 (by decide) ?_
    refine lv_iadd hx hb dL_law_272 ?_
    refine va_sld (i := nI i + 1) hx hb hX hbl (Nat.not_le.mpr hbl) hS (show vp_in (nI i + 1) L from lw_in (k := 1) (by omega) hL) dL_law_273 ?_
    refine lv_aload_n hx hb dL_law_274 rfl (lv_at hl 6 rfl) ?_
    refine lv_iload hx hb dL_law_275 (lv_at hl 1 rfl) ?_
    refine lv_iconst (v := 2) hx hb dL_law_277 (by decide) ?_
    refine lv_iadd hx hb dL_law_278 ?_
    refine va_sld (i := nI i + 2) hx hb hX hbl (Nat.not_le.mpr hbl) hS (show vp_in (nI i + 2) L from lw_in (k := 2) (by omega) hL) dL_law_279 ?_
    refine rwVf (ci := 4) (As := [.int (xs (nI i + 1).toNatClampNeg), .int (xs (nI i + 2).toNatClampNeg)]) (rest := []) X K (k_X4_removeKey l G g jo js jp ja jk jt jb un uy uw uq uz us up ua uk ut ub ((xs (nI i + 1).toNatClampNeg)) ((xs (nI i + 2).toNatClampNeg)) _ e2) hd_X4_removeKey gL_law_X4_removeKey hP hD hS hA foc_M hl.1 dL_law_280 rfl rfl ⟨(Nat.le_of_ble_eq_true rfl), (Nat.le_of_ble_eq_true rfl)⟩ rfl rfl rfl (Nat.le_of_ble_eq_true rfl) hce (fun H locs hP hD hS => ?_)
    have hP : va_P G vwCl (lwW g ad bd' sc' tl tat tb cn' cf' sn' sf' tn tf vv ov jo js jp ja jk jt jb un' uy 0 uq uz us' up' ua' uk ut ub o1 (vp_updL fo 0 a.toInt64) o2 fd) H := hP
    have hD : va_D (fun q => s.heap.size ≤ q) (lwW g ad bd' sc' tl tat tb cn' cf' sn' sf' tn tf vv ov jo js jp ja jk jt jb un' uy 0 uq uz us' up' ua' uk ut ub o1 (vp_updL fo 0 a.toInt64) o2 fd) := hD
    refine lv_istore (lv' := [(7, .int a), (6, .int 0), (5, .int (nI i)), (4, .ref o2), (3, .ref o1), (2, .ref jo), (1, .ref (ad 0)), (0, .ref b)]) hx hb dL_law_283 hl (by decide) rfl (fun ls hl => ?_)
    refine lv_aload_n hx hb dL_law_285 rfl (lv_at hl 5 rfl) ?_
    refine roV (ci := 4) (As := []) (rest := []) X K (k_X4_thrown l G g jo js jp ja jk jt jb un' uy 0 uq uz us' up' ua' uk ut ub _ rfl) hd_X4_thrown gL_law_X4_thrown ((foc_M (M' := [])).sub hP) hl.1 dL_law_286 rfl rfl ⟨(Nat.le_of_ble_eq_true rfl), (Nat.le_of_ble_eq_true rfl)⟩ rfl rfl rfl (Nat.le_of_ble_eq_true rfl) hce ?_
    refine lv_iload hx hb dL_law_289 (lv_at hl 1 rfl) ?_
    refine lv_icmp_eq (tgt := 296) hx hb dL_law_291 (by decide) (fun _ => ?_) (fun h => absurd rfl h)
    refine lv_iload hx hb dL_law_296 (lv_at hl 1 rfl) ?_
    refine lv_if_ne (tgt := 313) hx hb dL_law_298 (by decide) (fun h => absurd rfl h) (fun _ => ?_)
    refine lv_aload_n hx hb dL_law_301 rfl (lv_at hl 4 rfl) ?_
    refine lv_iconst (v := 0) hx hb dL_law_302 (by decide) ?_
    refine va_lald hx hb K.1 hP 8 4 rfl rfl (vp_in_iff.mpr (by decide)) dL_law_303 ?_
    refine lv_iload hx hb dL_law_304 (lv_at hl 0 rfl) ?_
    refine lv_i2l (v := a.toInt64) hx hb dL_law_306 rfl ?_
    refine W.lcmp hx hb dL_law_307 ?_
    refine lv_if_eq (tgt := 313) hx hb dL_law_308 (by decide) (fun _ => ?_) (fun h => absurd (lcm_o _ _) h)
    refine lv_goto (tgt := 1847) hx hb dL_law_313 (by decide) ?_
    exact kk _ _ _ (lwI.mk hP hD hS hSt hRs hTx) (lv_dr hl)
set_option maxHeartbeats 4000000 in
set_option maxRecDepth 100000 in
theorem law_setKey {l : Launch} {p : Program} {e : Env} {s : State} {m : MethodId} {below : List Frame} {meth : Method} {c : Code} {b L : Nat} {xs : Nat → Int32} {G : va_G} {g : Nat → ClassId} {ad : Nat → Nat} {jo js jp ja jk jt jb o1 o2 : Nat} {H : Heap} {locs : List Loc} {ce sl i : Nat} {ls : Array Slot} {Q : State → Prop} (hce : ce + 1 ≤ 601024 ∧ sl + 6 ≤ 7293034) (hi : i + 5 ≤ L) (E : lwE l p s m meth c b L xs G g) (I : lwI G g ad jo js jp ja jk jt jb o1 o2 s H locs) (hl : lv_has ls 9 (lwL b (ad 0) jo o1 o2 i))
    (kk : ∀ (H1 : Heap) (locs1 : List Loc) (ls1 : Array Slot), lwI G g ad jo js jp ja jk jt jb o1 o2 s H1 locs1 → lv_has ls1 9 (lwL b (ad 0) jo o1 o2 i) → W p l e room_1 s m #[Value.ref b] below meth c H1 locs1 (ce + 1) (sl + 6) Q (F0 m 1847 ls1 [])) : W p l e room_1 s m #[Value.ref b] below meth c H locs ce sl Q (F0 m 316 ls []) := by
  obtain ⟨X, K, hs, hnc, hX, hbl, hL, hf0⟩ := E
  obtain ⟨hx, hb, hml, hr, hown, hts, hk⟩ := id X
  obtain ⟨bd, sc, tl, tat, tb, cn, cf, sn, sf, tn, tf, vv, ov, un, uy, uw, uq, uz, us, up, ua, uk, ut, ub, fo, fd, hP, hD, hS, hSt, hRs, hTx⟩ := I
  have hA : ∀ q : Nat, s.heap.size ≤ q → (fun q => s.heap.size ≤ q) q := fun _ h => h
  have hce0 : ce ≤ 601024 ∧ sl ≤ 7293034 := ⟨by omega, by omega⟩
  have hl : lv_has ls 9 [(5, .int (nI i)), (4, .ref o2), (3, .ref o1), (2, .ref jo), (1, .ref (ad 0)), (0, .ref b)] := hl
  refine lv_aload_n hx hb dL_law_316 rfl (lv_at hl 4 rfl) ?_
  refine lv_aload_n hx hb dL_law_317 rfl (lv_at hl 5 rfl) ?_
  refine lv_iload hx hb dL_law_318 (lv_at hl 0 rfl) ?_
  refine lv_iconst (v := 1) hx hb dL_law_320 (by decide) ?_
  refine lv_iadd hx hb dL_law_321 ?_
  refine va_sld (i := nI i + 1) hx hb hX hbl (Nat.not_le.mpr hbl) hS (show vp_in (nI i + 1) L from lw_in (k := 1) (by omega) hL) dL_law_322 ?_
  refine lv_aload_n hx hb dL_law_323 rfl (lv_at hl 5 rfl) ?_
  refine lv_iload hx hb dL_law_324 (lv_at hl 0 rfl) ?_
  refine lv_iconst (v := 2) hx hb dL_law_326 (by decide) ?_
  refine lv_iadd hx hb dL_law_327 ?_
  refine va_sld (i := nI i + 2) hx hb hX hbl (Nat.not_le.mpr hbl) hS (show vp_in (nI i + 2) L from lw_in (k := 2) (by omega) hL) dL_law_328 ?_
  refine lv_aload_n hx hb dL_law_329 rfl (lv_at hl 5 rfl) ?_
  refine lv_iload hx hb dL_law_330 (lv_at hl 0 rfl) ?_
  refine lv_iconst (v := 3) hx hb dL_law_332 (by decide) ?_
  refine lv_iadd hx hb dL_law_333 ?_
  refine va_sld (i := nI i + 3) hx hb hX hbl (Nat.not_le.mpr hbl) hS (show vp_in (nI i + 3) L from lw_in (k := 3) (by omega) hL) dL_law_334 ?_
  refine lv_aload_n hx hb dL_law_335 rfl (lv_at hl 5 rfl) ?_
  refine lv_iload hx hb dL_law_336 (lv_at hl 0 rfl) ?_
  refine lv_iconst (v := 4) hx hb dL_law_338 (by decide) ?_
  refine lv_iadd hx hb dL_law_339 ?_
  refine va_sld (i := nI i + 4) hx hb hX hbl (Nat.not_le.mpr hbl) hS (show vp_in (nI i + 4) L from lw_in (k := 4) (by omega) hL) dL_law_340 ?_
  refine lv_aload_n hx hb dL_law_341 rfl (lv_at hl 2 rfl) ?_
  rcases R_setKey (uw := uw) (ua := ua) (up := up) (us := us) (un := un) (sc := sc) bd hSt hRs ((xs (nI i + 1).toNatClampNeg)) ((xs (nI i + 2).toNatClampNeg)) ((xs (nI i + 3).toNatClampNeg)) ((xs (nI i + 4).toNatClampNeg)) with ⟨t, t', ht, e1, e2⟩ | ⟨a, bd', sc', cf', sn', sf', un', us', up', ua', e1, e2, hSt, hRs⟩
  · have htz : 0 < t' ∧ t' < 4 := by omega
    refine lxS (As := [.ref (ad 0), .int (xs (nI i + 1).toNatClampNeg), .int (xs (nI i + 2).toNatClampNeg), .int (xs (nI i + 3).toNatClampNeg), .int (xs (nI i + 4).toNatClampNeg), .ref o1]) (rest := []) (wr := ((o2, .inl (g 5, 1, .inr (.inr (.inr (.inl fd))))) :: (wM g jo js jp ja jk jt jb un uy uw uq uz us up ua uk ut ub))) X K hs hnc (kxL_setKey l hf0 G g ad bd sc tl tat tb cn cf sn sf tn tf vv ov o1 fo ((xs (nI i + 1).toNatClampNeg)) ((xs (nI i + 2).toNatClampNeg)) ((xs (nI i + 3).toNatClampNeg)) ((xs (nI i + 4).toNatClampNeg)) _ _ ht e1) hd_L_setKey gL_law_L_setKey hP hD hS hA hl.1 dL_law_342 rfl rfl ⟨(Nat.le_of_ble_eq_true rfl), (Nat.le_of_ble_eq_true rfl)⟩ rfl (Nat.le_of_ble_eq_true rfl) hce (fun w1 H locs hp hP hD hS => ?_)
    have hp : w1 = _ := hp
    subst hp
    have hP : va_P G vwCl (lwW g ad bd sc tl tat tb cn cf sn sf tn tf vv ov jo js jp ja jk jt jb un uy uw uq uz us up ua uk ut ub o1 fo o2 fd) H := hP
    have hD : va_D (fun q => s.heap.size ≤ q) (lwW g ad bd sc tl tat tb cn cf sn sf tn tf vv ov jo js jp ja jk jt jb un uy uw uq uz us up ua uk ut ub o1 fo o2 fd) := hD
    refine lv_istore (lv' := [(6, .int (nI t')), (5, .int (nI i)), (4, .ref o2), (3, .ref o1), (2, .ref jo), (1, .ref (ad 0)), (0, .ref b)]) hx hb dL_law_345 hl (by decide) rfl (fun ls hl => ?_)
    refine lv_aload_n hx hb dL_law_347 rfl (lv_at hl 4 rfl) ?_
    refine lv_aload_n hx hb dL_law_348 rfl (lv_at hl 6 rfl) ?_
    refine lv_iload hx hb dL_law_349 (lv_at hl 1 rfl) ?_
    refine lv_iconst (v := 1) hx hb dL_law_351 (by decide) ?_
    refine lv_iadd hx hb dL_law_352 ?_
    refine va_sld (i := nI i + 1) hx hb hX hbl (Nat.not_le.mpr hbl) hS (show vp_in (nI i + 1) L from lw_in (k := 1) (by omega) hL) dL_law_353 ?_
    refine lv_aload_n hx hb dL_law_354 rfl (lv_at hl 6 rfl) ?_
    refine lv_iload hx hb dL_law_355 (lv_at hl 1 rfl) ?_
    refine lv_iconst (v := 2) hx hb dL_law_357 (by decide) ?_
    refine lv_iadd hx hb dL_law_358 ?_
    refine va_sld (i := nI i + 2) hx hb hX hbl (Nat.not_le.mpr hbl) hS (show vp_in (nI i + 2) L from lw_in (k := 2) (by omega) hL) dL_law_359 ?_
    refine lv_aload_n hx hb dL_law_360 rfl (lv_at hl 6 rfl) ?_
    refine lv_iload hx hb dL_law_361 (lv_at hl 1 rfl) ?_
    refine lv_iconst (v := 3) hx hb dL_law_363 (by decide) ?_
    refine lv_iadd hx hb dL_law_364 ?_
    refine va_sld (i := nI i + 3) hx hb hX hbl (Nat.not_le.mpr hbl) hS (show vp_in (nI i + 3) L from lw_in (k := 3) (by omega) hL) dL_law_365 ?_
    refine lv_aload_n hx hb dL_law_366 rfl (lv_at hl 6 rfl) ?_
    refine lv_iload hx hb dL_law_367 (lv_at hl 1 rfl) ?_
    refine lv_iconst (v := 4) hx hb dL_law_369 (by decide) ?_
    refine lv_iadd hx hb dL_law_370 ?_
    refine va_sld (i := nI i + 4) hx hb hX hbl (Nat.not_le.mpr hbl) hS (show vp_in (nI i + 4) L from lw_in (k := 4) (by omega) hL) dL_law_371 ?_
    refine rwVf (ci := 4) (As := [.int (xs (nI i + 1).toNatClampNeg), .int (xs (nI i + 2).toNatClampNeg), .int (xs (nI i + 3).toNatClampNeg), .int (xs (nI i + 4).toNatClampNeg)]) (rest := []) X K (k_X4_setKey l G g jo js jp ja jk jt jb un uy uw uq uz us up ua uk ut ub ((xs (nI i + 1).toNatClampNeg)) ((xs (nI i + 2).toNatClampNeg)) ((xs (nI i + 3).toNatClampNeg)) ((xs (nI i + 4).toNatClampNeg)) _ e2) hd_X4_setKey gL_law_X4_setKey hP hD hS hA foc_M hl.1 dL_law_372 rfl rfl ⟨(Nat.le_of_ble_eq_true rfl), (Nat.le_of_ble_eq_true rfl)⟩ rfl rfl rfl (Nat.le_of_ble_eq_true rfl) hce (fun H locs hP hD hS => ?_)
    have hP : va_P G vwCl (lwW g ad bd sc tl tat tb cn cf sn sf tn tf vv ov jo js jp ja jk jt jb un uy (nI t') uq uz us up ua uk ut ub o1 fo o2 fd) H := hP
    have hD : va_D (fun q => s.heap.size ≤ q) (lwW g ad bd sc tl tat tb cn cf sn sf tn tf vv ov jo js jp ja jk jt jb un uy (nI t') uq uz us up ua uk ut ub o1 fo o2 fd) := hD
    refine lv_istore (lv' := [(7, .int 0), (6, .int (nI t')), (5, .int (nI i)), (4, .ref o2), (3, .ref o1), (2, .ref jo), (1, .ref (ad 0)), (0, .ref b)]) hx hb dL_law_375 hl (by decide) rfl (fun ls hl => ?_)
    refine lv_aload_n hx hb dL_law_377 rfl (lv_at hl 5 rfl) ?_
    refine roV (ci := 4) (As := []) (rest := []) X K (k_X4_thrown l G g jo js jp ja jk jt jb un uy (nI t') uq uz us up ua uk ut ub _ rfl) hd_X4_thrown gL_law_X4_thrown ((foc_M (M' := [])).sub hP) hl.1 dL_law_378 rfl rfl ⟨(Nat.le_of_ble_eq_true rfl), (Nat.le_of_ble_eq_true rfl)⟩ rfl rfl rfl (Nat.le_of_ble_eq_true rfl) hce ?_
    refine lv_iload hx hb dL_law_381 (lv_at hl 1 rfl) ?_
    refine lv_icmp_eq (tgt := 388) hx hb dL_law_383 (by decide) (fun _ => ?_) (fun h => absurd rfl h)
    refine lv_iload hx hb dL_law_388 (lv_at hl 1 rfl) ?_
    refine lv_if_ne (tgt := 405) hx hb dL_law_390 (by decide) (fun _ => ?_) (fun h => absurd h (lw_nz htz))
    refine lv_goto (tgt := 1847) hx hb dL_law_405 (by decide) ?_
    exact kk _ _ _ (lwI.mk hP hD hS hSt hRs hTx) (lv_dr hl)
  · refine lxS (As := [.ref (ad 0), .int (xs (nI i + 1).toNatClampNeg), .int (xs (nI i + 2).toNatClampNeg), .int (xs (nI i + 3).toNatClampNeg), .int (xs (nI i + 4).toNatClampNeg), .ref o1]) (rest := []) (wr := ((o2, .inl (g 5, 1, .inr (.inr (.inr (.inl fd))))) :: (wM g jo js jp ja jk jt jb un uy uw uq uz us up ua uk ut ub))) X K hs hnc (kL_setKey l G g ad bd sc tl tat tb cn cf sn sf tn tf vv ov o1 fo ((xs (nI i + 1).toNatClampNeg)) ((xs (nI i + 2).toNatClampNeg)) ((xs (nI i + 3).toNatClampNeg)) ((xs (nI i + 4).toNatClampNeg)) _ e1) hd_L_setKey gL_law_L_setKey hP hD hS hA hl.1 dL_law_342 rfl rfl ⟨(Nat.le_of_ble_eq_true rfl), (Nat.le_of_ble_eq_true rfl)⟩ rfl (Nat.le_of_ble_eq_true rfl) hce (fun w1 H locs hp hP hD hS => ?_)
    have hp : w1 = _ := hp
    subst hp
    have hP : va_P G vwCl (lwW g ad bd' sc' tl tat tb cn cf' sn' sf' tn tf vv ov jo js jp ja jk jt jb un uy uw uq uz us up ua uk ut ub o1 (vp_updL fo 0 a.toInt64) o2 fd) H := hP
    have hD : va_D (fun q => s.heap.size ≤ q) (lwW g ad bd' sc' tl tat tb cn cf' sn' sf' tn tf vv ov jo js jp ja jk jt jb un uy uw uq uz us up ua uk ut ub o1 (vp_updL fo 0 a.toInt64) o2 fd) := hD
    refine lv_istore (lv' := [(6, .int 0), (5, .int (nI i)), (4, .ref o2), (3, .ref o1), (2, .ref jo), (1, .ref (ad 0)), (0, .ref b)]) hx hb dL_law_345 hl (by decide) rfl (fun ls hl => ?_)
    refine lv_aload_n hx hb dL_law_347 rfl (lv_at hl 4 rfl) ?_
    refine lv_aload_n hx hb dL_law_348 rfl (lv_at hl 6 rfl) ?_
    refine lv_iload hx hb dL_law_349 (lv_at hl 1 rfl) ?_
    refine lv_iconst (v := 1) hx hb dL_law_351 (by decide) ?_
    refine lv_iadd hx hb dL_law_352 ?_
    refine va_sld (i := nI i + 1) hx hb hX hbl (Nat.not_le.mpr hbl) hS (show vp_in (nI i + 1) L from lw_in (k := 1) (by omega) hL) dL_law_353 ?_
    refine lv_aload_n hx hb dL_law_354 rfl (lv_at hl 6 rfl) ?_
    refine lv_iload hx hb dL_law_355 (lv_at hl 1 rfl) ?_
    refine lv_iconst (v := 2) hx hb dL_law_357 (by decide) ?_
    refine lv_iadd hx hb dL_law_358 ?_
    refine va_sld (i := nI i + 2) hx hb hX hbl (Nat.not_le.mpr hbl) hS (show vp_in (nI i + 2) L from lw_in (k := 2) (by omega) hL) dL_law_359 ?_
    refine lv_aload_n hx hb dL_law_360 rfl (lv_at hl 6 rfl) ?_
    refine lv_iload hx hb dL_law_361 (lv_at hl 1 rfl) ?_
    refine lv_iconst (v := 3) hx hb dL_law_363 (by decide) ?_
    refine lv_iadd hx hb dL_law_364 ?_
    refine va_sld (i := nI i + 3) hx hb hX hbl (Nat.not_le.mpr hbl) hS (show vp_in (nI i + 3) L from lw_in (k := 3) (by omega) hL) dL_law_365 ?_
    refine lv_aload_n hx hb dL_law_366 rfl (lv_at hl 6 rfl) ?_
    refine lv_iload hx hb dL_law_367 (lv_at hl 1 rfl) ?_
    refine lv_iconst (v := 4) hx hb dL_law_369 (by decide) ?_
    refine lv_iadd hx hb dL_law_370 ?_
    refine va_sld (i := nI i + 4) hx hb hX hbl (Nat.not_le.mpr hbl) hS (show vp_in (nI i + 4) L from lw_in (k := 4) (by omega) hL) dL_law_371 ?_
    refine rwVf (ci := 4) (As := [.int (xs (nI i + 1).toNatClampNeg), .int (xs (nI i + 2).toNatClampNeg), .int (xs (nI i + 3).toNatClampNeg), .int (xs (nI i + 4).toNatClampNeg)]) (rest := []) X K (k_X4_setKey l G g jo js jp ja jk jt jb un uy uw uq uz us up ua uk ut ub ((xs (nI i + 1).toNatClampNeg)) ((xs (nI i + 2).toNatClampNeg)) ((xs (nI i + 3).toNatClampNeg)) ((xs (nI i + 4).toNatClampNeg)) _ e2) hd_X4_setKey gL_law_X4_setKey hP hD hS hA foc_M hl.1 dL_law_372 rfl rfl ⟨(Nat.le_of_ble_eq_true rfl), (Nat.le_of_ble_eq_true rfl)⟩ rfl rfl rfl (Nat.le_of_ble_eq_true rfl) hce (fun H locs hP hD hS => ?_)
    have hP : va_P G vwCl (lwW g ad bd' sc' tl tat tb cn cf' sn' sf' tn tf vv ov jo js jp ja jk jt jb un' uy 0 uq uz us' up' ua' uk ut ub o1 (vp_updL fo 0 a.toInt64) o2 fd) H := hP
    have hD : va_D (fun q => s.heap.size ≤ q) (lwW g ad bd' sc' tl tat tb cn cf' sn' sf' tn tf vv ov jo js jp ja jk jt jb un' uy 0 uq uz us' up' ua' uk ut ub o1 (vp_updL fo 0 a.toInt64) o2 fd) := hD
    refine lv_istore (lv' := [(7, .int a), (6, .int 0), (5, .int (nI i)), (4, .ref o2), (3, .ref o1), (2, .ref jo), (1, .ref (ad 0)), (0, .ref b)]) hx hb dL_law_375 hl (by decide) rfl (fun ls hl => ?_)
    refine lv_aload_n hx hb dL_law_377 rfl (lv_at hl 5 rfl) ?_
    refine roV (ci := 4) (As := []) (rest := []) X K (k_X4_thrown l G g jo js jp ja jk jt jb un' uy 0 uq uz us' up' ua' uk ut ub _ rfl) hd_X4_thrown gL_law_X4_thrown ((foc_M (M' := [])).sub hP) hl.1 dL_law_378 rfl rfl ⟨(Nat.le_of_ble_eq_true rfl), (Nat.le_of_ble_eq_true rfl)⟩ rfl rfl rfl (Nat.le_of_ble_eq_true rfl) hce ?_
    refine lv_iload hx hb dL_law_381 (lv_at hl 1 rfl) ?_
    refine lv_icmp_eq (tgt := 388) hx hb dL_law_383 (by decide) (fun _ => ?_) (fun h => absurd rfl h)
    refine lv_iload hx hb dL_law_388 (lv_at hl 1 rfl) ?_
    refine lv_if_ne (tgt := 405) hx hb dL_law_390 (by decide) (fun h => absurd rfl h) (fun _ => ?_)
    refine lv_aload_n hx hb dL_law_393 rfl (lv_at hl 4 rfl) ?_
    refine lv_iconst (v := 0) hx hb dL_law_394 (by decide) ?_
    refine va_lald hx hb K.1 hP 8 4 rfl rfl (vp_in_iff.mpr (by decide)) dL_law_395 ?_
    refine lv_iload hx hb dL_law_396 (lv_at hl 0 rfl) ?_
    refine lv_i2l (v := a.toInt64) hx hb dL_law_398 rfl ?_
    refine W.lcmp hx hb dL_law_399 ?_
    refine lv_if_eq (tgt := 405) hx hb dL_law_400 (by decide) (fun _ => ?_) (fun h => absurd (lcm_o _ _) h)
    refine lv_goto (tgt := 1847) hx hb dL_law_405 (by decide) ?_
    exact kk _ _ _ (lwI.mk hP hD hS hSt hRs hTx) (lv_dr hl)
set_option maxHeartbeats 4000000 in
set_option maxRecDepth 100000 in
theorem law_moveKey {l : Launch} {p : Program} {e : Env} {s : State} {m : MethodId} {below : List Frame} {meth : Method} {c : Code} {b L : Nat} {xs : Nat → Int32} {G : va_G} {g : Nat → ClassId} {ad : Nat → Nat} {jo js jp ja jk jt jb o1 o2 : Nat} {H : Heap} {locs : List Loc} {ce sl i : Nat} {ls : Array Slot} {Q : State → Prop} (hce : ce + 1 ≤ 601024 ∧ sl + 6 ≤ 7293034) (hi : i + 5 ≤ L) (E : lwE l p s m meth c b L xs G g) (I : lwI G g ad jo js jp ja jk jt jb o1 o2 s H locs) (hl : lv_has ls 9 (lwL b (ad 0) jo o1 o2 i))
    (kk : ∀ (H1 : Heap) (locs1 : List Loc) (ls1 : Array Slot), lwI G g ad jo js jp ja jk jt jb o1 o2 s H1 locs1 → lv_has ls1 9 (lwL b (ad 0) jo o1 o2 i) → W p l e room_1 s m #[Value.ref b] below meth c H1 locs1 (ce + 1) (sl + 6) Q (F0 m 1847 ls1 [])) : W p l e room_1 s m #[Value.ref b] below meth c H locs ce sl Q (F0 m 408 ls []) := by
  obtain ⟨X, K, hs, hnc, hX, hbl, hL, hf0⟩ := E
  obtain ⟨hx, hb, hml, hr, hown, hts, hk⟩ := id X
  obtain ⟨bd, sc, tl, tat, tb, cn, cf, sn, sf, tn, tf, vv, ov, un, uy, uw, uq, uz, us, up, ua, uk, ut, ub, fo, fd, hP, hD, hS, hSt, hRs, hTx⟩ := I
  have hA : ∀ q : Nat, s.heap.size ≤ q → (fun q => s.heap.size ≤ q) q := fun _ h => h
  have hce0 : ce ≤ 601024 ∧ sl ≤ 7293034 := ⟨by omega, by omega⟩
  have hl : lv_has ls 9 [(5, .int (nI i)), (4, .ref o2), (3, .ref o1), (2, .ref jo), (1, .ref (ad 0)), (0, .ref b)] := hl
  refine lv_aload_n hx hb dL_law_408 rfl (lv_at hl 4 rfl) ?_
  refine lv_aload_n hx hb dL_law_409 rfl (lv_at hl 5 rfl) ?_
  refine lv_iload hx hb dL_law_410 (lv_at hl 0 rfl) ?_
  refine lv_iconst (v := 1) hx hb dL_law_412 (by decide) ?_
  refine lv_iadd hx hb dL_law_413 ?_
  refine va_sld (i := nI i + 1) hx hb hX hbl (Nat.not_le.mpr hbl) hS (show vp_in (nI i + 1) L from lw_in (k := 1) (by omega) hL) dL_law_414 ?_
  refine lv_aload_n hx hb dL_law_415 rfl (lv_at hl 5 rfl) ?_
  refine lv_iload hx hb dL_law_416 (lv_at hl 0 rfl) ?_
  refine lv_iconst (v := 2) hx hb dL_law_418 (by decide) ?_
  refine lv_iadd hx hb dL_law_419 ?_
  refine va_sld (i := nI i + 2) hx hb hX hbl (Nat.not_le.mpr hbl) hS (show vp_in (nI i + 2) L from lw_in (k := 2) (by omega) hL) dL_law_420 ?_
  refine lv_aload_n hx hb dL_law_421 rfl (lv_at hl 5 rfl) ?_
  refine lv_iload hx hb dL_law_422 (lv_at hl 0 rfl) ?_
  refine lv_iconst (v := 3) hx hb dL_law_424 (by decide) ?_
  refine lv_iadd hx hb dL_law_425 ?_
  refine va_sld (i := nI i + 3) hx hb hX hbl (Nat.not_le.mpr hbl) hS (show vp_in (nI i + 3) L from lw_in (k := 3) (by omega) hL) dL_law_426 ?_
  refine lv_aload_n hx hb dL_law_427 rfl (lv_at hl 2 rfl) ?_
  rcases R_moveKey (uw := uw) (ua := ua) (up := up) (us := us) (un := un) (sc := sc) bd hSt hRs ((xs (nI i + 1).toNatClampNeg)) ((xs (nI i + 2).toNatClampNeg)) ((xs (nI i + 3).toNatClampNeg)) with ⟨t, t', ht, e1, e2⟩ | ⟨a, bd', sc', cn', cf', sn', sf', un', us', up', ua', e1, e2, hSt, hRs⟩
  · have htz : 0 < t' ∧ t' < 4 := by omega
    refine lxS (As := [.ref (ad 0), .int (xs (nI i + 1).toNatClampNeg), .int (xs (nI i + 2).toNatClampNeg), .int (xs (nI i + 3).toNatClampNeg), .ref o1]) (rest := []) (wr := ((o2, .inl (g 5, 1, .inr (.inr (.inr (.inl fd))))) :: (wM g jo js jp ja jk jt jb un uy uw uq uz us up ua uk ut ub))) X K hs hnc (kxL_moveKey l hf0 G g ad bd sc tl tat tb cn cf sn sf tn tf vv ov o1 fo ((xs (nI i + 1).toNatClampNeg)) ((xs (nI i + 2).toNatClampNeg)) ((xs (nI i + 3).toNatClampNeg)) _ _ ht e1) hd_L_moveKey gL_law_L_moveKey hP hD hS hA hl.1 dL_law_428 rfl rfl ⟨(Nat.le_of_ble_eq_true rfl), (Nat.le_of_ble_eq_true rfl)⟩ rfl (Nat.le_of_ble_eq_true rfl) hce (fun w1 H locs hp hP hD hS => ?_)
    have hp : w1 = _ := hp
    subst hp
    have hP : va_P G vwCl (lwW g ad bd sc tl tat tb cn cf sn sf tn tf vv ov jo js jp ja jk jt jb un uy uw uq uz us up ua uk ut ub o1 fo o2 fd) H := hP
    have hD : va_D (fun q => s.heap.size ≤ q) (lwW g ad bd sc tl tat tb cn cf sn sf tn tf vv ov jo js jp ja jk jt jb un uy uw uq uz us up ua uk ut ub o1 fo o2 fd) := hD
    refine lv_istore (lv' := [(6, .int (nI t')), (5, .int (nI i)), (4, .ref o2), (3, .ref o1), (2, .ref jo), (1, .ref (ad 0)), (0, .ref b)]) hx hb dL_law_431 hl (by decide) rfl (fun ls hl => ?_)
    refine lv_aload_n hx hb dL_law_433 rfl (lv_at hl 4 rfl) ?_
    refine lv_aload_n hx hb dL_law_434 rfl (lv_at hl 6 rfl) ?_
    refine lv_iload hx hb dL_law_435 (lv_at hl 1 rfl) ?_
    refine lv_iconst (v := 1) hx hb dL_law_437 (by decide) ?_
    refine lv_iadd hx hb dL_law_438 ?_
    refine va_sld (i := nI i + 1) hx hb hX hbl (Nat.not_le.mpr hbl) hS (show vp_in (nI i + 1) L from lw_in (k := 1) (by omega) hL) dL_law_439 ?_
    refine lv_aload_n hx hb dL_law_440 rfl (lv_at hl 6 rfl) ?_
    refine lv_iload hx hb dL_law_441 (lv_at hl 1 rfl) ?_
    refine lv_iconst (v := 2) hx hb dL_law_443 (by decide) ?_
    refine lv_iadd hx hb dL_law_444 ?_
    refine va_sld (i := nI i + 2) hx hb hX hbl (Nat.not_le.mpr hbl) hS (show vp_in (nI i + 2) L from lw_in (k := 2) (by omega) hL) dL_law_445 ?_
    refine lv_aload_n hx hb dL_law_446 rfl (lv_at hl 6 rfl) ?_
    refine lv_iload hx hb dL_law_447 (lv_at hl 1 rfl) ?_
    refine lv_iconst (v := 3) hx hb dL_law_449 (by decide) ?_
    refine lv_iadd hx hb dL_law_450 ?_
    refine va_sld (i := nI i + 3) hx hb hX hbl (Nat.not_le.mpr hbl) hS (show vp_in (nI i + 3) L from lw_in (k := 3) (by omega) hL) dL_law_451 ?_
    refine rwVf (ci := 4) (As := [.int (xs (nI i + 1).toNatClampNeg), .int (xs (nI i + 2).toNatClampNeg), .int (xs (nI i + 3).toNatClampNeg)]) (rest := []) X K (k_X4_moveKey l G g jo js jp ja jk jt jb un uy uw uq uz us up ua uk ut ub ((xs (nI i + 1).toNatClampNeg)) ((xs (nI i + 2).toNatClampNeg)) ((xs (nI i + 3).toNatClampNeg)) _ e2) hd_X4_moveKey gL_law_X4_moveKey hP hD hS hA foc_M hl.1 dL_law_452 rfl rfl ⟨(Nat.le_of_ble_eq_true rfl), (Nat.le_of_ble_eq_true rfl)⟩ rfl rfl rfl (Nat.le_of_ble_eq_true rfl) hce (fun H locs hP hD hS => ?_)
    have hP : va_P G vwCl (lwW g ad bd sc tl tat tb cn cf sn sf tn tf vv ov jo js jp ja jk jt jb un uy (nI t') uq uz us up ua uk ut ub o1 fo o2 fd) H := hP
    have hD : va_D (fun q => s.heap.size ≤ q) (lwW g ad bd sc tl tat tb cn cf sn sf tn tf vv ov jo js jp ja jk jt jb un uy (nI t') uq uz us up ua uk ut ub o1 fo o2 fd) := hD
    refine lv_istore (lv' := [(7, .int 0), (6, .int (nI t')), (5, .int (nI i)), (4, .ref o2), (3, .ref o1), (2, .ref jo), (1, .ref (ad 0)), (0, .ref b)]) hx hb dL_law_455 hl (by decide) rfl (fun ls hl => ?_)
    refine lv_aload_n hx hb dL_law_457 rfl (lv_at hl 5 rfl) ?_
    refine roV (ci := 4) (As := []) (rest := []) X K (k_X4_thrown l G g jo js jp ja jk jt jb un uy (nI t') uq uz us up ua uk ut ub _ rfl) hd_X4_thrown gL_law_X4_thrown ((foc_M (M' := [])).sub hP) hl.1 dL_law_458 rfl rfl ⟨(Nat.le_of_ble_eq_true rfl), (Nat.le_of_ble_eq_true rfl)⟩ rfl rfl rfl (Nat.le_of_ble_eq_true rfl) hce ?_
    refine lv_iload hx hb dL_law_461 (lv_at hl 1 rfl) ?_
    refine lv_icmp_eq (tgt := 468) hx hb dL_law_463 (by decide) (fun _ => ?_) (fun h => absurd rfl h)
    refine lv_iload hx hb dL_law_468 (lv_at hl 1 rfl) ?_
    refine lv_if_ne (tgt := 485) hx hb dL_law_470 (by decide) (fun _ => ?_) (fun h => absurd h (lw_nz htz))
    refine lv_goto (tgt := 1847) hx hb dL_law_485 (by decide) ?_
    exact kk _ _ _ (lwI.mk hP hD hS hSt hRs hTx) (lv_dr hl)
  · refine lxS (As := [.ref (ad 0), .int (xs (nI i + 1).toNatClampNeg), .int (xs (nI i + 2).toNatClampNeg), .int (xs (nI i + 3).toNatClampNeg), .ref o1]) (rest := []) (wr := ((o2, .inl (g 5, 1, .inr (.inr (.inr (.inl fd))))) :: (wM g jo js jp ja jk jt jb un uy uw uq uz us up ua uk ut ub))) X K hs hnc (kL_moveKey l G g ad bd sc tl tat tb cn cf sn sf tn tf vv ov o1 fo ((xs (nI i + 1).toNatClampNeg)) ((xs (nI i + 2).toNatClampNeg)) ((xs (nI i + 3).toNatClampNeg)) _ e1) hd_L_moveKey gL_law_L_moveKey hP hD hS hA hl.1 dL_law_428 rfl rfl ⟨(Nat.le_of_ble_eq_true rfl), (Nat.le_of_ble_eq_true rfl)⟩ rfl (Nat.le_of_ble_eq_true rfl) hce (fun w1 H locs hp hP hD hS => ?_)
    have hp : w1 = _ := hp
    subst hp
    have hP : va_P G vwCl (lwW g ad bd' sc' tl tat tb cn' cf' sn' sf' tn tf vv ov jo js jp ja jk jt jb un uy uw uq uz us up ua uk ut ub o1 (vp_updL fo 0 a.toInt64) o2 fd) H := hP
    have hD : va_D (fun q => s.heap.size ≤ q) (lwW g ad bd' sc' tl tat tb cn' cf' sn' sf' tn tf vv ov jo js jp ja jk jt jb un uy uw uq uz us up ua uk ut ub o1 (vp_updL fo 0 a.toInt64) o2 fd) := hD
    refine lv_istore (lv' := [(6, .int 0), (5, .int (nI i)), (4, .ref o2), (3, .ref o1), (2, .ref jo), (1, .ref (ad 0)), (0, .ref b)]) hx hb dL_law_431 hl (by decide) rfl (fun ls hl => ?_)
    refine lv_aload_n hx hb dL_law_433 rfl (lv_at hl 4 rfl) ?_
    refine lv_aload_n hx hb dL_law_434 rfl (lv_at hl 6 rfl) ?_
    refine lv_iload hx hb dL_law_435 (lv_at hl 1 rfl) ?_
    refine lv_iconst (v := 1) hx hb dL_law_437 (by decide) ?_
    refine lv_iadd hx hb dL_law_438 ?_
    refine va_sld (i := nI i + 1) hx hb hX hbl (Nat.not_le.mpr hbl) hS (show vp_in (nI i + 1) L from lw_in (k := 1) (by omega) hL) dL_law_439 ?_
    refine lv_aload_n hx hb dL_law_440 rfl (lv_at hl 6 rfl) ?_
    refine lv_iload hx hb dL_law_441 (lv_at hl 1 rfl) ?_
    refine lv_iconst (v := 2) hx hb dL_law_443 (by decide) ?_
    refine lv_iadd hx hb dL_law_444 ?_
    refine va_sld (i := nI i + 2) hx hb hX hbl (Nat.not_le.mpr hbl) hS (show vp_in (nI i + 2) L from lw_in (k := 2) (by omega) hL) dL_law_445 ?_
    refine lv_aload_n hx hb dL_law_446 rfl (lv_at hl 6 rfl) ?_
    refine lv_iload hx hb dL_law_447 (lv_at hl 1 rfl) ?_
    refine lv_iconst (v := 3) hx hb dL_law_449 (by decide) ?_
    refine lv_iadd hx hb dL_law_450 ?_
    refine va_sld (i := nI i + 3) hx hb hX hbl (Nat.not_le.mpr hbl) hS (show vp_in (nI i + 3) L from lw_in (k := 3) (by omega) hL) dL_law_451 ?_
    refine rwVf (ci := 4) (As := [.int (xs (nI i + 1).toNatClampNeg), .int (xs (nI i + 2).toNatClampNeg), .int (xs (nI i + 3).toNatClampNeg)]) (rest := []) X K (k_X4_moveKey l G g jo js jp ja jk jt jb un uy uw uq uz us up ua uk ut ub ((xs (nI i + 1).toNatClampNeg)) ((xs (nI i + 2).toNatClampNeg)) ((xs (nI i + 3).toNatClampNeg)) _ e2) hd_X4_moveKey gL_law_X4_moveKey hP hD hS hA foc_M hl.1 dL_law_452 rfl rfl ⟨(Nat.le_of_ble_eq_true rfl), (Nat.le_of_ble_eq_true rfl)⟩ rfl rfl rfl (Nat.le_of_ble_eq_true rfl) hce (fun H locs hP hD hS => ?_)
    have hP : va_P G vwCl (lwW g ad bd' sc' tl tat tb cn' cf' sn' sf' tn tf vv ov jo js jp ja jk jt jb un' uy 0 uq uz us' up' ua' uk ut ub o1 (vp_updL fo 0 a.toInt64) o2 fd) H := hP
    have hD : va_D (fun q => s.heap.size ≤ q) (lwW g ad bd' sc' tl tat tb cn' cf' sn' sf' tn tf vv ov jo js jp ja jk jt jb un' uy 0 uq uz us' up' ua' uk ut ub o1 (vp_updL fo 0 a.toInt64) o2 fd) := hD
    refine lv_istore (lv' := [(7, .int a), (6, .int 0), (5, .int (nI i)), (4, .ref o2), (3, .ref o1), (2, .ref jo), (1, .ref (ad 0)), (0, .ref b)]) hx hb dL_law_455 hl (by decide) rfl (fun ls hl => ?_)
    refine lv_aload_n hx hb dL_law_457 rfl (lv_at hl 5 rfl) ?_
    refine roV (ci := 4) (As := []) (rest := []) X K (k_X4_thrown l G g jo js jp ja jk jt jb un' uy 0 uq uz us' up' ua' uk ut ub _ rfl) hd_X4_thrown gL_law_X4_thrown ((foc_M (M' := [])).sub hP) hl.1 dL_law_458 rfl rfl ⟨(Nat.le_of_ble_eq_true rfl), (Nat.le_of_ble_eq_true rfl)⟩ rfl rfl rfl (Nat.le_of_ble_eq_true rfl) hce ?_
    refine lv_iload hx hb dL_law_461 (lv_at hl 1 rfl) ?_
    refine lv_icmp_eq (tgt := 468) hx hb dL_law_463 (by decide) (fun _ => ?_) (fun h => absurd rfl h)
    refine lv_iload hx hb dL_law_468 (lv_at hl 1 rfl) ?_
    refine lv_if_ne (tgt := 485) hx hb dL_law_470 (by decide) (fun h => absurd rfl h) (fun _ => ?_)
    refine lv_aload_n hx hb dL_law_473 rfl (lv_at hl 4 rfl) ?_
    refine lv_iconst (v := 0) hx hb dL_law_474 (by decide) ?_
    refine va_lald hx hb K.1 hP 8 4 rfl rfl (vp_in_iff.mpr (by decide)) dL_law_475 ?_
    refine lv_iload hx hb dL_law_476 (lv_at hl 0 rfl) ?_
    refine lv_i2l (v := a.toInt64) hx hb dL_law_478 rfl ?_
    refine W.lcmp hx hb dL_law_479 ?_
    refine lv_if_eq (tgt := 485) hx hb dL_law_480 (by decide) (fun _ => ?_) (fun h => absurd (lcm_o _ _) h)
    refine lv_goto (tgt := 1847) hx hb dL_law_485 (by decide) ?_
    exact kk _ _ _ (lwI.mk hP hD hS hSt hRs hTx) (lv_dr hl)
set_option maxHeartbeats 4000000 in
set_option maxRecDepth 100000 in
theorem law_setTangent {l : Launch} {p : Program} {e : Env} {s : State} {m : MethodId} {below : List Frame} {meth : Method} {c : Code} {b L : Nat} {xs : Nat → Int32} {G : va_G} {g : Nat → ClassId} {ad : Nat → Nat} {jo js jp ja jk jt jb o1 o2 : Nat} {H : Heap} {locs : List Loc} {ce sl i : Nat} {ls : Array Slot} {Q : State → Prop} (hce : ce + 1 ≤ 601024 ∧ sl + 6 ≤ 7293034) (hi : i + 5 ≤ L) (E : lwE l p s m meth c b L xs G g) (I : lwI G g ad jo js jp ja jk jt jb o1 o2 s H locs) (hl : lv_has ls 9 (lwL b (ad 0) jo o1 o2 i))
    (kk : ∀ (H1 : Heap) (locs1 : List Loc) (ls1 : Array Slot), lwI G g ad jo js jp ja jk jt jb o1 o2 s H1 locs1 → lv_has ls1 9 (lwL b (ad 0) jo o1 o2 i) → W p l e room_1 s m #[Value.ref b] below meth c H1 locs1 (ce + 1) (sl + 6) Q (F0 m 1847 ls1 [])) : W p l e room_1 s m #[Value.ref b] below meth c H locs ce sl Q (F0 m 488 ls []) := by
  obtain ⟨X, K, hs, hnc, hX, hbl, hL, hf0⟩ := E
  obtain ⟨hx, hb, hml, hr, hown, hts, hk⟩ := id X
  obtain ⟨bd, sc, tl, tat, tb, cn, cf, sn, sf, tn, tf, vv, ov, un, uy, uw, uq, uz, us, up, ua, uk, ut, ub, fo, fd, hP, hD, hS, hSt, hRs, hTx⟩ := I
  have hA : ∀ q : Nat, s.heap.size ≤ q → (fun q => s.heap.size ≤ q) q := fun _ h => h
  have hce0 : ce ≤ 601024 ∧ sl ≤ 7293034 := ⟨by omega, by omega⟩
  have hl : lv_has ls 9 [(5, .int (nI i)), (4, .ref o2), (3, .ref o1), (2, .ref jo), (1, .ref (ad 0)), (0, .ref b)] := hl
  refine lv_aload_n hx hb dL_law_488 rfl (lv_at hl 4 rfl) ?_
  refine lv_aload_n hx hb dL_law_489 rfl (lv_at hl 5 rfl) ?_
  refine lv_iload hx hb dL_law_490 (lv_at hl 0 rfl) ?_
  refine lv_iconst (v := 1) hx hb dL_law_492 (by decide) ?_
  refine lv_iadd hx hb dL_law_493 ?_
  refine va_sld (i := nI i + 1) hx hb hX hbl (Nat.not_le.mpr hbl) hS (show vp_in (nI i + 1) L from lw_in (k := 1) (by omega) hL) dL_law_494 ?_
  refine lv_aload_n hx hb dL_law_495 rfl (lv_at hl 5 rfl) ?_
  refine lv_iload hx hb dL_law_496 (lv_at hl 0 rfl) ?_
  refine lv_iconst (v := 2) hx hb dL_law_498 (by decide) ?_
  refine lv_iadd hx hb dL_law_499 ?_
  refine va_sld (i := nI i + 2) hx hb hX hbl (Nat.not_le.mpr hbl) hS (show vp_in (nI i + 2) L from lw_in (k := 2) (by omega) hL) dL_law_500 ?_
  refine lv_aload_n hx hb dL_law_501 rfl (lv_at hl 5 rfl) ?_
  refine lv_iload hx hb dL_law_502 (lv_at hl 0 rfl) ?_
  refine lv_iconst (v := 3) hx hb dL_law_504 (by decide) ?_
  refine lv_iadd hx hb dL_law_505 ?_
  refine va_sld (i := nI i + 3) hx hb hX hbl (Nat.not_le.mpr hbl) hS (show vp_in (nI i + 3) L from lw_in (k := 3) (by omega) hL) dL_law_506 ?_
  refine lv_aload_n hx hb dL_law_507 rfl (lv_at hl 5 rfl) ?_
  refine lv_iload hx hb dL_law_508 (lv_at hl 0 rfl) ?_
  refine lv_iconst (v := 4) hx hb dL_law_510 (by decide) ?_
  refine lv_iadd hx hb dL_law_511 ?_
  refine va_sld (i := nI i + 4) hx hb hX hbl (Nat.not_le.mpr hbl) hS (show vp_in (nI i + 4) L from lw_in (k := 4) (by omega) hL) dL_law_512 ?_
  refine lv_aload_n hx hb dL_law_513 rfl (lv_at hl 2 rfl) ?_
  rcases R_setTangent (uw := uw) (ua := ua) (up := up) (us := us) (un := un) (sc := sc) bd hSt hRs ((xs (nI i + 1).toNatClampNeg)) ((xs (nI i + 2).toNatClampNeg)) ((xs (nI i + 3).toNatClampNeg)) ((xs (nI i + 4).toNatClampNeg)) with ⟨t, t', ht, e1, e2⟩ | ⟨a, bd', sc', cf', sn', sf', un', us', up', ua', e1, e2, hSt, hRs⟩
  · have htz : 0 < t' ∧ t' < 4 := by omega
    refine lxS (As := [.ref (ad 0), .int (xs (nI i + 1).toNatClampNeg), .int (xs (nI i + 2).toNatClampNeg), .int (xs (nI i + 3).toNatClampNeg), .int (xs (nI i + 4).toNatClampNeg), .ref o1]) (rest := []) (wr := ((o2, .inl (g 5, 1, .inr (.inr (.inr (.inl fd))))) :: (wM g jo js jp ja jk jt jb un uy uw uq uz us up ua uk ut ub))) X K hs hnc (kxL_setTangent l hf0 G g ad bd sc tl tat tb cn cf sn sf tn tf vv ov o1 fo ((xs (nI i + 1).toNatClampNeg)) ((xs (nI i + 2).toNatClampNeg)) ((xs (nI i + 3).toNatClampNeg)) ((xs (nI i + 4).toNatClampNeg)) _ _ ht e1) hd_L_setTangent gL_law_L_setTangent hP hD hS hA hl.1 dL_law_514 rfl rfl ⟨(Nat.le_of_ble_eq_true rfl), (Nat.le_of_ble_eq_true rfl)⟩ rfl (Nat.le_of_ble_eq_true rfl) hce (fun w1 H locs hp hP hD hS => ?_)
    have hp : w1 = _ := hp
    subst hp
    have hP : va_P G vwCl (lwW g ad bd sc tl tat tb cn cf sn sf tn tf vv ov jo js jp ja jk jt jb un uy uw uq uz us up ua uk ut ub o1 fo o2 fd) H := hP
    have hD : va_D (fun q => s.heap.size ≤ q) (lwW g ad bd sc tl tat tb cn cf sn sf tn tf vv ov jo js jp ja jk jt jb un uy uw uq uz us up ua uk ut ub o1 fo o2 fd) := hD
    refine lv_istore (lv' := [(6, .int (nI t')), (5, .int (nI i)), (4, .ref o2), (3, .ref o1), (2, .ref jo), (1, .ref (ad 0)), (0, .ref b)]) hx hb dL_law_517 hl (by decide) rfl (fun ls hl => ?_)
    refine lv_aload_n hx hb dL_law_519 rfl (lv_at hl 4 rfl) ?_
    refine lv_aload_n hx hb dL_law_520 rfl (lv_at hl 6 rfl) ?_
    refine lv_iload hx hb dL_law_521 (lv_at hl 1 rfl) ?_
    refine lv_iconst (v := 1) hx hb dL_law_523 (by decide) ?_
    refine lv_iadd hx hb dL_law_524 ?_
    refine va_sld (i := nI i + 1) hx hb hX hbl (Nat.not_le.mpr hbl) hS (show vp_in (nI i + 1) L from lw_in (k := 1) (by omega) hL) dL_law_525 ?_
    refine lv_aload_n hx hb dL_law_526 rfl (lv_at hl 6 rfl) ?_
    refine lv_iload hx hb dL_law_527 (lv_at hl 1 rfl) ?_
    refine lv_iconst (v := 2) hx hb dL_law_529 (by decide) ?_
    refine lv_iadd hx hb dL_law_530 ?_
    refine va_sld (i := nI i + 2) hx hb hX hbl (Nat.not_le.mpr hbl) hS (show vp_in (nI i + 2) L from lw_in (k := 2) (by omega) hL) dL_law_531 ?_
    refine lv_aload_n hx hb dL_law_532 rfl (lv_at hl 6 rfl) ?_
    refine lv_iload hx hb dL_law_533 (lv_at hl 1 rfl) ?_
    refine lv_iconst (v := 3) hx hb dL_law_535 (by decide) ?_
    refine lv_iadd hx hb dL_law_536 ?_
    refine va_sld (i := nI i + 3) hx hb hX hbl (Nat.not_le.mpr hbl) hS (show vp_in (nI i + 3) L from lw_in (k := 3) (by omega) hL) dL_law_537 ?_
    refine lv_aload_n hx hb dL_law_538 rfl (lv_at hl 6 rfl) ?_
    refine lv_iload hx hb dL_law_539 (lv_at hl 1 rfl) ?_
    refine lv_iconst (v := 4) hx hb dL_law_541 (by decide) ?_
    refine lv_iadd hx hb dL_law_542 ?_
    refine va_sld (i := nI i + 4) hx hb hX hbl (Nat.not_le.mpr hbl) hS (show vp_in (nI i + 4) L from lw_in (k := 4) (by omega) hL) dL_law_543 ?_
    refine rwVf (ci := 4) (As := [.int (xs (nI i + 1).toNatClampNeg), .int (xs (nI i + 2).toNatClampNeg), .int (xs (nI i + 3).toNatClampNeg), .int (xs (nI i + 4).toNatClampNeg)]) (rest := []) X K (k_X4_setTangent l G g jo js jp ja jk jt jb un uy uw uq uz us up ua uk ut ub ((xs (nI i + 1).toNatClampNeg)) ((xs (nI i + 2).toNatClampNeg)) ((xs (nI i + 3).toNatClampNeg)) ((xs (nI i + 4).toNatClampNeg)) _ e2) hd_X4_setTangent gL_law_X4_setTangent hP hD hS hA foc_M hl.1 dL_law_544 rfl rfl ⟨(Nat.le_of_ble_eq_true rfl), (Nat.le_of_ble_eq_true rfl)⟩ rfl rfl rfl (Nat.le_of_ble_eq_true rfl) hce (fun H locs hP hD hS => ?_)
    have hP : va_P G vwCl (lwW g ad bd sc tl tat tb cn cf sn sf tn tf vv ov jo js jp ja jk jt jb un uy (nI t') uq uz us up ua uk ut ub o1 fo o2 fd) H := hP
    have hD : va_D (fun q => s.heap.size ≤ q) (lwW g ad bd sc tl tat tb cn cf sn sf tn tf vv ov jo js jp ja jk jt jb un uy (nI t') uq uz us up ua uk ut ub o1 fo o2 fd) := hD
    refine lv_istore (lv' := [(7, .int 0), (6, .int (nI t')), (5, .int (nI i)), (4, .ref o2), (3, .ref o1), (2, .ref jo), (1, .ref (ad 0)), (0, .ref b)]) hx hb dL_law_547 hl (by decide) rfl (fun ls hl => ?_)
    refine lv_aload_n hx hb dL_law_549 rfl (lv_at hl 5 rfl) ?_
    refine roV (ci := 4) (As := []) (rest := []) X K (k_X4_thrown l G g jo js jp ja jk jt jb un uy (nI t') uq uz us up ua uk ut ub _ rfl) hd_X4_thrown gL_law_X4_thrown ((foc_M (M' := [])).sub hP) hl.1 dL_law_550 rfl rfl ⟨(Nat.le_of_ble_eq_true rfl), (Nat.le_of_ble_eq_true rfl)⟩ rfl rfl rfl (Nat.le_of_ble_eq_true rfl) hce ?_
    refine lv_iload hx hb dL_law_553 (lv_at hl 1 rfl) ?_
    refine lv_icmp_eq (tgt := 560) hx hb dL_law_555 (by decide) (fun _ => ?_) (fun h => absurd rfl h)
    refine lv_iload hx hb dL_law_560 (lv_at hl 1 rfl) ?_
    refine lv_if_ne (tgt := 577) hx hb dL_law_562 (by decide) (fun _ => ?_) (fun h => absurd h (lw_nz htz))
    refine lv_goto (tgt := 1847) hx hb dL_law_577 (by decide) ?_
    exact kk _ _ _ (lwI.mk hP hD hS hSt hRs hTx) (lv_dr hl)
  · refine lxS (As := [.ref (ad 0), .int (xs (nI i + 1).toNatClampNeg), .int (xs (nI i + 2).toNatClampNeg), .int (xs (nI i + 3).toNatClampNeg), .int (xs (nI i + 4).toNatClampNeg), .ref o1]) (rest := []) (wr := ((o2, .inl (g 5, 1, .inr (.inr (.inr (.inl fd))))) :: (wM g jo js jp ja jk jt jb un uy uw uq uz us up ua uk ut ub))) X K hs hnc (kL_setTangent l G g ad bd sc tl tat tb cn cf sn sf tn tf vv ov o1 fo ((xs (nI i + 1).toNatClampNeg)) ((xs (nI i + 2).toNatClampNeg)) ((xs (nI i + 3).toNatClampNeg)) ((xs (nI i + 4).toNatClampNeg)) _ e1) hd_L_setTangent gL_law_L_setTangent hP hD hS hA hl.1 dL_law_514 rfl rfl ⟨(Nat.le_of_ble_eq_true rfl), (Nat.le_of_ble_eq_true rfl)⟩ rfl (Nat.le_of_ble_eq_true rfl) hce (fun w1 H locs hp hP hD hS => ?_)
    have hp : w1 = _ := hp
    subst hp
    have hP : va_P G vwCl (lwW g ad bd' sc' tl tat tb cn cf' sn' sf' tn tf vv ov jo js jp ja jk jt jb un uy uw uq uz us up ua uk ut ub o1 (vp_updL fo 0 a.toInt64) o2 fd) H := hP
    have hD : va_D (fun q => s.heap.size ≤ q) (lwW g ad bd' sc' tl tat tb cn cf' sn' sf' tn tf vv ov jo js jp ja jk jt jb un uy uw uq uz us up ua uk ut ub o1 (vp_updL fo 0 a.toInt64) o2 fd) := hD
    refine lv_istore (lv' := [(6, .int 0), (5, .int (nI i)), (4, .ref o2), (3, .ref o1), (2, .ref jo), (1, .ref (ad 0)), (0, .ref b)]) hx hb dL_law_517 hl (by decide) rfl (fun ls hl => ?_)
    refine lv_aload_n hx hb dL_law_519 rfl (lv_at hl 4 rfl) ?_
    refine lv_aload_n hx hb dL_law_520 rfl (lv_at hl 6 rfl) ?_
    refine lv_iload hx hb dL_law_521 (lv_at hl 1 rfl) ?_
    refine lv_iconst (v := 1) hx hb dL_law_523 (by decide) ?_
    refine lv_iadd hx hb dL_law_524 ?_
    refine va_sld (i := nI i + 1) hx hb hX hbl (Nat.not_le.mpr hbl) hS (show vp_in (nI i + 1) L from lw_in (k := 1) (by omega) hL) dL_law_525 ?_
    refine lv_aload_n hx hb dL_law_526 rfl (lv_at hl 6 rfl) ?_
    refine lv_iload hx hb dL_law_527 (lv_at hl 1 rfl) ?_
    refine lv_iconst (v := 2) hx hb dL_law_529 (by decide) ?_
    refine lv_iadd hx hb dL_law_530 ?_
    refine va_sld (i := nI i + 2) hx hb hX hbl (Nat.not_le.mpr hbl) hS (show vp_in (nI i + 2) L from lw_in (k := 2) (by omega) hL) dL_law_531 ?_
    refine lv_aload_n hx hb dL_law_532 rfl (lv_at hl 6 rfl) ?_
    refine lv_iload hx hb dL_law_533 (lv_at hl 1 rfl) ?_
    refine lv_iconst (v := 3) hx hb dL_law_535 (by decide) ?_
    refine lv_iadd hx hb dL_law_536 ?_
    refine va_sld (i := nI i + 3) hx hb hX hbl (Nat.not_le.mpr hbl) hS (show vp_in (nI i + 3) L from lw_in (k := 3) (by omega) hL) dL_law_537 ?_
    refine lv_aload_n hx hb dL_law_538 rfl (lv_at hl 6 rfl) ?_
    refine lv_iload hx hb dL_law_539 (lv_at hl 1 rfl) ?_
    refine lv_iconst (v := 4) hx hb dL_law_541 (by decide) ?_
    refine lv_iadd hx hb dL_law_542 ?_
    refine va_sld (i := nI i + 4) hx hb hX hbl (Nat.not_le.mpr hbl) hS (show vp_in (nI i + 4) L from lw_in (k := 4) (by omega) hL) dL_law_543 ?_
    refine rwVf (ci := 4) (As := [.int (xs (nI i + 1).toNatClampNeg), .int (xs (nI i + 2).toNatClampNeg), .int (xs (nI i + 3).toNatClampNeg), .int (xs (nI i + 4).toNatClampNeg)]) (rest := []) X K (k_X4_setTangent l G g jo js jp ja jk jt jb un uy uw uq uz us up ua uk ut ub ((xs (nI i + 1).toNatClampNeg)) ((xs (nI i + 2).toNatClampNeg)) ((xs (nI i + 3).toNatClampNeg)) ((xs (nI i + 4).toNatClampNeg)) _ e2) hd_X4_setTangent gL_law_X4_setTangent hP hD hS hA foc_M hl.1 dL_law_544 rfl rfl ⟨(Nat.le_of_ble_eq_true rfl), (Nat.le_of_ble_eq_true rfl)⟩ rfl rfl rfl (Nat.le_of_ble_eq_true rfl) hce (fun H locs hP hD hS => ?_)
    have hP : va_P G vwCl (lwW g ad bd' sc' tl tat tb cn cf' sn' sf' tn tf vv ov jo js jp ja jk jt jb un' uy 0 uq uz us' up' ua' uk ut ub o1 (vp_updL fo 0 a.toInt64) o2 fd) H := hP
    have hD : va_D (fun q => s.heap.size ≤ q) (lwW g ad bd' sc' tl tat tb cn cf' sn' sf' tn tf vv ov jo js jp ja jk jt jb un' uy 0 uq uz us' up' ua' uk ut ub o1 (vp_updL fo 0 a.toInt64) o2 fd) := hD
    refine lv_istore (lv' := [(7, .int a), (6, .int 0), (5, .int (nI i)), (4, .ref o2), (3, .ref o1), (2, .ref jo), (1, .ref (ad 0)), (0, .ref b)]) hx hb dL_law_547 hl (by decide) rfl (fun ls hl => ?_)
    refine lv_aload_n hx hb dL_law_549 rfl (lv_at hl 5 rfl) ?_
    refine roV (ci := 4) (As := []) (rest := []) X K (k_X4_thrown l G g jo js jp ja jk jt jb un' uy 0 uq uz us' up' ua' uk ut ub _ rfl) hd_X4_thrown gL_law_X4_thrown ((foc_M (M' := [])).sub hP) hl.1 dL_law_550 rfl rfl ⟨(Nat.le_of_ble_eq_true rfl), (Nat.le_of_ble_eq_true rfl)⟩ rfl rfl rfl (Nat.le_of_ble_eq_true rfl) hce ?_
    refine lv_iload hx hb dL_law_553 (lv_at hl 1 rfl) ?_
    refine lv_icmp_eq (tgt := 560) hx hb dL_law_555 (by decide) (fun _ => ?_) (fun h => absurd rfl h)
    refine lv_iload hx hb dL_law_560 (lv_at hl 1 rfl) ?_
    refine lv_if_ne (tgt := 577) hx hb dL_law_562 (by decide) (fun h => absurd rfl h) (fun _ => ?_)
    refine lv_aload_n hx hb dL_law_565 rfl (lv_at hl 4 rfl) ?_
    refine lv_iconst (v := 0) hx hb dL_law_566 (by decide) ?_
    refine va_lald hx hb K.1 hP 8 4 rfl rfl (vp_in_iff.mpr (by decide)) dL_law_567 ?_
    refine lv_iload hx hb dL_law_568 (lv_at hl 0 rfl) ?_
    refine lv_i2l (v := a.toInt64) hx hb dL_law_570 rfl ?_
    refine W.lcmp hx hb dL_law_571 ?_
    refine lv_if_eq (tgt := 577) hx hb dL_law_572 (by decide) (fun _ => ?_) (fun h => absurd (lcm_o _ _) h)
    refine lv_goto (tgt := 1847) hx hb dL_law_577 (by decide) ?_
    exact kk _ _ _ (lwI.mk hP hD hS hSt hRs hTx) (lv_dr hl)
set_option maxHeartbeats 4000000 in
set_option maxRecDepth 100000 in
theorem law_bit_599 {l : Launch} {p : Program} {e : Env} {s : State} {m : MethodId} {args : Array Value} {below : List Frame} {meth : Method} {c : Code} {H : Heap} {locs : List Loc} {cells slots : Nat} {R : Room} {ls : Array Slot} {Q : State → Prop} {rest : List Value} {x : Int32} (hx : p.tables.exec = Jvm.exec) (hb : c.code = cL_law) (kk : W p l e R s m args below meth c H locs cells slots Q (F0 m 607 ls (.int (if x = 0 then 0 else 1) :: rest))) : W p l e R s m args below meth c H locs cells slots Q (F0 m 599 ls (.int x :: rest)) := by
  refine lv_if_eq (tgt := 606) hx hb dL_law_599 (by decide) (fun h => ?_) (fun h => ?_)
  · refine lv_iconst (v := 0) hx hb dL_law_606 (by decide) ?_
    rw [if_pos h] at kk
    exact kk
  · refine lv_iconst (v := 1) hx hb dL_law_602 (by decide) ?_
    refine lv_goto (tgt := 607) hx hb dL_law_603 (by decide) ?_
    rw [if_neg h] at kk
    exact kk
set_option maxHeartbeats 4000000 in
set_option maxRecDepth 100000 in
theorem law_bit_632 {l : Launch} {p : Program} {e : Env} {s : State} {m : MethodId} {args : Array Value} {below : List Frame} {meth : Method} {c : Code} {H : Heap} {locs : List Loc} {cells slots : Nat} {R : Room} {ls : Array Slot} {Q : State → Prop} {rest : List Value} {x : Int32} (hx : p.tables.exec = Jvm.exec) (hb : c.code = cL_law) (kk : W p l e R s m args below meth c H locs cells slots Q (F0 m 640 ls (.int (if x = 0 then 0 else 1) :: rest))) : W p l e R s m args below meth c H locs cells slots Q (F0 m 632 ls (.int x :: rest)) := by
  refine lv_if_eq (tgt := 639) hx hb dL_law_632 (by decide) (fun h => ?_) (fun h => ?_)
  · refine lv_iconst (v := 0) hx hb dL_law_639 (by decide) ?_
    rw [if_pos h] at kk
    exact kk
  · refine lv_iconst (v := 1) hx hb dL_law_635 (by decide) ?_
    refine lv_goto (tgt := 640) hx hb dL_law_636 (by decide) ?_
    rw [if_neg h] at kk
    exact kk
set_option maxHeartbeats 4000000 in
set_option maxRecDepth 100000 in
theorem law_lock {l : Launch} {p : Program} {e : Env} {s : State} {m : MethodId} {below : List Frame} {meth : Method} {c : Code} {b L : Nat} {xs : Nat → Int32} {G : va_G} {g : Nat → ClassId} {ad : Nat → Nat} {jo js jp ja jk jt jb o1 o2 : Nat} {H : Heap} {locs : List Loc} {ce sl i : Nat} {ls : Array Slot} {Q : State → Prop} (hce : ce + 1 ≤ 601024 ∧ sl + 6 ≤ 7293034) (hi : i + 5 ≤ L) (E : lwE l p s m meth c b L xs G g) (I : lwI G g ad jo js jp ja jk jt jb o1 o2 s H locs) (hl : lv_has ls 9 (lwL b (ad 0) jo o1 o2 i))
    (kk : ∀ (H1 : Heap) (locs1 : List Loc) (ls1 : Array Slot), lwI G g ad jo js jp ja jk jt jb o1 o2 s H1 locs1 → lv_has ls1 9 (lwL b (ad 0) jo o1 o2 i) → W p l e room_1 s m #[Value.ref b] below meth c H1 locs1 (ce + 1) (sl + 6) Q (F0 m 1847 ls1 [])) : W p l e room_1 s m #[Value.ref b] below meth c H locs ce sl Q (F0 m 580 ls []) := by
  obtain ⟨X, K, hs, hnc, hX, hbl, hL, hf0⟩ := E
  obtain ⟨hx, hb, hml, hr, hown, hts, hk⟩ := id X
  obtain ⟨bd, sc, tl, tat, tb, cn, cf, sn, sf, tn, tf, vv, ov, un, uy, uw, uq, uz, us, up, ua, uk, ut, ub, fo, fd, hP, hD, hS, hSt, hRs, hTx⟩ := I
  have hA : ∀ q : Nat, s.heap.size ≤ q → (fun q => s.heap.size ≤ q) q := fun _ h => h
  have hce0 : ce ≤ 601024 ∧ sl ≤ 7293034 := ⟨by omega, by omega⟩
  have hl : lv_has ls 9 [(5, .int (nI i)), (4, .ref o2), (3, .ref o1), (2, .ref jo), (1, .ref (ad 0)), (0, .ref b)] := hl
  refine lv_aload_n hx hb dL_law_580 rfl (lv_at hl 4 rfl) ?_
  refine lv_aload_n hx hb dL_law_581 rfl (lv_at hl 5 rfl) ?_
  refine lv_iload hx hb dL_law_582 (lv_at hl 0 rfl) ?_
  refine lv_iconst (v := 1) hx hb dL_law_584 (by decide) ?_
  refine lv_iadd hx hb dL_law_585 ?_
  refine va_sld (i := nI i + 1) hx hb hX hbl (Nat.not_le.mpr hbl) hS (show vp_in (nI i + 1) L from lw_in (k := 1) (by omega) hL) dL_law_586 ?_
  refine lv_aload_n hx hb dL_law_587 rfl (lv_at hl 5 rfl) ?_
  refine lv_iload hx hb dL_law_588 (lv_at hl 0 rfl) ?_
  refine lv_iconst (v := 2) hx hb dL_law_590 (by decide) ?_
  refine lv_iadd hx hb dL_law_591 ?_
  refine va_sld (i := nI i + 2) hx hb hX hbl (Nat.not_le.mpr hbl) hS (show vp_in (nI i + 2) L from lw_in (k := 2) (by omega) hL) dL_law_592 ?_
  refine lv_aload_n hx hb dL_law_593 rfl (lv_at hl 5 rfl) ?_
  refine lv_iload hx hb dL_law_594 (lv_at hl 0 rfl) ?_
  refine lv_iconst (v := 3) hx hb dL_law_596 (by decide) ?_
  refine lv_iadd hx hb dL_law_597 ?_
  refine va_sld (i := nI i + 3) hx hb hX hbl (Nat.not_le.mpr hbl) hS (show vp_in (nI i + 3) L from lw_in (k := 3) (by omega) hL) dL_law_598 ?_
  refine law_bit_599 hx hb ?_
  refine lv_aload_n hx hb dL_law_607 rfl (lv_at hl 2 rfl) ?_
  rcases R_lock (uw := uw) (ua := ua) (up := up) (us := us) (un := un) (sc := sc) bd hSt hRs ((xs (nI i + 1).toNatClampNeg)) ((xs (nI i + 2).toNatClampNeg)) ((if (xs (nI i + 3).toNatClampNeg) = 0 then 0 else 1)) with ⟨t, t', ht, e1, e2⟩ | ⟨a, bd', sc', cf', sn', sf', un', us', up', ua', e1, e2, hSt, hRs⟩
  · have htz : 0 < t' ∧ t' < 4 := by omega
    refine lxS (As := [.ref (ad 0), .int (xs (nI i + 1).toNatClampNeg), .int (xs (nI i + 2).toNatClampNeg), .int (if (xs (nI i + 3).toNatClampNeg) = 0 then 0 else 1), .ref o1]) (rest := []) (wr := ((o2, .inl (g 5, 1, .inr (.inr (.inr (.inl fd))))) :: (wM g jo js jp ja jk jt jb un uy uw uq uz us up ua uk ut ub))) X K hs hnc (kxL_lock l hf0 G g ad bd sc tl tat tb cn cf sn sf tn tf vv ov o1 fo ((xs (nI i + 1).toNatClampNeg)) ((xs (nI i + 2).toNatClampNeg)) ((if (xs (nI i + 3).toNatClampNeg) = 0 then 0 else 1)) _ _ ht e1) hd_L_lock gL_law_L_lock hP hD hS hA hl.1 dL_law_608 rfl rfl ⟨(Nat.le_of_ble_eq_true rfl), (Nat.le_of_ble_eq_true rfl)⟩ rfl (Nat.le_of_ble_eq_true rfl) hce (fun w1 H locs hp hP hD hS => ?_)
    have hp : w1 = _ := hp
    subst hp
    have hP : va_P G vwCl (lwW g ad bd sc tl tat tb cn cf sn sf tn tf vv ov jo js jp ja jk jt jb un uy uw uq uz us up ua uk ut ub o1 fo o2 fd) H := hP
    have hD : va_D (fun q => s.heap.size ≤ q) (lwW g ad bd sc tl tat tb cn cf sn sf tn tf vv ov jo js jp ja jk jt jb un uy uw uq uz us up ua uk ut ub o1 fo o2 fd) := hD
    refine lv_istore (lv' := [(6, .int (nI t')), (5, .int (nI i)), (4, .ref o2), (3, .ref o1), (2, .ref jo), (1, .ref (ad 0)), (0, .ref b)]) hx hb dL_law_611 hl (by decide) rfl (fun ls hl => ?_)
    refine lv_aload_n hx hb dL_law_613 rfl (lv_at hl 4 rfl) ?_
    refine lv_aload_n hx hb dL_law_614 rfl (lv_at hl 6 rfl) ?_
    refine lv_iload hx hb dL_law_615 (lv_at hl 1 rfl) ?_
    refine lv_iconst (v := 1) hx hb dL_law_617 (by decide) ?_
    refine lv_iadd hx hb dL_law_618 ?_
    refine va_sld (i := nI i + 1) hx hb hX hbl (Nat.not_le.mpr hbl) hS (show vp_in (nI i + 1) L from lw_in (k := 1) (by omega) hL) dL_law_619 ?_
    refine lv_aload_n hx hb dL_law_620 rfl (lv_at hl 6 rfl) ?_
    refine lv_iload hx hb dL_law_621 (lv_at hl 1 rfl) ?_
    refine lv_iconst (v := 2) hx hb dL_law_623 (by decide) ?_
    refine lv_iadd hx hb dL_law_624 ?_
    refine va_sld (i := nI i + 2) hx hb hX hbl (Nat.not_le.mpr hbl) hS (show vp_in (nI i + 2) L from lw_in (k := 2) (by omega) hL) dL_law_625 ?_
    refine lv_aload_n hx hb dL_law_626 rfl (lv_at hl 6 rfl) ?_
    refine lv_iload hx hb dL_law_627 (lv_at hl 1 rfl) ?_
    refine lv_iconst (v := 3) hx hb dL_law_629 (by decide) ?_
    refine lv_iadd hx hb dL_law_630 ?_
    refine va_sld (i := nI i + 3) hx hb hX hbl (Nat.not_le.mpr hbl) hS (show vp_in (nI i + 3) L from lw_in (k := 3) (by omega) hL) dL_law_631 ?_
    refine law_bit_632 hx hb ?_
    refine rwVf (ci := 4) (As := [.int (xs (nI i + 1).toNatClampNeg), .int (xs (nI i + 2).toNatClampNeg), .int (if (xs (nI i + 3).toNatClampNeg) = 0 then 0 else 1)]) (rest := []) X K (k_X4_lock l G g jo js jp ja jk jt jb un uy uw uq uz us up ua uk ut ub ((xs (nI i + 1).toNatClampNeg)) ((xs (nI i + 2).toNatClampNeg)) ((if (xs (nI i + 3).toNatClampNeg) = 0 then 0 else 1)) _ e2) hd_X4_lock gL_law_X4_lock hP hD hS hA foc_M hl.1 dL_law_640 rfl rfl ⟨(Nat.le_of_ble_eq_true rfl), (Nat.le_of_ble_eq_true rfl)⟩ rfl rfl rfl (Nat.le_of_ble_eq_true rfl) hce (fun H locs hP hD hS => ?_)
    have hP : va_P G vwCl (lwW g ad bd sc tl tat tb cn cf sn sf tn tf vv ov jo js jp ja jk jt jb un uy (nI t') uq uz us up ua uk ut ub o1 fo o2 fd) H := hP
    have hD : va_D (fun q => s.heap.size ≤ q) (lwW g ad bd sc tl tat tb cn cf sn sf tn tf vv ov jo js jp ja jk jt jb un uy (nI t') uq uz us up ua uk ut ub o1 fo o2 fd) := hD
    refine lv_istore (lv' := [(7, .int 0), (6, .int (nI t')), (5, .int (nI i)), (4, .ref o2), (3, .ref o1), (2, .ref jo), (1, .ref (ad 0)), (0, .ref b)]) hx hb dL_law_643 hl (by decide) rfl (fun ls hl => ?_)
    refine lv_aload_n hx hb dL_law_645 rfl (lv_at hl 5 rfl) ?_
    refine roV (ci := 4) (As := []) (rest := []) X K (k_X4_thrown l G g jo js jp ja jk jt jb un uy (nI t') uq uz us up ua uk ut ub _ rfl) hd_X4_thrown gL_law_X4_thrown ((foc_M (M' := [])).sub hP) hl.1 dL_law_646 rfl rfl ⟨(Nat.le_of_ble_eq_true rfl), (Nat.le_of_ble_eq_true rfl)⟩ rfl rfl rfl (Nat.le_of_ble_eq_true rfl) hce ?_
    refine lv_iload hx hb dL_law_649 (lv_at hl 1 rfl) ?_
    refine lv_icmp_eq (tgt := 656) hx hb dL_law_651 (by decide) (fun _ => ?_) (fun h => absurd rfl h)
    refine lv_iload hx hb dL_law_656 (lv_at hl 1 rfl) ?_
    refine lv_if_ne (tgt := 673) hx hb dL_law_658 (by decide) (fun _ => ?_) (fun h => absurd h (lw_nz htz))
    refine lv_goto (tgt := 1847) hx hb dL_law_673 (by decide) ?_
    exact kk _ _ _ (lwI.mk hP hD hS hSt hRs hTx) (lv_dr hl)
  · refine lxS (As := [.ref (ad 0), .int (xs (nI i + 1).toNatClampNeg), .int (xs (nI i + 2).toNatClampNeg), .int (if (xs (nI i + 3).toNatClampNeg) = 0 then 0 else 1), .ref o1]) (rest := []) (wr := ((o2, .inl (g 5, 1, .inr (.inr (.inr (.inl fd))))) :: (wM g jo js jp ja jk jt jb un uy uw uq uz us up ua uk ut ub))) X K hs hnc (kL_lock l G g ad bd sc tl tat tb cn cf sn sf tn tf vv ov o1 fo ((xs (nI i + 1).toNatClampNeg)) ((xs (nI i + 2).toNatClampNeg)) ((if (xs (nI i + 3).toNatClampNeg) = 0 then 0 else 1)) _ e1) hd_L_lock gL_law_L_lock hP hD hS hA hl.1 dL_law_608 rfl rfl ⟨(Nat.le_of_ble_eq_true rfl), (Nat.le_of_ble_eq_true rfl)⟩ rfl (Nat.le_of_ble_eq_true rfl) hce (fun w1 H locs hp hP hD hS => ?_)
    have hp : w1 = _ := hp
    subst hp
    have hP : va_P G vwCl (lwW g ad bd' sc' tl tat tb cn cf' sn' sf' tn tf vv ov jo js jp ja jk jt jb un uy uw uq uz us up ua uk ut ub o1 (vp_updL fo 0 a.toInt64) o2 fd) H := hP
    have hD : va_D (fun q => s.heap.size ≤ q) (lwW g ad bd' sc' tl tat tb cn cf' sn' sf' tn tf vv ov jo js jp ja jk jt jb un uy uw uq uz us up ua uk ut ub o1 (vp_updL fo 0 a.toInt64) o2 fd) := hD
    refine lv_istore (lv' := [(6, .int 0), (5, .int (nI i)), (4, .ref o2), (3, .ref o1), (2, .ref jo), (1, .ref (ad 0)), (0, .ref b)]) hx hb dL_law_611 hl (by decide) rfl (fun ls hl => ?_)
    refine lv_aload_n hx hb dL_law_613 rfl (lv_at hl 4 rfl) ?_
    refine lv_aload_n hx hb dL_law_614 rfl (lv_at hl 6 rfl) ?_
    refine lv_iload hx hb dL_law_615 (lv_at hl 1 rfl) ?_
    refine lv_iconst (v := 1) hx hb dL_law_617 (by decide) ?_
    refine lv_iadd hx hb dL_law_618 ?_
    refine va_sld (i := nI i + 1) hx hb hX hbl (Nat.not_le.mpr hbl) hS (show vp_in (nI i + 1) L from lw_in (k := 1) (by omega) hL) dL_law_619 ?_
    refine lv_aload_n hx hb dL_law_620 rfl (lv_at hl 6 rfl) ?_
    refine lv_iload hx hb dL_law_621 (lv_at hl 1 rfl) ?_
    refine lv_iconst (v := 2) hx hb dL_law_623 (by decide) ?_
    refine lv_iadd hx hb dL_law_624 ?_
    refine va_sld (i := nI i + 2) hx hb hX hbl (Nat.not_le.mpr hbl) hS (show vp_in (nI i + 2) L from lw_in (k := 2) (by omega) hL) dL_law_625 ?_
    refine lv_aload_n hx hb dL_law_626 rfl (lv_at hl 6 rfl) ?_
    refine lv_iload hx hb dL_law_627 (lv_at hl 1 rfl) ?_
    refine lv_iconst (v := 3) hx hb dL_law_629 (by decide) ?_
    refine lv_iadd hx hb dL_law_630 ?_
    refine va_sld (i := nI i + 3) hx hb hX hbl (Nat.not_le.mpr hbl) hS (show vp_in (nI i + 3) L from lw_in (k := 3) (by omega) hL) dL_law_631 ?_
    refine law_bit_632 hx hb ?_
    refine rwVf (ci := 4) (As := [.int (xs (nI i + 1).toNatClampNeg), .int (xs (nI i + 2).toNatClampNeg), .int (if (xs (nI i + 3).toNatClampNeg) = 0 then 0 else 1)]) (rest := []) X K (k_X4_lock l G g jo js jp ja jk jt jb un uy uw uq uz us up ua uk ut ub ((xs (nI i + 1).toNatClampNeg)) ((xs (nI i + 2).toNatClampNeg)) ((if (xs (nI i + 3).toNatClampNeg) = 0 then 0 else 1)) _ e2) hd_X4_lock gL_law_X4_lock hP hD hS hA foc_M hl.1 dL_law_640 rfl rfl ⟨(Nat.le_of_ble_eq_true rfl), (Nat.le_of_ble_eq_true rfl)⟩ rfl rfl rfl (Nat.le_of_ble_eq_true rfl) hce (fun H locs hP hD hS => ?_)
    have hP : va_P G vwCl (lwW g ad bd' sc' tl tat tb cn cf' sn' sf' tn tf vv ov jo js jp ja jk jt jb un' uy 0 uq uz us' up' ua' uk ut ub o1 (vp_updL fo 0 a.toInt64) o2 fd) H := hP
    have hD : va_D (fun q => s.heap.size ≤ q) (lwW g ad bd' sc' tl tat tb cn cf' sn' sf' tn tf vv ov jo js jp ja jk jt jb un' uy 0 uq uz us' up' ua' uk ut ub o1 (vp_updL fo 0 a.toInt64) o2 fd) := hD
    refine lv_istore (lv' := [(7, .int a), (6, .int 0), (5, .int (nI i)), (4, .ref o2), (3, .ref o1), (2, .ref jo), (1, .ref (ad 0)), (0, .ref b)]) hx hb dL_law_643 hl (by decide) rfl (fun ls hl => ?_)
    refine lv_aload_n hx hb dL_law_645 rfl (lv_at hl 5 rfl) ?_
    refine roV (ci := 4) (As := []) (rest := []) X K (k_X4_thrown l G g jo js jp ja jk jt jb un' uy 0 uq uz us' up' ua' uk ut ub _ rfl) hd_X4_thrown gL_law_X4_thrown ((foc_M (M' := [])).sub hP) hl.1 dL_law_646 rfl rfl ⟨(Nat.le_of_ble_eq_true rfl), (Nat.le_of_ble_eq_true rfl)⟩ rfl rfl rfl (Nat.le_of_ble_eq_true rfl) hce ?_
    refine lv_iload hx hb dL_law_649 (lv_at hl 1 rfl) ?_
    refine lv_icmp_eq (tgt := 656) hx hb dL_law_651 (by decide) (fun _ => ?_) (fun h => absurd rfl h)
    refine lv_iload hx hb dL_law_656 (lv_at hl 1 rfl) ?_
    refine lv_if_ne (tgt := 673) hx hb dL_law_658 (by decide) (fun h => absurd rfl h) (fun _ => ?_)
    refine lv_aload_n hx hb dL_law_661 rfl (lv_at hl 4 rfl) ?_
    refine lv_iconst (v := 0) hx hb dL_law_662 (by decide) ?_
    refine va_lald hx hb K.1 hP 8 4 rfl rfl (vp_in_iff.mpr (by decide)) dL_law_663 ?_
    refine lv_iload hx hb dL_law_664 (lv_at hl 0 rfl) ?_
    refine lv_i2l (v := a.toInt64) hx hb dL_law_666 rfl ?_
    refine W.lcmp hx hb dL_law_667 ?_
    refine lv_if_eq (tgt := 673) hx hb dL_law_668 (by decide) (fun _ => ?_) (fun h => absurd (lcm_o _ _) h)
    refine lv_goto (tgt := 1847) hx hb dL_law_673 (by decide) ?_
    exact kk _ _ _ (lwI.mk hP hD hS hSt hRs hTx) (lv_dr hl)
set_option maxHeartbeats 4000000 in
set_option maxRecDepth 100000 in
theorem law_stretch {l : Launch} {p : Program} {e : Env} {s : State} {m : MethodId} {below : List Frame} {meth : Method} {c : Code} {b L : Nat} {xs : Nat → Int32} {G : va_G} {g : Nat → ClassId} {ad : Nat → Nat} {jo js jp ja jk jt jb o1 o2 : Nat} {H : Heap} {locs : List Loc} {ce sl i : Nat} {ls : Array Slot} {Q : State → Prop} (hce : ce + 1 ≤ 601024 ∧ sl + 6 ≤ 7293034) (hi : i + 5 ≤ L) (E : lwE l p s m meth c b L xs G g) (I : lwI G g ad jo js jp ja jk jt jb o1 o2 s H locs) (hl : lv_has ls 9 (lwL b (ad 0) jo o1 o2 i))
    (kk : ∀ (H1 : Heap) (locs1 : List Loc) (ls1 : Array Slot), lwI G g ad jo js jp ja jk jt jb o1 o2 s H1 locs1 → lv_has ls1 9 (lwL b (ad 0) jo o1 o2 i) → W p l e room_1 s m #[Value.ref b] below meth c H1 locs1 (ce + 1) (sl + 6) Q (F0 m 1847 ls1 [])) : W p l e room_1 s m #[Value.ref b] below meth c H locs ce sl Q (F0 m 676 ls []) := by
  obtain ⟨X, K, hs, hnc, hX, hbl, hL, hf0⟩ := E
  obtain ⟨hx, hb, hml, hr, hown, hts, hk⟩ := id X
  obtain ⟨bd, sc, tl, tat, tb, cn, cf, sn, sf, tn, tf, vv, ov, un, uy, uw, uq, uz, us, up, ua, uk, ut, ub, fo, fd, hP, hD, hS, hSt, hRs, hTx⟩ := I
  have hA : ∀ q : Nat, s.heap.size ≤ q → (fun q => s.heap.size ≤ q) q := fun _ h => h
  have hce0 : ce ≤ 601024 ∧ sl ≤ 7293034 := ⟨by omega, by omega⟩
  have hl : lv_has ls 9 [(5, .int (nI i)), (4, .ref o2), (3, .ref o1), (2, .ref jo), (1, .ref (ad 0)), (0, .ref b)] := hl
  refine lv_aload_n hx hb dL_law_676 rfl (lv_at hl 4 rfl) ?_
  refine lv_aload_n hx hb dL_law_677 rfl (lv_at hl 5 rfl) ?_
  refine lv_iload hx hb dL_law_678 (lv_at hl 0 rfl) ?_
  refine lv_iconst (v := 1) hx hb dL_law_680 (by decide) ?_
  refine lv_iadd hx hb dL_law_681 ?_
  refine va_sld (i := nI i + 1) hx hb hX hbl (Nat.not_le.mpr hbl) hS (show vp_in (nI i + 1) L from lw_in (k := 1) (by omega) hL) dL_law_682 ?_
  refine lv_aload_n hx hb dL_law_683 rfl (lv_at hl 5 rfl) ?_
  refine lv_iload hx hb dL_law_684 (lv_at hl 0 rfl) ?_
  refine lv_iconst (v := 2) hx hb dL_law_686 (by decide) ?_
  refine lv_iadd hx hb dL_law_687 ?_
  refine va_sld (i := nI i + 2) hx hb hX hbl (Nat.not_le.mpr hbl) hS (show vp_in (nI i + 2) L from lw_in (k := 2) (by omega) hL) dL_law_688 ?_
  refine lv_aload_n hx hb dL_law_689 rfl (lv_at hl 5 rfl) ?_
  refine lv_iload hx hb dL_law_690 (lv_at hl 0 rfl) ?_
  refine lv_iconst (v := 3) hx hb dL_law_692 (by decide) ?_
  refine lv_iadd hx hb dL_law_693 ?_
  refine va_sld (i := nI i + 3) hx hb hX hbl (Nat.not_le.mpr hbl) hS (show vp_in (nI i + 3) L from lw_in (k := 3) (by omega) hL) dL_law_694 ?_
  refine lv_aload_n hx hb dL_law_695 rfl (lv_at hl 5 rfl) ?_
  refine lv_iload hx hb dL_law_696 (lv_at hl 0 rfl) ?_
  refine lv_iconst (v := 4) hx hb dL_law_698 (by decide) ?_
  refine lv_iadd hx hb dL_law_699 ?_
  refine va_sld (i := nI i + 4) hx hb hX hbl (Nat.not_le.mpr hbl) hS (show vp_in (nI i + 4) L from lw_in (k := 4) (by omega) hL) dL_law_700 ?_
  refine lv_aload_n hx hb dL_law_701 rfl (lv_at hl 2 rfl) ?_
  rcases R_stretch (uw := uw) (ua := ua) (up := up) (us := us) (un := un) (sc := sc) bd hSt hRs ((xs (nI i + 1).toNatClampNeg)) ((xs (nI i + 2).toNatClampNeg)) ((xs (nI i + 3).toNatClampNeg)) ((xs (nI i + 4).toNatClampNeg)) with ⟨t, t', ht, e1, e2⟩ | ⟨a, bd', sc', cf', sn', sf', un', us', up', ua', e1, e2, hSt, hRs⟩
  · have htz : 0 < t' ∧ t' < 4 := by omega
    refine lxS (As := [.ref (ad 0), .int (xs (nI i + 1).toNatClampNeg), .int (xs (nI i + 2).toNatClampNeg), .int (xs (nI i + 3).toNatClampNeg), .int (xs (nI i + 4).toNatClampNeg), .ref o1]) (rest := []) (wr := ((o2, .inl (g 5, 1, .inr (.inr (.inr (.inl fd))))) :: (wM g jo js jp ja jk jt jb un uy uw uq uz us up ua uk ut ub))) X K hs hnc (kxL_stretch l hf0 G g ad bd sc tl tat tb cn cf sn sf tn tf vv ov o1 fo ((xs (nI i + 1).toNatClampNeg)) ((xs (nI i + 2).toNatClampNeg)) ((xs (nI i + 3).toNatClampNeg)) ((xs (nI i + 4).toNatClampNeg)) _ _ ht e1) hd_L_stretch gL_law_L_stretch hP hD hS hA hl.1 dL_law_702 rfl rfl ⟨(Nat.le_of_ble_eq_true rfl), (Nat.le_of_ble_eq_true rfl)⟩ rfl (Nat.le_of_ble_eq_true rfl) hce (fun w1 H locs hp hP hD hS => ?_)
    have hp : w1 = _ := hp
    subst hp
    have hP : va_P G vwCl (lwW g ad bd sc tl tat tb cn cf sn sf tn tf vv ov jo js jp ja jk jt jb un uy uw uq uz us up ua uk ut ub o1 fo o2 fd) H := hP
    have hD : va_D (fun q => s.heap.size ≤ q) (lwW g ad bd sc tl tat tb cn cf sn sf tn tf vv ov jo js jp ja jk jt jb un uy uw uq uz us up ua uk ut ub o1 fo o2 fd) := hD
    refine lv_istore (lv' := [(6, .int (nI t')), (5, .int (nI i)), (4, .ref o2), (3, .ref o1), (2, .ref jo), (1, .ref (ad 0)), (0, .ref b)]) hx hb dL_law_705 hl (by decide) rfl (fun ls hl => ?_)
    refine lv_aload_n hx hb dL_law_707 rfl (lv_at hl 4 rfl) ?_
    refine lv_aload_n hx hb dL_law_708 rfl (lv_at hl 6 rfl) ?_
    refine lv_iload hx hb dL_law_709 (lv_at hl 1 rfl) ?_
    refine lv_iconst (v := 1) hx hb dL_law_711 (by decide) ?_
    refine lv_iadd hx hb dL_law_712 ?_
    refine va_sld (i := nI i + 1) hx hb hX hbl (Nat.not_le.mpr hbl) hS (show vp_in (nI i + 1) L from lw_in (k := 1) (by omega) hL) dL_law_713 ?_
    refine lv_aload_n hx hb dL_law_714 rfl (lv_at hl 6 rfl) ?_
    refine lv_iload hx hb dL_law_715 (lv_at hl 1 rfl) ?_
    refine lv_iconst (v := 2) hx hb dL_law_717 (by decide) ?_
    refine lv_iadd hx hb dL_law_718 ?_
    refine va_sld (i := nI i + 2) hx hb hX hbl (Nat.not_le.mpr hbl) hS (show vp_in (nI i + 2) L from lw_in (k := 2) (by omega) hL) dL_law_719 ?_
    refine lv_aload_n hx hb dL_law_720 rfl (lv_at hl 6 rfl) ?_
    refine lv_iload hx hb dL_law_721 (lv_at hl 1 rfl) ?_
    refine lv_iconst (v := 3) hx hb dL_law_723 (by decide) ?_
    refine lv_iadd hx hb dL_law_724 ?_
    refine va_sld (i := nI i + 3) hx hb hX hbl (Nat.not_le.mpr hbl) hS (show vp_in (nI i + 3) L from lw_in (k := 3) (by omega) hL) dL_law_725 ?_
    refine lv_aload_n hx hb dL_law_726 rfl (lv_at hl 6 rfl) ?_
    refine lv_iload hx hb dL_law_727 (lv_at hl 1 rfl) ?_
    refine lv_iconst (v := 4) hx hb dL_law_729 (by decide) ?_
    refine lv_iadd hx hb dL_law_730 ?_
    refine va_sld (i := nI i + 4) hx hb hX hbl (Nat.not_le.mpr hbl) hS (show vp_in (nI i + 4) L from lw_in (k := 4) (by omega) hL) dL_law_731 ?_
    refine rwVf (ci := 4) (As := [.int (xs (nI i + 1).toNatClampNeg), .int (xs (nI i + 2).toNatClampNeg), .int (xs (nI i + 3).toNatClampNeg), .int (xs (nI i + 4).toNatClampNeg)]) (rest := []) X K (k_X4_stretch l G g jo js jp ja jk jt jb un uy uw uq uz us up ua uk ut ub ((xs (nI i + 1).toNatClampNeg)) ((xs (nI i + 2).toNatClampNeg)) ((xs (nI i + 3).toNatClampNeg)) ((xs (nI i + 4).toNatClampNeg)) _ e2) hd_X4_stretch gL_law_X4_stretch hP hD hS hA foc_M hl.1 dL_law_732 rfl rfl ⟨(Nat.le_of_ble_eq_true rfl), (Nat.le_of_ble_eq_true rfl)⟩ rfl rfl rfl (Nat.le_of_ble_eq_true rfl) hce (fun H locs hP hD hS => ?_)
    have hP : va_P G vwCl (lwW g ad bd sc tl tat tb cn cf sn sf tn tf vv ov jo js jp ja jk jt jb un uy (nI t') uq uz us up ua uk ut ub o1 fo o2 fd) H := hP
    have hD : va_D (fun q => s.heap.size ≤ q) (lwW g ad bd sc tl tat tb cn cf sn sf tn tf vv ov jo js jp ja jk jt jb un uy (nI t') uq uz us up ua uk ut ub o1 fo o2 fd) := hD
    refine lv_istore (lv' := [(7, .int 0), (6, .int (nI t')), (5, .int (nI i)), (4, .ref o2), (3, .ref o1), (2, .ref jo), (1, .ref (ad 0)), (0, .ref b)]) hx hb dL_law_735 hl (by decide) rfl (fun ls hl => ?_)
    refine lv_aload_n hx hb dL_law_737 rfl (lv_at hl 5 rfl) ?_
    refine roV (ci := 4) (As := []) (rest := []) X K (k_X4_thrown l G g jo js jp ja jk jt jb un uy (nI t') uq uz us up ua uk ut ub _ rfl) hd_X4_thrown gL_law_X4_thrown ((foc_M (M' := [])).sub hP) hl.1 dL_law_738 rfl rfl ⟨(Nat.le_of_ble_eq_true rfl), (Nat.le_of_ble_eq_true rfl)⟩ rfl rfl rfl (Nat.le_of_ble_eq_true rfl) hce ?_
    refine lv_iload hx hb dL_law_741 (lv_at hl 1 rfl) ?_
    refine lv_icmp_eq (tgt := 748) hx hb dL_law_743 (by decide) (fun _ => ?_) (fun h => absurd rfl h)
    refine lv_iload hx hb dL_law_748 (lv_at hl 1 rfl) ?_
    refine lv_if_ne (tgt := 765) hx hb dL_law_750 (by decide) (fun _ => ?_) (fun h => absurd h (lw_nz htz))
    refine lv_goto (tgt := 1847) hx hb dL_law_765 (by decide) ?_
    exact kk _ _ _ (lwI.mk hP hD hS hSt hRs hTx) (lv_dr hl)
  · refine lxS (As := [.ref (ad 0), .int (xs (nI i + 1).toNatClampNeg), .int (xs (nI i + 2).toNatClampNeg), .int (xs (nI i + 3).toNatClampNeg), .int (xs (nI i + 4).toNatClampNeg), .ref o1]) (rest := []) (wr := ((o2, .inl (g 5, 1, .inr (.inr (.inr (.inl fd))))) :: (wM g jo js jp ja jk jt jb un uy uw uq uz us up ua uk ut ub))) X K hs hnc (kL_stretch l G g ad bd sc tl tat tb cn cf sn sf tn tf vv ov o1 fo ((xs (nI i + 1).toNatClampNeg)) ((xs (nI i + 2).toNatClampNeg)) ((xs (nI i + 3).toNatClampNeg)) ((xs (nI i + 4).toNatClampNeg)) _ e1) hd_L_stretch gL_law_L_stretch hP hD hS hA hl.1 dL_law_702 rfl rfl ⟨(Nat.le_of_ble_eq_true rfl), (Nat.le_of_ble_eq_true rfl)⟩ rfl (Nat.le_of_ble_eq_true rfl) hce (fun w1 H locs hp hP hD hS => ?_)
    have hp : w1 = _ := hp
    subst hp
    have hP : va_P G vwCl (lwW g ad bd' sc' tl tat tb cn cf' sn' sf' tn tf vv ov jo js jp ja jk jt jb un uy uw uq uz us up ua uk ut ub o1 (vp_updL fo 0 a.toInt64) o2 fd) H := hP
    have hD : va_D (fun q => s.heap.size ≤ q) (lwW g ad bd' sc' tl tat tb cn cf' sn' sf' tn tf vv ov jo js jp ja jk jt jb un uy uw uq uz us up ua uk ut ub o1 (vp_updL fo 0 a.toInt64) o2 fd) := hD
    refine lv_istore (lv' := [(6, .int 0), (5, .int (nI i)), (4, .ref o2), (3, .ref o1), (2, .ref jo), (1, .ref (ad 0)), (0, .ref b)]) hx hb dL_law_705 hl (by decide) rfl (fun ls hl => ?_)
    refine lv_aload_n hx hb dL_law_707 rfl (lv_at hl 4 rfl) ?_
    refine lv_aload_n hx hb dL_law_708 rfl (lv_at hl 6 rfl) ?_
    refine lv_iload hx hb dL_law_709 (lv_at hl 1 rfl) ?_
    refine lv_iconst (v := 1) hx hb dL_law_711 (by decide) ?_
    refine lv_iadd hx hb dL_law_712 ?_
    refine va_sld (i := nI i + 1) hx hb hX hbl (Nat.not_le.mpr hbl) hS (show vp_in (nI i + 1) L from lw_in (k := 1) (by omega) hL) dL_law_713 ?_
    refine lv_aload_n hx hb dL_law_714 rfl (lv_at hl 6 rfl) ?_
    refine lv_iload hx hb dL_law_715 (lv_at hl 1 rfl) ?_
    refine lv_iconst (v := 2) hx hb dL_law_717 (by decide) ?_
    refine lv_iadd hx hb dL_law_718 ?_
    refine va_sld (i := nI i + 2) hx hb hX hbl (Nat.not_le.mpr hbl) hS (show vp_in (nI i + 2) L from lw_in (k := 2) (by omega) hL) dL_law_719 ?_
    refine lv_aload_n hx hb dL_law_720 rfl (lv_at hl 6 rfl) ?_
    refine lv_iload hx hb dL_law_721 (lv_at hl 1 rfl) ?_
    refine lv_iconst (v := 3) hx hb dL_law_723 (by decide) ?_
    refine lv_iadd hx hb dL_law_724 ?_
    refine va_sld (i := nI i + 3) hx hb hX hbl (Nat.not_le.mpr hbl) hS (show vp_in (nI i + 3) L from lw_in (k := 3) (by omega) hL) dL_law_725 ?_
    refine lv_aload_n hx hb dL_law_726 rfl (lv_at hl 6 rfl) ?_
    refine lv_iload hx hb dL_law_727 (lv_at hl 1 rfl) ?_
    refine lv_iconst (v := 4) hx hb dL_law_729 (by decide) ?_
    refine lv_iadd hx hb dL_law_730 ?_
    refine va_sld (i := nI i + 4) hx hb hX hbl (Nat.not_le.mpr hbl) hS (show vp_in (nI i + 4) L from lw_in (k := 4) (by omega) hL) dL_law_731 ?_
    refine rwVf (ci := 4) (As := [.int (xs (nI i + 1).toNatClampNeg), .int (xs (nI i + 2).toNatClampNeg), .int (xs (nI i + 3).toNatClampNeg), .int (xs (nI i + 4).toNatClampNeg)]) (rest := []) X K (k_X4_stretch l G g jo js jp ja jk jt jb un uy uw uq uz us up ua uk ut ub ((xs (nI i + 1).toNatClampNeg)) ((xs (nI i + 2).toNatClampNeg)) ((xs (nI i + 3).toNatClampNeg)) ((xs (nI i + 4).toNatClampNeg)) _ e2) hd_X4_stretch gL_law_X4_stretch hP hD hS hA foc_M hl.1 dL_law_732 rfl rfl ⟨(Nat.le_of_ble_eq_true rfl), (Nat.le_of_ble_eq_true rfl)⟩ rfl rfl rfl (Nat.le_of_ble_eq_true rfl) hce (fun H locs hP hD hS => ?_)
    have hP : va_P G vwCl (lwW g ad bd' sc' tl tat tb cn cf' sn' sf' tn tf vv ov jo js jp ja jk jt jb un' uy 0 uq uz us' up' ua' uk ut ub o1 (vp_updL fo 0 a.toInt64) o2 fd) H := hP
    have hD : va_D (fun q => s.heap.size ≤ q) (lwW g ad bd' sc' tl tat tb cn cf' sn' sf' tn tf vv ov jo js jp ja jk jt jb un' uy 0 uq uz us' up' ua' uk ut ub o1 (vp_updL fo 0 a.toInt64) o2 fd) := hD
    refine lv_istore (lv' := [(7, .int a), (6, .int 0), (5, .int (nI i)), (4, .ref o2), (3, .ref o1), (2, .ref jo), (1, .ref (ad 0)), (0, .ref b)]) hx hb dL_law_735 hl (by decide) rfl (fun ls hl => ?_)
    refine lv_aload_n hx hb dL_law_737 rfl (lv_at hl 5 rfl) ?_
    refine roV (ci := 4) (As := []) (rest := []) X K (k_X4_thrown l G g jo js jp ja jk jt jb un' uy 0 uq uz us' up' ua' uk ut ub _ rfl) hd_X4_thrown gL_law_X4_thrown ((foc_M (M' := [])).sub hP) hl.1 dL_law_738 rfl rfl ⟨(Nat.le_of_ble_eq_true rfl), (Nat.le_of_ble_eq_true rfl)⟩ rfl rfl rfl (Nat.le_of_ble_eq_true rfl) hce ?_
    refine lv_iload hx hb dL_law_741 (lv_at hl 1 rfl) ?_
    refine lv_icmp_eq (tgt := 748) hx hb dL_law_743 (by decide) (fun _ => ?_) (fun h => absurd rfl h)
    refine lv_iload hx hb dL_law_748 (lv_at hl 1 rfl) ?_
    refine lv_if_ne (tgt := 765) hx hb dL_law_750 (by decide) (fun h => absurd rfl h) (fun _ => ?_)
    refine lv_aload_n hx hb dL_law_753 rfl (lv_at hl 4 rfl) ?_
    refine lv_iconst (v := 0) hx hb dL_law_754 (by decide) ?_
    refine va_lald hx hb K.1 hP 8 4 rfl rfl (vp_in_iff.mpr (by decide)) dL_law_755 ?_
    refine lv_iload hx hb dL_law_756 (lv_at hl 0 rfl) ?_
    refine lv_i2l (v := a.toInt64) hx hb dL_law_758 rfl ?_
    refine W.lcmp hx hb dL_law_759 ?_
    refine lv_if_eq (tgt := 765) hx hb dL_law_760 (by decide) (fun _ => ?_) (fun h => absurd (lcm_o _ _) h)
    refine lv_goto (tgt := 1847) hx hb dL_law_765 (by decide) ?_
    exact kk _ _ _ (lwI.mk hP hD hS hSt hRs hTx) (lv_dr hl)
set_option maxHeartbeats 4000000 in
set_option maxRecDepth 100000 in
theorem law_copy {l : Launch} {p : Program} {e : Env} {s : State} {m : MethodId} {below : List Frame} {meth : Method} {c : Code} {b L : Nat} {xs : Nat → Int32} {G : va_G} {g : Nat → ClassId} {ad : Nat → Nat} {jo js jp ja jk jt jb o1 o2 : Nat} {H : Heap} {locs : List Loc} {ce sl i : Nat} {ls : Array Slot} {Q : State → Prop} (hce : ce + 1 ≤ 601024 ∧ sl + 6 ≤ 7293034) (hi : i + 5 ≤ L) (E : lwE l p s m meth c b L xs G g) (I : lwI G g ad jo js jp ja jk jt jb o1 o2 s H locs) (hl : lv_has ls 9 (lwL b (ad 0) jo o1 o2 i))
    (kk : ∀ (H1 : Heap) (locs1 : List Loc) (ls1 : Array Slot), lwI G g ad jo js jp ja jk jt jb o1 o2 s H1 locs1 → lv_has ls1 9 (lwL b (ad 0) jo o1 o2 i) → W p l e room_1 s m #[Value.ref b] below meth c H1 locs1 (ce + 1) (sl + 6) Q (F0 m 1847 ls1 [])) : W p l e room_1 s m #[Value.ref b] below meth c H locs ce sl Q (F0 m 768 ls []) := by
  obtain ⟨X, K, hs, hnc, hX, hbl, hL, hf0⟩ := E
  obtain ⟨hx, hb, hml, hr, hown, hts, hk⟩ := id X
  obtain ⟨bd, sc, tl, tat, tb, cn, cf, sn, sf, tn, tf, vv, ov, un, uy, uw, uq, uz, us, up, ua, uk, ut, ub, fo, fd, hP, hD, hS, hSt, hRs, hTx⟩ := I
  have hA : ∀ q : Nat, s.heap.size ≤ q → (fun q => s.heap.size ≤ q) q := fun _ h => h
  have hce0 : ce ≤ 601024 ∧ sl ≤ 7293034 := ⟨by omega, by omega⟩
  have hl : lv_has ls 9 [(5, .int (nI i)), (4, .ref o2), (3, .ref o1), (2, .ref jo), (1, .ref (ad 0)), (0, .ref b)] := hl
  refine lv_aload_n hx hb dL_law_768 rfl (lv_at hl 4 rfl) ?_
  refine lv_aload_n hx hb dL_law_769 rfl (lv_at hl 5 rfl) ?_
  refine lv_iload hx hb dL_law_770 (lv_at hl 0 rfl) ?_
  refine lv_iconst (v := 1) hx hb dL_law_772 (by decide) ?_
  refine lv_iadd hx hb dL_law_773 ?_
  refine va_sld (i := nI i + 1) hx hb hX hbl (Nat.not_le.mpr hbl) hS (show vp_in (nI i + 1) L from lw_in (k := 1) (by omega) hL) dL_law_774 ?_
  refine lv_aload_n hx hb dL_law_775 rfl (lv_at hl 5 rfl) ?_
  refine lv_iload hx hb dL_law_776 (lv_at hl 0 rfl) ?_
  refine lv_iconst (v := 2) hx hb dL_law_778 (by decide) ?_
  refine lv_iadd hx hb dL_law_779 ?_
  refine va_sld (i := nI i + 2) hx hb hX hbl (Nat.not_le.mpr hbl) hS (show vp_in (nI i + 2) L from lw_in (k := 2) (by omega) hL) dL_law_780 ?_
  refine lv_aload_n hx hb dL_law_781 rfl (lv_at hl 5 rfl) ?_
  refine lv_iload hx hb dL_law_782 (lv_at hl 0 rfl) ?_
  refine lv_iconst (v := 3) hx hb dL_law_784 (by decide) ?_
  refine lv_iadd hx hb dL_law_785 ?_
  refine va_sld (i := nI i + 3) hx hb hX hbl (Nat.not_le.mpr hbl) hS (show vp_in (nI i + 3) L from lw_in (k := 3) (by omega) hL) dL_law_786 ?_
  refine lv_aload_n hx hb dL_law_787 rfl (lv_at hl 2 rfl) ?_
  rcases R_copy (uw := uw) (ua := ua) (up := up) (us := us) (un := un) (sc := sc) bd hSt hRs ((xs (nI i + 1).toNatClampNeg)) ((xs (nI i + 2).toNatClampNeg)) ((xs (nI i + 3).toNatClampNeg)) with ⟨t, t', ht, e1, e2⟩ | ⟨a, bd', sc', cn', cf', sn', sf', un', us', up', ua', e1, e2, hSt, hRs⟩
  · have htz : 0 < t' ∧ t' < 4 := by omega
    refine lxS (As := [.ref (ad 0), .int (xs (nI i + 1).toNatClampNeg), .int (xs (nI i + 2).toNatClampNeg), .int (xs (nI i + 3).toNatClampNeg), .ref o1]) (rest := []) (wr := ((o2, .inl (g 5, 1, .inr (.inr (.inr (.inl fd))))) :: (wM g jo js jp ja jk jt jb un uy uw uq uz us up ua uk ut ub))) X K hs hnc (kxL_copy l hf0 G g ad bd sc tl tat tb cn cf sn sf tn tf vv ov o1 fo ((xs (nI i + 1).toNatClampNeg)) ((xs (nI i + 2).toNatClampNeg)) ((xs (nI i + 3).toNatClampNeg)) _ _ ht e1) hd_L_copy gL_law_L_copy hP hD hS hA hl.1 dL_law_788 rfl rfl ⟨(Nat.le_of_ble_eq_true rfl), (Nat.le_of_ble_eq_true rfl)⟩ rfl (Nat.le_of_ble_eq_true rfl) hce (fun w1 H locs hp hP hD hS => ?_)
    have hp : w1 = _ := hp
    subst hp
    have hP : va_P G vwCl (lwW g ad bd sc tl tat tb cn cf sn sf tn tf vv ov jo js jp ja jk jt jb un uy uw uq uz us up ua uk ut ub o1 fo o2 fd) H := hP
    have hD : va_D (fun q => s.heap.size ≤ q) (lwW g ad bd sc tl tat tb cn cf sn sf tn tf vv ov jo js jp ja jk jt jb un uy uw uq uz us up ua uk ut ub o1 fo o2 fd) := hD
    refine lv_istore (lv' := [(6, .int (nI t')), (5, .int (nI i)), (4, .ref o2), (3, .ref o1), (2, .ref jo), (1, .ref (ad 0)), (0, .ref b)]) hx hb dL_law_791 hl (by decide) rfl (fun ls hl => ?_)
    refine lv_aload_n hx hb dL_law_793 rfl (lv_at hl 4 rfl) ?_
    refine lv_aload_n hx hb dL_law_794 rfl (lv_at hl 6 rfl) ?_
    refine lv_iload hx hb dL_law_795 (lv_at hl 1 rfl) ?_
    refine lv_iconst (v := 1) hx hb dL_law_797 (by decide) ?_
    refine lv_iadd hx hb dL_law_798 ?_
    refine va_sld (i := nI i + 1) hx hb hX hbl (Nat.not_le.mpr hbl) hS (show vp_in (nI i + 1) L from lw_in (k := 1) (by omega) hL) dL_law_799 ?_
    refine lv_aload_n hx hb dL_law_800 rfl (lv_at hl 6 rfl) ?_
    refine lv_iload hx hb dL_law_801 (lv_at hl 1 rfl) ?_
    refine lv_iconst (v := 2) hx hb dL_law_803 (by decide) ?_
    refine lv_iadd hx hb dL_law_804 ?_
    refine va_sld (i := nI i + 2) hx hb hX hbl (Nat.not_le.mpr hbl) hS (show vp_in (nI i + 2) L from lw_in (k := 2) (by omega) hL) dL_law_805 ?_
    refine lv_aload_n hx hb dL_law_806 rfl (lv_at hl 6 rfl) ?_
    refine lv_iload hx hb dL_law_807 (lv_at hl 1 rfl) ?_
    refine lv_iconst (v := 3) hx hb dL_law_809 (by decide) ?_
    refine lv_iadd hx hb dL_law_810 ?_
    refine va_sld (i := nI i + 3) hx hb hX hbl (Nat.not_le.mpr hbl) hS (show vp_in (nI i + 3) L from lw_in (k := 3) (by omega) hL) dL_law_811 ?_
    refine rwVf (ci := 4) (As := [.int (xs (nI i + 1).toNatClampNeg), .int (xs (nI i + 2).toNatClampNeg), .int (xs (nI i + 3).toNatClampNeg)]) (rest := []) X K (k_X4_copy l G g jo js jp ja jk jt jb un uy uw uq uz us up ua uk ut ub ((xs (nI i + 1).toNatClampNeg)) ((xs (nI i + 2).toNatClampNeg)) ((xs (nI i + 3).toNatClampNeg)) _ e2) hd_X4_copy gL_law_X4_copy hP hD hS hA foc_M hl.1 dL_law_812 rfl rfl ⟨(Nat.le_of_ble_eq_true rfl), (Nat.le_of_ble_eq_true rfl)⟩ rfl rfl rfl (Nat.le_of_ble_eq_true rfl) hce (fun H locs hP hD hS => ?_)
    have hP : va_P G vwCl (lwW g ad bd sc tl tat tb cn cf sn sf tn tf vv ov jo js jp ja jk jt jb un uy (nI t') uq uz us up ua uk ut ub o1 fo o2 fd) H := hP
    have hD : va_D (fun q => s.heap.size ≤ q) (lwW g ad bd sc tl tat tb cn cf sn sf tn tf vv ov jo js jp ja jk jt jb un uy (nI t') uq uz us up ua uk ut ub o1 fo o2 fd) := hD
    refine lv_istore (lv' := [(7, .int 0), (6, .int (nI t')), (5, .int (nI i)), (4, .ref o2), (3, .ref o1), (2, .ref jo), (1, .ref (ad 0)), (0, .ref b)]) hx hb dL_law_815 hl (by decide) rfl (fun ls hl => ?_)
    refine lv_aload_n hx hb dL_law_817 rfl (lv_at hl 5 rfl) ?_
    refine roV (ci := 4) (As := []) (rest := []) X K (k_X4_thrown l G g jo js jp ja jk jt jb un uy (nI t') uq uz us up ua uk ut ub _ rfl) hd_X4_thrown gL_law_X4_thrown ((foc_M (M' := [])).sub hP) hl.1 dL_law_818 rfl rfl ⟨(Nat.le_of_ble_eq_true rfl), (Nat.le_of_ble_eq_true rfl)⟩ rfl rfl rfl (Nat.le_of_ble_eq_true rfl) hce ?_
    refine lv_iload hx hb dL_law_821 (lv_at hl 1 rfl) ?_
    refine lv_icmp_eq (tgt := 828) hx hb dL_law_823 (by decide) (fun _ => ?_) (fun h => absurd rfl h)
    refine lv_iload hx hb dL_law_828 (lv_at hl 1 rfl) ?_
    refine lv_if_ne (tgt := 845) hx hb dL_law_830 (by decide) (fun _ => ?_) (fun h => absurd h (lw_nz htz))
    refine lv_goto (tgt := 1847) hx hb dL_law_845 (by decide) ?_
    exact kk _ _ _ (lwI.mk hP hD hS hSt hRs hTx) (lv_dr hl)
  · refine lxS (As := [.ref (ad 0), .int (xs (nI i + 1).toNatClampNeg), .int (xs (nI i + 2).toNatClampNeg), .int (xs (nI i + 3).toNatClampNeg), .ref o1]) (rest := []) (wr := ((o2, .inl (g 5, 1, .inr (.inr (.inr (.inl fd))))) :: (wM g jo js jp ja jk jt jb un uy uw uq uz us up ua uk ut ub))) X K hs hnc (kL_copy l G g ad bd sc tl tat tb cn cf sn sf tn tf vv ov o1 fo ((xs (nI i + 1).toNatClampNeg)) ((xs (nI i + 2).toNatClampNeg)) ((xs (nI i + 3).toNatClampNeg)) _ e1) hd_L_copy gL_law_L_copy hP hD hS hA hl.1 dL_law_788 rfl rfl ⟨(Nat.le_of_ble_eq_true rfl), (Nat.le_of_ble_eq_true rfl)⟩ rfl (Nat.le_of_ble_eq_true rfl) hce (fun w1 H locs hp hP hD hS => ?_)
    have hp : w1 = _ := hp
    subst hp
    have hP : va_P G vwCl (lwW g ad bd' sc' tl tat tb cn' cf' sn' sf' tn tf vv ov jo js jp ja jk jt jb un uy uw uq uz us up ua uk ut ub o1 (vp_updL fo 0 a.toInt64) o2 fd) H := hP
    have hD : va_D (fun q => s.heap.size ≤ q) (lwW g ad bd' sc' tl tat tb cn' cf' sn' sf' tn tf vv ov jo js jp ja jk jt jb un uy uw uq uz us up ua uk ut ub o1 (vp_updL fo 0 a.toInt64) o2 fd) := hD
    refine lv_istore (lv' := [(6, .int 0), (5, .int (nI i)), (4, .ref o2), (3, .ref o1), (2, .ref jo), (1, .ref (ad 0)), (0, .ref b)]) hx hb dL_law_791 hl (by decide) rfl (fun ls hl => ?_)
    refine lv_aload_n hx hb dL_law_793 rfl (lv_at hl 4 rfl) ?_
    refine lv_aload_n hx hb dL_law_794 rfl (lv_at hl 6 rfl) ?_
    refine lv_iload hx hb dL_law_795 (lv_at hl 1 rfl) ?_
    refine lv_iconst (v := 1) hx hb dL_law_797 (by decide) ?_
    refine lv_iadd hx hb dL_law_798 ?_
    refine va_sld (i := nI i + 1) hx hb hX hbl (Nat.not_le.mpr hbl) hS (show vp_in (nI i + 1) L from lw_in (k := 1) (by omega) hL) dL_law_799 ?_
    refine lv_aload_n hx hb dL_law_800 rfl (lv_at hl 6 rfl) ?_
    refine lv_iload hx hb dL_law_801 (lv_at hl 1 rfl) ?_
    refine lv_iconst (v := 2) hx hb dL_law_803 (by decide) ?_
    refine lv_iadd hx hb dL_law_804 ?_
    refine va_sld (i := nI i + 2) hx hb hX hbl (Nat.not_le.mpr hbl) hS (show vp_in (nI i + 2) L from lw_in (k := 2) (by omega) hL) dL_law_805 ?_
    refine lv_aload_n hx hb dL_law_806 rfl (lv_at hl 6 rfl) ?_
    refine lv_iload hx hb dL_law_807 (lv_at hl 1 rfl) ?_
    refine lv_iconst (v := 3) hx hb dL_law_809 (by decide) ?_
    refine lv_iadd hx hb dL_law_810 ?_
    refine va_sld (i := nI i + 3) hx hb hX hbl (Nat.not_le.mpr hbl) hS (show vp_in (nI i + 3) L from lw_in (k := 3) (by omega) hL) dL_law_811 ?_
    refine rwVf (ci := 4) (As := [.int (xs (nI i + 1).toNatClampNeg), .int (xs (nI i + 2).toNatClampNeg), .int (xs (nI i + 3).toNatClampNeg)]) (rest := []) X K (k_X4_copy l G g jo js jp ja jk jt jb un uy uw uq uz us up ua uk ut ub ((xs (nI i + 1).toNatClampNeg)) ((xs (nI i + 2).toNatClampNeg)) ((xs (nI i + 3).toNatClampNeg)) _ e2) hd_X4_copy gL_law_X4_copy hP hD hS hA foc_M hl.1 dL_law_812 rfl rfl ⟨(Nat.le_of_ble_eq_true rfl), (Nat.le_of_ble_eq_true rfl)⟩ rfl rfl rfl (Nat.le_of_ble_eq_true rfl) hce (fun H locs hP hD hS => ?_)
    have hP : va_P G vwCl (lwW g ad bd' sc' tl tat tb cn' cf' sn' sf' tn tf vv ov jo js jp ja jk jt jb un' uy 0 uq uz us' up' ua' uk ut ub o1 (vp_updL fo 0 a.toInt64) o2 fd) H := hP
    have hD : va_D (fun q => s.heap.size ≤ q) (lwW g ad bd' sc' tl tat tb cn' cf' sn' sf' tn tf vv ov jo js jp ja jk jt jb un' uy 0 uq uz us' up' ua' uk ut ub o1 (vp_updL fo 0 a.toInt64) o2 fd) := hD
    refine lv_istore (lv' := [(7, .int a), (6, .int 0), (5, .int (nI i)), (4, .ref o2), (3, .ref o1), (2, .ref jo), (1, .ref (ad 0)), (0, .ref b)]) hx hb dL_law_815 hl (by decide) rfl (fun ls hl => ?_)
    refine lv_aload_n hx hb dL_law_817 rfl (lv_at hl 5 rfl) ?_
    refine roV (ci := 4) (As := []) (rest := []) X K (k_X4_thrown l G g jo js jp ja jk jt jb un' uy 0 uq uz us' up' ua' uk ut ub _ rfl) hd_X4_thrown gL_law_X4_thrown ((foc_M (M' := [])).sub hP) hl.1 dL_law_818 rfl rfl ⟨(Nat.le_of_ble_eq_true rfl), (Nat.le_of_ble_eq_true rfl)⟩ rfl rfl rfl (Nat.le_of_ble_eq_true rfl) hce ?_
    refine lv_iload hx hb dL_law_821 (lv_at hl 1 rfl) ?_
    refine lv_icmp_eq (tgt := 828) hx hb dL_law_823 (by decide) (fun _ => ?_) (fun h => absurd rfl h)
    refine lv_iload hx hb dL_law_828 (lv_at hl 1 rfl) ?_
    refine lv_if_ne (tgt := 845) hx hb dL_law_830 (by decide) (fun h => absurd rfl h) (fun _ => ?_)
    refine lv_aload_n hx hb dL_law_833 rfl (lv_at hl 4 rfl) ?_
    refine lv_iconst (v := 0) hx hb dL_law_834 (by decide) ?_
    refine va_lald hx hb K.1 hP 8 4 rfl rfl (vp_in_iff.mpr (by decide)) dL_law_835 ?_
    refine lv_iload hx hb dL_law_836 (lv_at hl 0 rfl) ?_
    refine lv_i2l (v := a.toInt64) hx hb dL_law_838 rfl ?_
    refine W.lcmp hx hb dL_law_839 ?_
    refine lv_if_eq (tgt := 845) hx hb dL_law_840 (by decide) (fun _ => ?_) (fun h => absurd (lcm_o _ _) h)
    refine lv_goto (tgt := 1847) hx hb dL_law_845 (by decide) ?_
    exact kk _ _ _ (lwI.mk hP hD hS hSt hRs hTx) (lv_dr hl)

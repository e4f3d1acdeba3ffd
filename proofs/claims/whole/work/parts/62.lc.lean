/-! ===== the law, case by case, 2 ===== -/
set_option maxHeartbeats 4000000 in
set_option maxRecDepth 100000 in
theorem law_reduce {l : Launch} {p : Program} {e : Env} {s : State} {m : MethodId} {below : List Frame} {meth : Method} {c : Code} {b L : Nat} {xs : Nat → Int32} {G : va_G} {g : Nat → ClassId} {ad : Nat → Nat} {jo js jp ja jk jt jb o1 o2 : Nat} {H : Heap} {locs : List Loc} {ce sl i : Nat} {ls : Array Slot} {Q : State → Prop} (hce : ce + 1 ≤ 601024 ∧ sl + 6 ≤ 7293034) (hi : i + 5 ≤ L) (E : lwE l p s m meth c b L xs G g) (I : lwI G g ad jo js jp ja jk jt jb o1 o2 s H locs) (hl : lv_has ls 9 (lwL b (ad 0) jo o1 o2 i))
    (kk : ∀ (H1 : Heap) (locs1 : List Loc) (ls1 : Array Slot), lwI G g ad jo js jp ja jk jt jb o1 o2 s H1 locs1 → lv_has ls1 9 (lwL b (ad 0) jo o1 o2 i) → W p l e room_1 s m #[Value.ref b] below meth c H1 locs1 (ce + 1) (sl + 6) Q (F0 m 1847 ls1 [])) : W p l e room_1 s m #[Value.ref b] below meth c H locs ce sl Q (F0 m 848 ls []) := by
  obtain ⟨X, K, hs, hnc, hX, hbl, hL, hf0⟩ := E
  obtain ⟨hx, hb, hml, hr, hown, hts, hk⟩ := id X
  obtain ⟨bd, sc, tl, tat, tb, cn, cf, sn, sf, tn, tf, vv, ov, un, uy, uw, uq, uz, us, up, ua, uk, ut, ub, fo, fd, hP, hD, hS, hSt, hRs, hTx⟩ := I
  have hA : ∀ q : Nat, s.heap.size ≤ q → (fun q => s.heap.size ≤ q) q := fun _ h => h
  have hce0 : ce ≤ 601024 ∧ sl ≤ 7293034 := ⟨by omega, by omega⟩
  have hl : lv_has ls 9 [(5, .int (nI i)), (4, .ref o2), (3, .ref o1), (2, .ref jo), (1, .ref (ad 0)), (0, .ref b)] := hl
  refine lv_aload_n hx hb dL_law_848 rfl (lv_at hl 4 rfl) ?_
  refine lv_aload_n hx hb dL_law_849 rfl (lv_at hl 5 rfl) ?_
  refine lv_iload hx hb dL_law_850 (lv_at hl 0 rfl) ?_
  refine lv_iconst (v := 1) hx hb dL_law_852 (by decide) ?_
  refine lv_iadd hx hb dL_law_853 ?_
  refine va_sld (i := nI i + 1) hx hb hX hbl (Nat.not_le.mpr hbl) hS (show vp_in (nI i + 1) L from lw_in (k := 1) (by omega) hL) dL_law_854 ?_
  refine lv_aload_n hx hb dL_law_855 rfl (lv_at hl 5 rfl) ?_
  refine lv_iload hx hb dL_law_856 (lv_at hl 0 rfl) ?_
  refine lv_iconst (v := 2) hx hb dL_law_858 (by decide) ?_
  refine lv_iadd hx hb dL_law_859 ?_
  refine va_sld (i := nI i + 2) hx hb hX hbl (Nat.not_le.mpr hbl) hS (show vp_in (nI i + 2) L from lw_in (k := 2) (by omega) hL) dL_law_860 ?_
  refine lv_aload_n hx hb dL_law_861 rfl (lv_at hl 2 rfl) ?_
  rcases R_reduce (uw := uw) (tn := tn) (tf := tf) (uk := uk) (ub := ub) (ua := ua) (up := up) (us := us) (un := un) (sc := sc) (vv := vv) (ov := ov) bd hSt hRs ((xs (nI i + 1).toNatClampNeg)) ((xs (nI i + 2).toNatClampNeg)) with ⟨t, t', ht, e1, e2⟩ | ⟨a, bd', sc', cn', cf', sn', sf', tn', tf', vv', ov', un', us', up', ua', uk', ub', e1, e2, hSt, hRs⟩
  · have htz : 0 < t' ∧ t' < 4 := by omega
    refine lxS (As := [.ref (ad 0), .int (xs (nI i + 1).toNatClampNeg), .int (xs (nI i + 2).toNatClampNeg), .ref o1]) (rest := []) (wr := ((o2, .inl (g 5, 1, .inr (.inr (.inr (.inl fd))))) :: (wM g jo js jp ja jk jt jb un uy uw uq uz us up ua uk ut ub))) X K hs hnc (kxL_reduce l hf0 G g ad bd sc tl tat tb cn cf sn sf tn tf vv ov o1 fo ((xs (nI i + 1).toNatClampNeg)) ((xs (nI i + 2).toNatClampNeg)) _ _ ht e1) hd_L_reduce gL_law_L_reduce hP hD hS hA hl.1 dL_law_862 rfl rfl ⟨(Nat.le_of_ble_eq_true rfl), (Nat.le_of_ble_eq_true rfl)⟩ rfl (Nat.le_of_ble_eq_true rfl) hce (fun w1 H locs hp hP hD hS => ?_)
    have hp : w1 = _ := hp
    subst hp
    have hP : va_P G vwCl (lwW g ad bd sc tl tat tb cn cf sn sf tn tf vv ov jo js jp ja jk jt jb un uy uw uq uz us up ua uk ut ub o1 fo o2 fd) H := hP
    have hD : va_D (fun q => s.heap.size ≤ q) (lwW g ad bd sc tl tat tb cn cf sn sf tn tf vv ov jo js jp ja jk jt jb un uy uw uq uz us up ua uk ut ub o1 fo o2 fd) := hD
    refine lv_istore (lv' := [(6, .int (nI t')), (5, .int (nI i)), (4, .ref o2), (3, .ref o1), (2, .ref jo), (1, .ref (ad 0)), (0, .ref b)]) hx hb dL_law_865 hl (by decide) rfl (fun ls hl => ?_)
    refine lv_aload_n hx hb dL_law_867 rfl (lv_at hl 4 rfl) ?_
    refine lv_aload_n hx hb dL_law_868 rfl (lv_at hl 6 rfl) ?_
    refine lv_iload hx hb dL_law_869 (lv_at hl 1 rfl) ?_
    refine lv_iconst (v := 1) hx hb dL_law_871 (by decide) ?_
    refine lv_iadd hx hb dL_law_872 ?_
    refine va_sld (i := nI i + 1) hx hb hX hbl (Nat.not_le.mpr hbl) hS (show vp_in (nI i + 1) L from lw_in (k := 1) (by omega) hL) dL_law_873 ?_
    refine lv_aload_n hx hb dL_law_874 rfl (lv_at hl 6 rfl) ?_
    refine lv_iload hx hb dL_law_875 (lv_at hl 1 rfl) ?_
    refine lv_iconst (v := 2) hx hb dL_law_877 (by decide) ?_
    refine lv_iadd hx hb dL_law_878 ?_
    refine va_sld (i := nI i + 2) hx hb hX hbl (Nat.not_le.mpr hbl) hS (show vp_in (nI i + 2) L from lw_in (k := 2) (by omega) hL) dL_law_879 ?_
    refine rwVf (ci := 4) (As := [.int (xs (nI i + 1).toNatClampNeg), .int (xs (nI i + 2).toNatClampNeg)]) (rest := []) X K (k_X4_reduce l G g jo js jp ja jk jt jb un uy uw uq uz us up ua uk ut ub ((xs (nI i + 1).toNatClampNeg)) ((xs (nI i + 2).toNatClampNeg)) _ e2) hd_X4_reduce gL_law_X4_reduce hP hD hS hA foc_M hl.1 dL_law_880 rfl rfl ⟨(Nat.le_of_ble_eq_true rfl), (Nat.le_of_ble_eq_true rfl)⟩ rfl rfl rfl (Nat.le_of_ble_eq_true rfl) hce (fun H locs hP hD hS => ?_)
    have hP : va_P G vwCl (lwW g ad bd sc tl tat tb cn cf sn sf tn tf vv ov jo js jp ja jk jt jb un uy (nI t') uq uz us up ua uk ut ub o1 fo o2 fd) H := hP
    have hD : va_D (fun q => s.heap.size ≤ q) (lwW g ad bd sc tl tat tb cn cf sn sf tn tf vv ov jo js jp ja jk jt jb un uy (nI t') uq uz us up ua uk ut ub o1 fo o2 fd) := hD
    refine lv_istore (lv' := [(7, .int 0), (6, .int (nI t')), (5, .int (nI i)), (4, .ref o2), (3, .ref o1), (2, .ref jo), (1, .ref (ad 0)), (0, .ref b)]) hx hb dL_law_883 hl (by decide) rfl (fun ls hl => ?_)
    refine lv_aload_n hx hb dL_law_885 rfl (lv_at hl 5 rfl) ?_
    refine roV (ci := 4) (As := []) (rest := []) X K (k_X4_thrown l G g jo js jp ja jk jt jb un uy (nI t') uq uz us up ua uk ut ub _ rfl) hd_X4_thrown gL_law_X4_thrown ((foc_M (M' := [])).sub hP) hl.1 dL_law_886 rfl rfl ⟨(Nat.le_of_ble_eq_true rfl), (Nat.le_of_ble_eq_true rfl)⟩ rfl rfl rfl (Nat.le_of_ble_eq_true rfl) hce ?_
    refine lv_iload hx hb dL_law_889 (lv_at hl 1 rfl) ?_
    refine lv_icmp_eq (tgt := 896) hx hb dL_law_891 (by decide) (fun _ => ?_) (fun h => absurd rfl h)
    refine lv_iload hx hb dL_law_896 (lv_at hl 1 rfl) ?_
    refine lv_if_ne (tgt := 913) hx hb dL_law_898 (by decide) (fun _ => ?_) (fun h => absurd h (lw_nz htz))
    refine lv_goto (tgt := 1847) hx hb dL_law_913 (by decide) ?_
    exact kk _ _ _ (lwI.mk hP hD hS hSt hRs hTx) (lv_dr hl)
  · refine lxS (As := [.ref (ad 0), .int (xs (nI i + 1).toNatClampNeg), .int (xs (nI i + 2).toNatClampNeg), .ref o1]) (rest := []) (wr := ((o2, .inl (g 5, 1, .inr (.inr (.inr (.inl fd))))) :: (wM g jo js jp ja jk jt jb un uy uw uq uz us up ua uk ut ub))) X K hs hnc (kL_reduce l G g ad bd sc tl tat tb cn cf sn sf tn tf vv ov o1 fo ((xs (nI i + 1).toNatClampNeg)) ((xs (nI i + 2).toNatClampNeg)) _ e1) hd_L_reduce gL_law_L_reduce hP hD hS hA hl.1 dL_law_862 rfl rfl ⟨(Nat.le_of_ble_eq_true rfl), (Nat.le_of_ble_eq_true rfl)⟩ rfl (Nat.le_of_ble_eq_true rfl) hce (fun w1 H locs hp hP hD hS => ?_)
    have hp : w1 = _ := hp
    subst hp
    have hP : va_P G vwCl (lwW g ad bd' sc' tl tat tb cn' cf' sn' sf' tn' tf' vv' ov' jo js jp ja jk jt jb un uy uw uq uz us up ua uk ut ub o1 (vp_updL fo 0 a.toInt64) o2 fd) H := hP
    have hD : va_D (fun q => s.heap.size ≤ q) (lwW g ad bd' sc' tl tat tb cn' cf' sn' sf' tn' tf' vv' ov' jo js jp ja jk jt jb un uy uw uq uz us up ua uk ut ub o1 (vp_updL fo 0 a.toInt64) o2 fd) := hD
    refine lv_istore (lv' := [(6, .int 0), (5, .int (nI i)), (4, .ref o2), (3, .ref o1), (2, .ref jo), (1, .ref (ad 0)), (0, .ref b)]) hx hb dL_law_865 hl (by decide) rfl (fun ls hl => ?_)
    refine lv_aload_n hx hb dL_law_867 rfl (lv_at hl 4 rfl) ?_
    refine lv_aload_n hx hb dL_law_868 rfl (lv_at hl 6 rfl) ?_
    refine lv_iload hx hb dL_law_869 (lv_at hl 1 rfl) ?_
    refine lv_iconst (v := 1) hx hb dL_law_871 (by decide) ?_
    refine lv_iadd hx hb dL_law_872 ?_
    refine va_sld (i := nI i + 1) hx hb hX hbl (Nat.not_le.mpr hbl) hS (show vp_in (nI i + 1) L from lw_in (k := 1) (by omega) hL) dL_law_873 ?_
    refine lv_aload_n hx hb dL_law_874 rfl (lv_at hl 6 rfl) ?_
    refine lv_iload hx hb dL_law_875 (lv_at hl 1 rfl) ?_
    refine lv_iconst (v := 2) hx hb dL_law_877 (by decide) ?_
    refine lv_iadd hx hb dL_law_878 ?_
    refine va_sld (i := nI i + 2) hx hb hX hbl (Nat.not_le.mpr hbl) hS (show vp_in (nI i + 2) L from lw_in (k := 2) (by omega) hL) dL_law_879 ?_
    refine rwVf (ci := 4) (As := [.int (xs (nI i + 1).toNatClampNeg), .int (xs (nI i + 2).toNatClampNeg)]) (rest := []) X K (k_X4_reduce l G g jo js jp ja jk jt jb un uy uw uq uz us up ua uk ut ub ((xs (nI i + 1).toNatClampNeg)) ((xs (nI i + 2).toNatClampNeg)) _ e2) hd_X4_reduce gL_law_X4_reduce hP hD hS hA foc_M hl.1 dL_law_880 rfl rfl ⟨(Nat.le_of_ble_eq_true rfl), (Nat.le_of_ble_eq_true rfl)⟩ rfl rfl rfl (Nat.le_of_ble_eq_true rfl) hce (fun H locs hP hD hS => ?_)
    have hP : va_P G vwCl (lwW g ad bd' sc' tl tat tb cn' cf' sn' sf' tn' tf' vv' ov' jo js jp ja jk jt jb un' uy 0 uq uz us' up' ua' uk' ut ub' o1 (vp_updL fo 0 a.toInt64) o2 fd) H := hP
    have hD : va_D (fun q => s.heap.size ≤ q) (lwW g ad bd' sc' tl tat tb cn' cf' sn' sf' tn' tf' vv' ov' jo js jp ja jk jt jb un' uy 0 uq uz us' up' ua' uk' ut ub' o1 (vp_updL fo 0 a.toInt64) o2 fd) := hD
    refine lv_istore (lv' := [(7, .int a), (6, .int 0), (5, .int (nI i)), (4, .ref o2), (3, .ref o1), (2, .ref jo), (1, .ref (ad 0)), (0, .ref b)]) hx hb dL_law_883 hl (by decide) rfl (fun ls hl => ?_)
    refine lv_aload_n hx hb dL_law_885 rfl (lv_at hl 5 rfl) ?_
    refine roV (ci := 4) (As := []) (rest := []) X K (k_X4_thrown l G g jo js jp ja jk jt jb un' uy 0 uq uz us' up' ua' uk' ut ub' _ rfl) hd_X4_thrown gL_law_X4_thrown ((foc_M (M' := [])).sub hP) hl.1 dL_law_886 rfl rfl ⟨(Nat.le_of_ble_eq_true rfl), (Nat.le_of_ble_eq_true rfl)⟩ rfl rfl rfl (Nat.le_of_ble_eq_true rfl) hce ?_
    refine lv_iload hx hb dL_law_889 (lv_at hl 1 rfl) ?_
    refine lv_icmp_eq (tgt := 896) hx hb dL_law_891 (by decide) (fun _ => ?_) (fun h => absurd rfl h)
    refine lv_iload hx hb dL_law_896 (lv_at hl 1 rfl) ?_
    refine lv_if_ne (tgt := 913) hx hb dL_law_898 (by decide) (fun h => absurd rfl h) (fun _ => ?_)
    refine lv_aload_n hx hb dL_law_901 rfl (lv_at hl 4 rfl) ?_
    refine lv_iconst (v := 0) hx hb dL_law_902 (by decide) ?_
    refine va_lald hx hb K.1 hP 8 4 rfl rfl (vp_in_iff.mpr (by decide)) dL_law_903 ?_
    refine lv_iload hx hb dL_law_904 (lv_at hl 0 rfl) ?_
    refine lv_i2l (v := a.toInt64) hx hb dL_law_906 rfl ?_
    refine W.lcmp hx hb dL_law_907 ?_
    refine lv_if_eq (tgt := 913) hx hb dL_law_908 (by decide) (fun _ => ?_) (fun h => absurd (lcm_o _ _) h)
    refine lv_goto (tgt := 1847) hx hb dL_law_913 (by decide) ?_
    exact kk _ _ _ (lwI.mk hP hD hS hSt hRs hTx) (lv_dr hl)
set_option maxHeartbeats 4000000 in
set_option maxRecDepth 100000 in
theorem law_key {l : Launch} {p : Program} {e : Env} {s : State} {m : MethodId} {below : List Frame} {meth : Method} {c : Code} {b L : Nat} {xs : Nat → Int32} {G : va_G} {g : Nat → ClassId} {ad : Nat → Nat} {jo js jp ja jk jt jb o1 o2 : Nat} {H : Heap} {locs : List Loc} {ce sl i : Nat} {ls : Array Slot} {Q : State → Prop} (hce : ce + 1 ≤ 601024 ∧ sl + 6 ≤ 7293034) (hi : i + 5 ≤ L) (E : lwE l p s m meth c b L xs G g) (I : lwI G g ad jo js jp ja jk jt jb o1 o2 s H locs) (hl : lv_has ls 9 (lwL b (ad 0) jo o1 o2 i))
    (kk : ∀ (H1 : Heap) (locs1 : List Loc) (ls1 : Array Slot), lwI G g ad jo js jp ja jk jt jb o1 o2 s H1 locs1 → lv_has ls1 9 (lwL b (ad 0) jo o1 o2 i) → W p l e room_1 s m #[Value.ref b] below meth c H1 locs1 (ce + 1) (sl + 6) Q (F0 m 1847 ls1 [])) : W p l e room_1 s m #[Value.ref b] below meth c H locs ce sl Q (F0 m 916 ls []) := by
  obtain ⟨X, K, hs, hnc, hX, hbl, hL, hf0⟩ := E
  obtain ⟨hx, hb, hml, hr, hown, hts, hk⟩ := id X
  obtain ⟨bd, sc, tl, tat, tb, cn, cf, sn, sf, tn, tf, vv, ov, un, uy, uw, uq, uz, us, up, ua, uk, ut, ub, fo, fd, hP, hD, hS, hSt, hRs, hTx⟩ := I
  have hA : ∀ q : Nat, s.heap.size ≤ q → (fun q => s.heap.size ≤ q) q := fun _ h => h
  have hce0 : ce ≤ 601024 ∧ sl ≤ 7293034 := ⟨by omega, by omega⟩
  have hl : lv_has ls 9 [(5, .int (nI i)), (4, .ref o2), (3, .ref o1), (2, .ref jo), (1, .ref (ad 0)), (0, .ref b)] := hl
  refine lv_aload_n hx hb dL_law_916 rfl (lv_at hl 4 rfl) ?_
  refine lv_aload_n hx hb dL_law_917 rfl (lv_at hl 5 rfl) ?_
  refine lv_iload hx hb dL_law_918 (lv_at hl 0 rfl) ?_
  refine lv_iconst (v := 1) hx hb dL_law_920 (by decide) ?_
  refine lv_iadd hx hb dL_law_921 ?_
  refine va_sld (i := nI i + 1) hx hb hX hbl (Nat.not_le.mpr hbl) hS (show vp_in (nI i + 1) L from lw_in (k := 1) (by omega) hL) dL_law_922 ?_
  refine lv_aload_n hx hb dL_law_923 rfl (lv_at hl 5 rfl) ?_
  refine lv_iload hx hb dL_law_924 (lv_at hl 0 rfl) ?_
  refine lv_iconst (v := 2) hx hb dL_law_926 (by decide) ?_
  refine lv_iadd hx hb dL_law_927 ?_
  refine va_sld (i := nI i + 2) hx hb hX hbl (Nat.not_le.mpr hbl) hS (show vp_in (nI i + 2) L from lw_in (k := 2) (by omega) hL) dL_law_928 ?_
  refine lv_aload_n hx hb dL_law_929 rfl (lv_at hl 5 rfl) ?_
  refine lv_iload hx hb dL_law_930 (lv_at hl 0 rfl) ?_
  refine lv_iconst (v := 3) hx hb dL_law_932 (by decide) ?_
  refine lv_iadd hx hb dL_law_933 ?_
  refine va_sld (i := nI i + 3) hx hb hX hbl (Nat.not_le.mpr hbl) hS (show vp_in (nI i + 3) L from lw_in (k := 3) (by omega) hL) dL_law_934 ?_
  refine lv_aload_n hx hb dL_law_935 rfl (lv_at hl 2 rfl) ?_
  rcases R_key (uw := uw) (us := us) hRs ((xs (nI i + 1).toNatClampNeg)) ((xs (nI i + 2).toNatClampNeg)) ((xs (nI i + 3).toNatClampNeg)) with ⟨t, t', ht, e1, e2⟩ | ⟨a, e1, e2⟩
  · have htz : 0 < t' ∧ t' < 4 := by omega
    refine lxS (As := [.ref (ad 0), .int (xs (nI i + 1).toNatClampNeg), .int (xs (nI i + 2).toNatClampNeg), .int (xs (nI i + 3).toNatClampNeg), .ref o1]) (rest := []) (wr := ((o2, .inl (g 5, 1, .inr (.inr (.inr (.inl fd))))) :: (wM g jo js jp ja jk jt jb un uy uw uq uz us up ua uk ut ub))) X K hs hnc (kxL_key l hf0 G g ad bd sc tl tat tb cn cf sn sf tn tf vv ov o1 fo ((xs (nI i + 1).toNatClampNeg)) ((xs (nI i + 2).toNatClampNeg)) ((xs (nI i + 3).toNatClampNeg)) _ _ ht e1) hd_L_key gL_law_L_key hP hD hS hA hl.1 dL_law_936 rfl rfl ⟨(Nat.le_of_ble_eq_true rfl), (Nat.le_of_ble_eq_true rfl)⟩ rfl (Nat.le_of_ble_eq_true rfl) hce (fun w1 H locs hp hP hD hS => ?_)
    have hp : w1 = _ := hp
    subst hp
    have hP : va_P G vwCl (lwW g ad bd sc tl tat tb cn cf sn sf tn tf vv ov jo js jp ja jk jt jb un uy uw uq uz us up ua uk ut ub o1 fo o2 fd) H := hP
    have hD : va_D (fun q => s.heap.size ≤ q) (lwW g ad bd sc tl tat tb cn cf sn sf tn tf vv ov jo js jp ja jk jt jb un uy uw uq uz us up ua uk ut ub o1 fo o2 fd) := hD
    refine lv_istore (lv' := [(6, .int (nI t')), (5, .int (nI i)), (4, .ref o2), (3, .ref o1), (2, .ref jo), (1, .ref (ad 0)), (0, .ref b)]) hx hb dL_law_939 hl (by decide) rfl (fun ls hl => ?_)
    refine lv_aload_n hx hb dL_law_941 rfl (lv_at hl 4 rfl) ?_
    refine lv_aload_n hx hb dL_law_942 rfl (lv_at hl 6 rfl) ?_
    refine lv_iload hx hb dL_law_943 (lv_at hl 1 rfl) ?_
    refine lv_iconst (v := 1) hx hb dL_law_945 (by decide) ?_
    refine lv_iadd hx hb dL_law_946 ?_
    refine va_sld (i := nI i + 1) hx hb hX hbl (Nat.not_le.mpr hbl) hS (show vp_in (nI i + 1) L from lw_in (k := 1) (by omega) hL) dL_law_947 ?_
    refine lv_aload_n hx hb dL_law_948 rfl (lv_at hl 6 rfl) ?_
    refine lv_iload hx hb dL_law_949 (lv_at hl 1 rfl) ?_
    refine lv_iconst (v := 2) hx hb dL_law_951 (by decide) ?_
    refine lv_iadd hx hb dL_law_952 ?_
    refine va_sld (i := nI i + 2) hx hb hX hbl (Nat.not_le.mpr hbl) hS (show vp_in (nI i + 2) L from lw_in (k := 2) (by omega) hL) dL_law_953 ?_
    refine lv_aload_n hx hb dL_law_954 rfl (lv_at hl 6 rfl) ?_
    refine lv_iload hx hb dL_law_955 (lv_at hl 1 rfl) ?_
    refine lv_iconst (v := 3) hx hb dL_law_957 (by decide) ?_
    refine lv_iadd hx hb dL_law_958 ?_
    refine va_sld (i := nI i + 3) hx hb hX hbl (Nat.not_le.mpr hbl) hS (show vp_in (nI i + 3) L from lw_in (k := 3) (by omega) hL) dL_law_959 ?_
    refine rwVf (ci := 4) (As := [.int (xs (nI i + 1).toNatClampNeg), .int (xs (nI i + 2).toNatClampNeg), .int (xs (nI i + 3).toNatClampNeg)]) (rest := []) X K (k_X4_key l G g jo js jp ja jk jt jb un uy uw uq uz us up ua uk ut ub ((xs (nI i + 1).toNatClampNeg)) ((xs (nI i + 2).toNatClampNeg)) ((xs (nI i + 3).toNatClampNeg)) _ e2) hd_X4_key gL_law_X4_key hP hD hS hA foc_M hl.1 dL_law_960 rfl rfl ⟨(Nat.le_of_ble_eq_true rfl), (Nat.le_of_ble_eq_true rfl)⟩ rfl rfl rfl (Nat.le_of_ble_eq_true rfl) hce (fun H locs hP hD hS => ?_)
    have hP : va_P G vwCl (lwW g ad bd sc tl tat tb cn cf sn sf tn tf vv ov jo js jp ja jk jt jb un uy (nI t') uq uz us up ua uk ut ub o1 fo o2 fd) H := hP
    have hD : va_D (fun q => s.heap.size ≤ q) (lwW g ad bd sc tl tat tb cn cf sn sf tn tf vv ov jo js jp ja jk jt jb un uy (nI t') uq uz us up ua uk ut ub o1 fo o2 fd) := hD
    refine lv_istore (lv' := [(7, .int 0), (6, .int (nI t')), (5, .int (nI i)), (4, .ref o2), (3, .ref o1), (2, .ref jo), (1, .ref (ad 0)), (0, .ref b)]) hx hb dL_law_963 hl (by decide) rfl (fun ls hl => ?_)
    refine lv_aload_n hx hb dL_law_965 rfl (lv_at hl 5 rfl) ?_
    refine roV (ci := 4) (As := []) (rest := []) X K (k_X4_thrown l G g jo js jp ja jk jt jb un uy (nI t') uq uz us up ua uk ut ub _ rfl) hd_X4_thrown gL_law_X4_thrown ((foc_M (M' := [])).sub hP) hl.1 dL_law_966 rfl rfl ⟨(Nat.le_of_ble_eq_true rfl), (Nat.le_of_ble_eq_true rfl)⟩ rfl rfl rfl (Nat.le_of_ble_eq_true rfl) hce ?_
    refine lv_iload hx hb dL_law_969 (lv_at hl 1 rfl) ?_
    refine lv_icmp_eq (tgt := 976) hx hb dL_law_971 (by decide) (fun _ => ?_) (fun h => absurd rfl h)
    refine lv_iload hx hb dL_law_976 (lv_at hl 1 rfl) ?_
    refine lv_if_ne (tgt := 993) hx hb dL_law_978 (by decide) (fun _ => ?_) (fun h => absurd h (lw_nz htz))
    refine lv_goto (tgt := 1847) hx hb dL_law_993 (by decide) ?_
    exact kk _ _ _ (lwI.mk hP hD hS hSt hRs hTx) (lv_dr hl)
  · refine lxS (As := [.ref (ad 0), .int (xs (nI i + 1).toNatClampNeg), .int (xs (nI i + 2).toNatClampNeg), .int (xs (nI i + 3).toNatClampNeg), .ref o1]) (rest := []) (wr := ((o2, .inl (g 5, 1, .inr (.inr (.inr (.inl fd))))) :: (wM g jo js jp ja jk jt jb un uy uw uq uz us up ua uk ut ub))) X K hs hnc (kL_key l G g ad bd sc tl tat tb cn cf sn sf tn tf vv ov o1 fo ((xs (nI i + 1).toNatClampNeg)) ((xs (nI i + 2).toNatClampNeg)) ((xs (nI i + 3).toNatClampNeg)) _ e1) hd_L_key gL_law_L_key hP hD hS hA hl.1 dL_law_936 rfl rfl ⟨(Nat.le_of_ble_eq_true rfl), (Nat.le_of_ble_eq_true rfl)⟩ rfl (Nat.le_of_ble_eq_true rfl) hce (fun w1 H locs hp hP hD hS => ?_)
    have hp : w1 = _ := hp
    subst hp
    have hP : va_P G vwCl (lwW g ad bd sc tl tat tb cn cf sn sf tn tf vv ov jo js jp ja jk jt jb un uy uw uq uz us up ua uk ut ub o1 (vp_updL fo 0 a.toInt64) o2 fd) H := hP
    have hD : va_D (fun q => s.heap.size ≤ q) (lwW g ad bd sc tl tat tb cn cf sn sf tn tf vv ov jo js jp ja jk jt jb un uy uw uq uz us up ua uk ut ub o1 (vp_updL fo 0 a.toInt64) o2 fd) := hD
    refine lv_istore (lv' := [(6, .int 0), (5, .int (nI i)), (4, .ref o2), (3, .ref o1), (2, .ref jo), (1, .ref (ad 0)), (0, .ref b)]) hx hb dL_law_939 hl (by decide) rfl (fun ls hl => ?_)
    refine lv_aload_n hx hb dL_law_941 rfl (lv_at hl 4 rfl) ?_
    refine lv_aload_n hx hb dL_law_942 rfl (lv_at hl 6 rfl) ?_
    refine lv_iload hx hb dL_law_943 (lv_at hl 1 rfl) ?_
    refine lv_iconst (v := 1) hx hb dL_law_945 (by decide) ?_
    refine lv_iadd hx hb dL_law_946 ?_
    refine va_sld (i := nI i + 1) hx hb hX hbl (Nat.not_le.mpr hbl) hS (show vp_in (nI i + 1) L from lw_in (k := 1) (by omega) hL) dL_law_947 ?_
    refine lv_aload_n hx hb dL_law_948 rfl (lv_at hl 6 rfl) ?_
    refine lv_iload hx hb dL_law_949 (lv_at hl 1 rfl) ?_
    refine lv_iconst (v := 2) hx hb dL_law_951 (by decide) ?_
    refine lv_iadd hx hb dL_law_952 ?_
    refine va_sld (i := nI i + 2) hx hb hX hbl (Nat.not_le.mpr hbl) hS (show vp_in (nI i + 2) L from lw_in (k := 2) (by omega) hL) dL_law_953 ?_
    refine lv_aload_n hx hb dL_law_954 rfl (lv_at hl 6 rfl) ?_
    refine lv_iload hx hb dL_law_955 (lv_at hl 1 rfl) ?_
    refine lv_iconst (v := 3) hx hb dL_law_957 (by decide) ?_
    refine lv_iadd hx hb dL_law_958 ?_
    refine va_sld (i := nI i + 3) hx hb hX hbl (Nat.not_le.mpr hbl) hS (show vp_in (nI i + 3) L from lw_in (k := 3) (by omega) hL) dL_law_959 ?_
    refine rwVf (ci := 4) (As := [.int (xs (nI i + 1).toNatClampNeg), .int (xs (nI i + 2).toNatClampNeg), .int (xs (nI i + 3).toNatClampNeg)]) (rest := []) X K (k_X4_key l G g jo js jp ja jk jt jb un uy uw uq uz us up ua uk ut ub ((xs (nI i + 1).toNatClampNeg)) ((xs (nI i + 2).toNatClampNeg)) ((xs (nI i + 3).toNatClampNeg)) _ e2) hd_X4_key gL_law_X4_key hP hD hS hA foc_M hl.1 dL_law_960 rfl rfl ⟨(Nat.le_of_ble_eq_true rfl), (Nat.le_of_ble_eq_true rfl)⟩ rfl rfl rfl (Nat.le_of_ble_eq_true rfl) hce (fun H locs hP hD hS => ?_)
    have hP : va_P G vwCl (lwW g ad bd sc tl tat tb cn cf sn sf tn tf vv ov jo js jp ja jk jt jb un uy 0 uq uz us up ua uk ut ub o1 (vp_updL fo 0 a.toInt64) o2 fd) H := hP
    have hD : va_D (fun q => s.heap.size ≤ q) (lwW g ad bd sc tl tat tb cn cf sn sf tn tf vv ov jo js jp ja jk jt jb un uy 0 uq uz us up ua uk ut ub o1 (vp_updL fo 0 a.toInt64) o2 fd) := hD
    refine lv_istore (lv' := [(7, .int a), (6, .int 0), (5, .int (nI i)), (4, .ref o2), (3, .ref o1), (2, .ref jo), (1, .ref (ad 0)), (0, .ref b)]) hx hb dL_law_963 hl (by decide) rfl (fun ls hl => ?_)
    refine lv_aload_n hx hb dL_law_965 rfl (lv_at hl 5 rfl) ?_
    refine roV (ci := 4) (As := []) (rest := []) X K (k_X4_thrown l G g jo js jp ja jk jt jb un uy 0 uq uz us up ua uk ut ub _ rfl) hd_X4_thrown gL_law_X4_thrown ((foc_M (M' := [])).sub hP) hl.1 dL_law_966 rfl rfl ⟨(Nat.le_of_ble_eq_true rfl), (Nat.le_of_ble_eq_true rfl)⟩ rfl rfl rfl (Nat.le_of_ble_eq_true rfl) hce ?_
    refine lv_iload hx hb dL_law_969 (lv_at hl 1 rfl) ?_
    refine lv_icmp_eq (tgt := 976) hx hb dL_law_971 (by decide) (fun _ => ?_) (fun h => absurd rfl h)
    refine lv_iload hx hb dL_law_976 (lv_at hl 1 rfl) ?_
    refine lv_if_ne (tgt := 993) hx hb dL_law_978 (by decide) (fun h => absurd rfl h) (fun _ => ?_)
    refine lv_aload_n hx hb dL_law_981 rfl (lv_at hl 4 rfl) ?_
    refine lv_iconst (v := 0) hx hb dL_law_982 (by decide) ?_
    refine va_lald hx hb K.1 hP 8 4 rfl rfl (vp_in_iff.mpr (by decide)) dL_law_983 ?_
    refine lv_iload hx hb dL_law_984 (lv_at hl 0 rfl) ?_
    refine lv_i2l (v := a.toInt64) hx hb dL_law_986 rfl ?_
    refine W.lcmp hx hb dL_law_987 ?_
    refine lv_if_eq (tgt := 993) hx hb dL_law_988 (by decide) (fun _ => ?_) (fun h => absurd (lcm_o _ _) h)
    refine lv_goto (tgt := 1847) hx hb dL_law_993 (by decide) ?_
    exact kk _ _ _ (lwI.mk hP hD hS hSt hRs hTx) (lv_dr hl)
set_option maxHeartbeats 4000000 in
set_option maxRecDepth 100000 in
theorem law_value {l : Launch} {p : Program} {e : Env} {s : State} {m : MethodId} {below : List Frame} {meth : Method} {c : Code} {b L : Nat} {xs : Nat → Int32} {G : va_G} {g : Nat → ClassId} {ad : Nat → Nat} {jo js jp ja jk jt jb o1 o2 : Nat} {H : Heap} {locs : List Loc} {ce sl i : Nat} {ls : Array Slot} {Q : State → Prop} (hce : ce + 1 ≤ 601024 ∧ sl + 6 ≤ 7293034) (hi : i + 5 ≤ L) (E : lwE l p s m meth c b L xs G g) (I : lwI G g ad jo js jp ja jk jt jb o1 o2 s H locs) (hl : lv_has ls 9 (lwL b (ad 0) jo o1 o2 i))
    (kk : ∀ (H1 : Heap) (locs1 : List Loc) (ls1 : Array Slot), lwI G g ad jo js jp ja jk jt jb o1 o2 s H1 locs1 → lv_has ls1 9 (lwL b (ad 0) jo o1 o2 i) → W p l e room_1 s m #[Value.ref b] below meth c H1 locs1 (ce + 1) (sl + 6) Q (F0 m 1847 ls1 [])) : W p l e room_1 s m #[Value.ref b] below meth c H locs ce sl Q (F0 m 996 ls []) := by
  obtain ⟨X, K, hs, hnc, hX, hbl, hL, hf0⟩ := E
  obtain ⟨hx, hb, hml, hr, hown, hts, hk⟩ := id X
  obtain ⟨bd, sc, tl, tat, tb, cn, cf, sn, sf, tn, tf, vv, ov, un, uy, uw, uq, uz, us, up, ua, uk, ut, ub, fo, fd, hP, hD, hS, hSt, hRs, hTx⟩ := I
  have hA : ∀ q : Nat, s.heap.size ≤ q → (fun q => s.heap.size ≤ q) q := fun _ h => h
  have hce0 : ce ≤ 601024 ∧ sl ≤ 7293034 := ⟨by omega, by omega⟩
  have hl : lv_has ls 9 [(5, .int (nI i)), (4, .ref o2), (3, .ref o1), (2, .ref jo), (1, .ref (ad 0)), (0, .ref b)] := hl
  refine lv_aload_n hx hb dL_law_996 rfl (lv_at hl 4 rfl) ?_
  refine lv_aload_n hx hb dL_law_997 rfl (lv_at hl 5 rfl) ?_
  refine lv_iload hx hb dL_law_998 (lv_at hl 0 rfl) ?_
  refine lv_iconst (v := 1) hx hb dL_law_1000 (by decide) ?_
  refine lv_iadd hx hb dL_law_1001 ?_
  refine va_sld (i := nI i + 1) hx hb hX hbl (Nat.not_le.mpr hbl) hS (show vp_in (nI i + 1) L from lw_in (k := 1) (by omega) hL) dL_law_1002 ?_
  refine lv_aload_n hx hb dL_law_1003 rfl (lv_at hl 5 rfl) ?_
  refine lv_iload hx hb dL_law_1004 (lv_at hl 0 rfl) ?_
  refine lv_iconst (v := 2) hx hb dL_law_1006 (by decide) ?_
  refine lv_iadd hx hb dL_law_1007 ?_
  refine va_sld (i := nI i + 2) hx hb hX hbl (Nat.not_le.mpr hbl) hS (show vp_in (nI i + 2) L from lw_in (k := 2) (by omega) hL) dL_law_1008 ?_
  refine lv_aload_n hx hb dL_law_1009 rfl (lv_at hl 2 rfl) ?_
  rcases R_value (uw := uw) (us := us) hRs ((xs (nI i + 1).toNatClampNeg)) ((xs (nI i + 2).toNatClampNeg)) with ⟨t, t', ht, e1, e2⟩ | ⟨a, e1, e2⟩
  · have htz : 0 < t' ∧ t' < 4 := by omega
    refine lxS (As := [.ref (ad 0), .int (xs (nI i + 1).toNatClampNeg), .int (xs (nI i + 2).toNatClampNeg), .ref o1]) (rest := []) (wr := ((o2, .inl (g 5, 1, .inr (.inr (.inr (.inl fd))))) :: (wM g jo js jp ja jk jt jb un uy uw uq uz us up ua uk ut ub))) X K hs hnc (kxL_value l hf0 G g ad bd sc tl tat tb cn cf sn sf tn tf vv ov o1 fo ((xs (nI i + 1).toNatClampNeg)) ((xs (nI i + 2).toNatClampNeg)) _ _ ht e1) hd_L_value gL_law_L_value hP hD hS hA hl.1 dL_law_1010 rfl rfl ⟨(Nat.le_of_ble_eq_true rfl), (Nat.le_of_ble_eq_true rfl)⟩ rfl (Nat.le_of_ble_eq_true rfl) hce (fun w1 H locs hp hP hD hS => ?_)
    have hp : w1 = _ := hp
    subst hp
    have hP : va_P G vwCl (lwW g ad bd sc tl tat tb cn cf sn sf tn tf vv ov jo js jp ja jk jt jb un uy uw uq uz us up ua uk ut ub o1 fo o2 fd) H := hP
    have hD : va_D (fun q => s.heap.size ≤ q) (lwW g ad bd sc tl tat tb cn cf sn sf tn tf vv ov jo js jp ja jk jt jb un uy uw uq uz us up ua uk ut ub o1 fo o2 fd) := hD
    refine lv_istore (lv' := [(6, .int (nI t')), (5, .int (nI i)), (4, .ref o2), (3, .ref o1), (2, .ref jo), (1, .ref (ad 0)), (0, .ref b)]) hx hb dL_law_1013 hl (by decide) rfl (fun ls hl => ?_)
    refine lv_aload_n hx hb dL_law_1015 rfl (lv_at hl 4 rfl) ?_
    refine lv_aload_n hx hb dL_law_1016 rfl (lv_at hl 6 rfl) ?_
    refine lv_iload hx hb dL_law_1017 (lv_at hl 1 rfl) ?_
    refine lv_iconst (v := 1) hx hb dL_law_1019 (by decide) ?_
    refine lv_iadd hx hb dL_law_1020 ?_
    refine va_sld (i := nI i + 1) hx hb hX hbl (Nat.not_le.mpr hbl) hS (show vp_in (nI i + 1) L from lw_in (k := 1) (by omega) hL) dL_law_1021 ?_
    refine lv_aload_n hx hb dL_law_1022 rfl (lv_at hl 6 rfl) ?_
    refine lv_iload hx hb dL_law_1023 (lv_at hl 1 rfl) ?_
    refine lv_iconst (v := 2) hx hb dL_law_1025 (by decide) ?_
    refine lv_iadd hx hb dL_law_1026 ?_
    refine va_sld (i := nI i + 2) hx hb hX hbl (Nat.not_le.mpr hbl) hS (show vp_in (nI i + 2) L from lw_in (k := 2) (by omega) hL) dL_law_1027 ?_
    refine rwVf (ci := 4) (As := [.int (xs (nI i + 1).toNatClampNeg), .int (xs (nI i + 2).toNatClampNeg)]) (rest := []) X K (k_X4_value l G g jo js jp ja jk jt jb un uy uw uq uz us up ua uk ut ub ((xs (nI i + 1).toNatClampNeg)) ((xs (nI i + 2).toNatClampNeg)) _ e2) hd_X4_value gL_law_X4_value hP hD hS hA foc_M hl.1 dL_law_1028 rfl rfl ⟨(Nat.le_of_ble_eq_true rfl), (Nat.le_of_ble_eq_true rfl)⟩ rfl rfl rfl (Nat.le_of_ble_eq_true rfl) hce (fun H locs hP hD hS => ?_)
    have hP : va_P G vwCl (lwW g ad bd sc tl tat tb cn cf sn sf tn tf vv ov jo js jp ja jk jt jb un uy (nI t') uq uz us up ua uk ut ub o1 fo o2 fd) H := hP
    have hD : va_D (fun q => s.heap.size ≤ q) (lwW g ad bd sc tl tat tb cn cf sn sf tn tf vv ov jo js jp ja jk jt jb un uy (nI t') uq uz us up ua uk ut ub o1 fo o2 fd) := hD
    refine lv_istore (lv' := [(7, .int 0), (6, .int (nI t')), (5, .int (nI i)), (4, .ref o2), (3, .ref o1), (2, .ref jo), (1, .ref (ad 0)), (0, .ref b)]) hx hb dL_law_1031 hl (by decide) rfl (fun ls hl => ?_)
    refine lv_aload_n hx hb dL_law_1033 rfl (lv_at hl 5 rfl) ?_
    refine roV (ci := 4) (As := []) (rest := []) X K (k_X4_thrown l G g jo js jp ja jk jt jb un uy (nI t') uq uz us up ua uk ut ub _ rfl) hd_X4_thrown gL_law_X4_thrown ((foc_M (M' := [])).sub hP) hl.1 dL_law_1034 rfl rfl ⟨(Nat.le_of_ble_eq_true rfl), (Nat.le_of_ble_eq_true rfl)⟩ rfl rfl rfl (Nat.le_of_ble_eq_true rfl) hce ?_
    refine lv_iload hx hb dL_law_1037 (lv_at hl 1 rfl) ?_
    refine lv_icmp_eq (tgt := 1044) hx hb dL_law_1039 (by decide) (fun _ => ?_) (fun h => absurd rfl h)
    refine lv_iload hx hb dL_law_1044 (lv_at hl 1 rfl) ?_
    refine lv_if_ne (tgt := 1061) hx hb dL_law_1046 (by decide) (fun _ => ?_) (fun h => absurd h (lw_nz htz))
    refine lv_goto (tgt := 1847) hx hb dL_law_1061 (by decide) ?_
    exact kk _ _ _ (lwI.mk hP hD hS hSt hRs hTx) (lv_dr hl)
  · refine lxS (As := [.ref (ad 0), .int (xs (nI i + 1).toNatClampNeg), .int (xs (nI i + 2).toNatClampNeg), .ref o1]) (rest := []) (wr := ((o2, .inl (g 5, 1, .inr (.inr (.inr (.inl fd))))) :: (wM g jo js jp ja jk jt jb un uy uw uq uz us up ua uk ut ub))) X K hs hnc (kL_value l G g ad bd sc tl tat tb cn cf sn sf tn tf vv ov o1 fo ((xs (nI i + 1).toNatClampNeg)) ((xs (nI i + 2).toNatClampNeg)) _ e1) hd_L_value gL_law_L_value hP hD hS hA hl.1 dL_law_1010 rfl rfl ⟨(Nat.le_of_ble_eq_true rfl), (Nat.le_of_ble_eq_true rfl)⟩ rfl (Nat.le_of_ble_eq_true rfl) hce (fun w1 H locs hp hP hD hS => ?_)
    have hp : w1 = _ := hp
    subst hp
    have hP : va_P G vwCl (lwW g ad bd sc tl tat tb cn cf sn sf tn tf vv ov jo js jp ja jk jt jb un uy uw uq uz us up ua uk ut ub o1 (vp_updL fo 0 a.toInt64) o2 fd) H := hP
    have hD : va_D (fun q => s.heap.size ≤ q) (lwW g ad bd sc tl tat tb cn cf sn sf tn tf vv ov jo js jp ja jk jt jb un uy uw uq uz us up ua uk ut ub o1 (vp_updL fo 0 a.toInt64) o2 fd) := hD
    refine lv_istore (lv' := [(6, .int 0), (5, .int (nI i)), (4, .ref o2), (3, .ref o1), (2, .ref jo), (1, .ref (ad 0)), (0, .ref b)]) hx hb dL_law_1013 hl (by decide) rfl (fun ls hl => ?_)
    refine lv_aload_n hx hb dL_law_1015 rfl (lv_at hl 4 rfl) ?_
    refine lv_aload_n hx hb dL_law_1016 rfl (lv_at hl 6 rfl) ?_
    refine lv_iload hx hb dL_law_1017 (lv_at hl 1 rfl) ?_
    refine lv_iconst (v := 1) hx hb dL_law_1019 (by decide) ?_
    refine lv_iadd hx hb dL_law_1020 ?_
    refine va_sld (i := nI i + 1) hx hb hX hbl (Nat.not_le.mpr hbl) hS (show vp_in (nI i + 1) L from lw_in (k := 1) (by omega) hL) dL_law_1021 ?_
    refine lv_aload_n hx hb dL_law_1022 rfl (lv_at hl 6 rfl) ?_
    refine lv_iload hx hb dL_law_1023 (lv_at hl 1 rfl) ?_
    refine lv_iconst (v := 2) hx hb dL_law_1025 (by decide) ?_
    refine lv_iadd hx hb dL_law_1026 ?_
    refine va_sld (i := nI i + 2) hx hb hX hbl (Nat.not_le.mpr hbl) hS (show vp_in (nI i + 2) L from lw_in (k := 2) (by omega) hL) dL_law_1027 ?_
    refine rwVf (ci := 4) (As := [.int (xs (nI i + 1).toNatClampNeg), .int (xs (nI i + 2).toNatClampNeg)]) (rest := []) X K (k_X4_value l G g jo js jp ja jk jt jb un uy uw uq uz us up ua uk ut ub ((xs (nI i + 1).toNatClampNeg)) ((xs (nI i + 2).toNatClampNeg)) _ e2) hd_X4_value gL_law_X4_value hP hD hS hA foc_M hl.1 dL_law_1028 rfl rfl ⟨(Nat.le_of_ble_eq_true rfl), (Nat.le_of_ble_eq_true rfl)⟩ rfl rfl rfl (Nat.le_of_ble_eq_true rfl) hce (fun H locs hP hD hS => ?_)
    have hP : va_P G vwCl (lwW g ad bd sc tl tat tb cn cf sn sf tn tf vv ov jo js jp ja jk jt jb un uy 0 uq uz us up ua uk ut ub o1 (vp_updL fo 0 a.toInt64) o2 fd) H := hP
    have hD : va_D (fun q => s.heap.size ≤ q) (lwW g ad bd sc tl tat tb cn cf sn sf tn tf vv ov jo js jp ja jk jt jb un uy 0 uq uz us up ua uk ut ub o1 (vp_updL fo 0 a.toInt64) o2 fd) := hD
    refine lv_istore (lv' := [(7, .int a), (6, .int 0), (5, .int (nI i)), (4, .ref o2), (3, .ref o1), (2, .ref jo), (1, .ref (ad 0)), (0, .ref b)]) hx hb dL_law_1031 hl (by decide) rfl (fun ls hl => ?_)
    refine lv_aload_n hx hb dL_law_1033 rfl (lv_at hl 5 rfl) ?_
    refine roV (ci := 4) (As := []) (rest := []) X K (k_X4_thrown l G g jo js jp ja jk jt jb un uy 0 uq uz us up ua uk ut ub _ rfl) hd_X4_thrown gL_law_X4_thrown ((foc_M (M' := [])).sub hP) hl.1 dL_law_1034 rfl rfl ⟨(Nat.le_of_ble_eq_true rfl), (Nat.le_of_ble_eq_true rfl)⟩ rfl rfl rfl (Nat.le_of_ble_eq_true rfl) hce ?_
    refine lv_iload hx hb dL_law_1037 (lv_at hl 1 rfl) ?_
    refine lv_icmp_eq (tgt := 1044) hx hb dL_law_1039 (by decide) (fun _ => ?_) (fun h => absurd rfl h)
    refine lv_iload hx hb dL_law_1044 (lv_at hl 1 rfl) ?_
    refine lv_if_ne (tgt := 1061) hx hb dL_law_1046 (by decide) (fun h => absurd rfl h) (fun _ => ?_)
    refine lv_aload_n hx hb dL_law_1049 rfl (lv_at hl 4 rfl) ?_
    refine lv_iconst (v := 0) hx hb dL_law_1050 (by decide) ?_
    refine va_lald hx hb K.1 hP 8 4 rfl rfl (vp_in_iff.mpr (by decide)) dL_law_1051 ?_
    refine lv_iload hx hb dL_law_1052 (lv_at hl 0 rfl) ?_
    refine lv_i2l (v := a.toInt64) hx hb dL_law_1054 rfl ?_
    refine W.lcmp hx hb dL_law_1055 ?_
    refine lv_if_eq (tgt := 1061) hx hb dL_law_1056 (by decide) (fun _ => ?_) (fun h => absurd (lcm_o _ _) h)
    refine lv_goto (tgt := 1847) hx hb dL_law_1061 (by decide) ?_
    exact kk _ _ _ (lwI.mk hP hD hS hSt hRs hTx) (lv_dr hl)
set_option maxHeartbeats 4000000 in
set_option maxRecDepth 100000 in
theorem law_sum {l : Launch} {p : Program} {e : Env} {s : State} {m : MethodId} {below : List Frame} {meth : Method} {c : Code} {b L : Nat} {xs : Nat → Int32} {G : va_G} {g : Nat → ClassId} {ad : Nat → Nat} {jo js jp ja jk jt jb o1 o2 : Nat} {H : Heap} {locs : List Loc} {ce sl i : Nat} {ls : Array Slot} {Q : State → Prop} (hce : ce + 1 ≤ 601024 ∧ sl + 6 ≤ 7293034) (hi : i + 5 ≤ L) (E : lwE l p s m meth c b L xs G g) (I : lwI G g ad jo js jp ja jk jt jb o1 o2 s H locs) (hl : lv_has ls 9 (lwL b (ad 0) jo o1 o2 i))
    (kk : ∀ (H1 : Heap) (locs1 : List Loc) (ls1 : Array Slot), lwI G g ad jo js jp ja jk jt jb o1 o2 s H1 locs1 → lv_has ls1 9 (lwL b (ad 0) jo o1 o2 i) → W p l e room_1 s m #[Value.ref b] below meth c H1 locs1 (ce + 1) (sl + 6) Q (F0 m 1847 ls1 [])) : W p l e room_1 s m #[Value.ref b] below meth c H locs ce sl Q (F0 m 1064 ls []) := by
  obtain ⟨X, K, hs, hnc, hX, hbl, hL, hf0⟩ := E
  obtain ⟨hx, hb, hml, hr, hown, hts, hk⟩ := id X
  obtain ⟨bd, sc, tl, tat, tb, cn, cf, sn, sf, tn, tf, vv, ov, un, uy, uw, uq, uz, us, up, ua, uk, ut, ub, fo, fd, hP, hD, hS, hSt, hRs, hTx⟩ := I
  have hA : ∀ q : Nat, s.heap.size ≤ q → (fun q => s.heap.size ≤ q) q := fun _ h => h
  have hce0 : ce ≤ 601024 ∧ sl ≤ 7293034 := ⟨by omega, by omega⟩
  have hl : lv_has ls 9 [(5, .int (nI i)), (4, .ref o2), (3, .ref o1), (2, .ref jo), (1, .ref (ad 0)), (0, .ref b)] := hl
  refine lv_aload_n hx hb dL_law_1064 rfl (lv_at hl 4 rfl) ?_
  refine lv_aload_n hx hb dL_law_1065 rfl (lv_at hl 5 rfl) ?_
  refine lv_iload hx hb dL_law_1066 (lv_at hl 0 rfl) ?_
  refine lv_iconst (v := 1) hx hb dL_law_1068 (by decide) ?_
  refine lv_iadd hx hb dL_law_1069 ?_
  refine va_sld (i := nI i + 1) hx hb hX hbl (Nat.not_le.mpr hbl) hS (show vp_in (nI i + 1) L from lw_in (k := 1) (by omega) hL) dL_law_1070 ?_
  refine lv_aload_n hx hb dL_law_1071 rfl (lv_at hl 5 rfl) ?_
  refine lv_iload hx hb dL_law_1072 (lv_at hl 0 rfl) ?_
  refine lv_iconst (v := 2) hx hb dL_law_1074 (by decide) ?_
  refine lv_iadd hx hb dL_law_1075 ?_
  refine va_sld (i := nI i + 2) hx hb hX hbl (Nat.not_le.mpr hbl) hS (show vp_in (nI i + 2) L from lw_in (k := 2) (by omega) hL) dL_law_1076 ?_
  refine lv_aload_n hx hb dL_law_1077 rfl (lv_at hl 5 rfl) ?_
  refine lv_iload hx hb dL_law_1078 (lv_at hl 0 rfl) ?_
  refine lv_iconst (v := 3) hx hb dL_law_1080 (by decide) ?_
  refine lv_iadd hx hb dL_law_1081 ?_
  refine va_sld (i := nI i + 3) hx hb hX hbl (Nat.not_le.mpr hbl) hS (show vp_in (nI i + 3) L from lw_in (k := 3) (by omega) hL) dL_law_1082 ?_
  refine lv_aload_n hx hb dL_law_1083 rfl (lv_at hl 2 rfl) ?_
  rcases R_sum (uw := uw) (us := us) vv hRs ((xs (nI i + 1).toNatClampNeg)) ((xs (nI i + 2).toNatClampNeg)) ((xs (nI i + 3).toNatClampNeg)) with ⟨t, t', ht, e1, e2⟩ | ⟨a, vv', e1, e2⟩
  · have htz : 0 < t' ∧ t' < 4 := by omega
    refine lxS (As := [.ref (ad 0), .int (xs (nI i + 1).toNatClampNeg), .int (xs (nI i + 2).toNatClampNeg), .int (xs (nI i + 3).toNatClampNeg), .ref o1]) (rest := []) (wr := ((o2, .inl (g 5, 1, .inr (.inr (.inr (.inl fd))))) :: (wM g jo js jp ja jk jt jb un uy uw uq uz us up ua uk ut ub))) X K hs hnc (kxL_sum l hf0 G g ad bd sc tl tat tb cn cf sn sf tn tf vv ov o1 fo ((xs (nI i + 1).toNatClampNeg)) ((xs (nI i + 2).toNatClampNeg)) ((xs (nI i + 3).toNatClampNeg)) _ _ ht e1) hd_L_sum gL_law_L_sum hP hD hS hA hl.1 dL_law_1084 rfl rfl ⟨(Nat.le_of_ble_eq_true rfl), (Nat.le_of_ble_eq_true rfl)⟩ rfl (Nat.le_of_ble_eq_true rfl) hce (fun w1 H locs hp hP hD hS => ?_)
    have hp : w1 = _ := hp
    subst hp
    have hP : va_P G vwCl (lwW g ad bd sc tl tat tb cn cf sn sf tn tf vv ov jo js jp ja jk jt jb un uy uw uq uz us up ua uk ut ub o1 fo o2 fd) H := hP
    have hD : va_D (fun q => s.heap.size ≤ q) (lwW g ad bd sc tl tat tb cn cf sn sf tn tf vv ov jo js jp ja jk jt jb un uy uw uq uz us up ua uk ut ub o1 fo o2 fd) := hD
    refine lv_istore (lv' := [(6, .int (nI t')), (5, .int (nI i)), (4, .ref o2), (3, .ref o1), (2, .ref jo), (1, .ref (ad 0)), (0, .ref b)]) hx hb dL_law_1087 hl (by decide) rfl (fun ls hl => ?_)
    refine lv_aload_n hx hb dL_law_1089 rfl (lv_at hl 4 rfl) ?_
    refine lv_aload_n hx hb dL_law_1090 rfl (lv_at hl 6 rfl) ?_
    refine lv_iload hx hb dL_law_1091 (lv_at hl 1 rfl) ?_
    refine lv_iconst (v := 1) hx hb dL_law_1093 (by decide) ?_
    refine lv_iadd hx hb dL_law_1094 ?_
    refine va_sld (i := nI i + 1) hx hb hX hbl (Nat.not_le.mpr hbl) hS (show vp_in (nI i + 1) L from lw_in (k := 1) (by omega) hL) dL_law_1095 ?_
    refine lv_aload_n hx hb dL_law_1096 rfl (lv_at hl 6 rfl) ?_
    refine lv_iload hx hb dL_law_1097 (lv_at hl 1 rfl) ?_
    refine lv_iconst (v := 2) hx hb dL_law_1099 (by decide) ?_
    refine lv_iadd hx hb dL_law_1100 ?_
    refine va_sld (i := nI i + 2) hx hb hX hbl (Nat.not_le.mpr hbl) hS (show vp_in (nI i + 2) L from lw_in (k := 2) (by omega) hL) dL_law_1101 ?_
    refine lv_aload_n hx hb dL_law_1102 rfl (lv_at hl 6 rfl) ?_
    refine lv_iload hx hb dL_law_1103 (lv_at hl 1 rfl) ?_
    refine lv_iconst (v := 3) hx hb dL_law_1105 (by decide) ?_
    refine lv_iadd hx hb dL_law_1106 ?_
    refine va_sld (i := nI i + 3) hx hb hX hbl (Nat.not_le.mpr hbl) hS (show vp_in (nI i + 3) L from lw_in (k := 3) (by omega) hL) dL_law_1107 ?_
    refine rwVf (ci := 4) (As := [.int (xs (nI i + 1).toNatClampNeg), .int (xs (nI i + 2).toNatClampNeg), .int (xs (nI i + 3).toNatClampNeg)]) (rest := []) X K (k_X4_sum l G g jo js jp ja jk jt jb un uy uw uq uz us up ua uk ut ub ((xs (nI i + 1).toNatClampNeg)) ((xs (nI i + 2).toNatClampNeg)) ((xs (nI i + 3).toNatClampNeg)) _ e2) hd_X4_sum gL_law_X4_sum hP hD hS hA foc_M hl.1 dL_law_1108 rfl rfl ⟨(Nat.le_of_ble_eq_true rfl), (Nat.le_of_ble_eq_true rfl)⟩ rfl rfl rfl (Nat.le_of_ble_eq_true rfl) hce (fun H locs hP hD hS => ?_)
    have hP : va_P G vwCl (lwW g ad bd sc tl tat tb cn cf sn sf tn tf vv ov jo js jp ja jk jt jb un uy (nI t') uq uz us up ua uk ut ub o1 fo o2 fd) H := hP
    have hD : va_D (fun q => s.heap.size ≤ q) (lwW g ad bd sc tl tat tb cn cf sn sf tn tf vv ov jo js jp ja jk jt jb un uy (nI t') uq uz us up ua uk ut ub o1 fo o2 fd) := hD
    refine lv_lstore (lv' := [(7, .long 0), (6, .int (nI t')), (5, .int (nI i)), (4, .ref o2), (3, .ref o1), (2, .ref jo), (1, .ref (ad 0)), (0, .ref b)]) hx hb dL_law_1111 hl (by decide) rfl (fun ls hl => ?_)
    refine lv_aload_n hx hb dL_law_1113 rfl (lv_at hl 5 rfl) ?_
    refine roV (ci := 4) (As := []) (rest := []) X K (k_X4_thrown l G g jo js jp ja jk jt jb un uy (nI t') uq uz us up ua uk ut ub _ rfl) hd_X4_thrown gL_law_X4_thrown ((foc_M (M' := [])).sub hP) hl.1 dL_law_1114 rfl rfl ⟨(Nat.le_of_ble_eq_true rfl), (Nat.le_of_ble_eq_true rfl)⟩ rfl rfl rfl (Nat.le_of_ble_eq_true rfl) hce ?_
    refine lv_iload hx hb dL_law_1117 (lv_at hl 1 rfl) ?_
    refine lv_icmp_eq (tgt := 1124) hx hb dL_law_1119 (by decide) (fun _ => ?_) (fun h => absurd rfl h)
    refine lv_iload hx hb dL_law_1124 (lv_at hl 1 rfl) ?_
    refine lv_if_ne (tgt := 1140) hx hb dL_law_1126 (by decide) (fun _ => ?_) (fun h => absurd h (lw_nz htz))
    refine lv_goto (tgt := 1847) hx hb dL_law_1140 (by decide) ?_
    exact kk _ _ _ (lwI.mk hP hD hS hSt hRs hTx) (lv_dr hl)
  · refine lxS (As := [.ref (ad 0), .int (xs (nI i + 1).toNatClampNeg), .int (xs (nI i + 2).toNatClampNeg), .int (xs (nI i + 3).toNatClampNeg), .ref o1]) (rest := []) (wr := ((o2, .inl (g 5, 1, .inr (.inr (.inr (.inl fd))))) :: (wM g jo js jp ja jk jt jb un uy uw uq uz us up ua uk ut ub))) X K hs hnc (kL_sum l G g ad bd sc tl tat tb cn cf sn sf tn tf vv ov o1 fo ((xs (nI i + 1).toNatClampNeg)) ((xs (nI i + 2).toNatClampNeg)) ((xs (nI i + 3).toNatClampNeg)) _ e1) hd_L_sum gL_law_L_sum hP hD hS hA hl.1 dL_law_1084 rfl rfl ⟨(Nat.le_of_ble_eq_true rfl), (Nat.le_of_ble_eq_true rfl)⟩ rfl (Nat.le_of_ble_eq_true rfl) hce (fun w1 H locs hp hP hD hS => ?_)
    have hp : w1 = _ := hp
    subst hp
    have hP : va_P G vwCl (lwW g ad bd sc tl tat tb cn cf sn sf tn tf vv' ov jo js jp ja jk jt jb un uy uw uq uz us up ua uk ut ub o1 (vp_updL fo 0 a) o2 fd) H := hP
    have hD : va_D (fun q => s.heap.size ≤ q) (lwW g ad bd sc tl tat tb cn cf sn sf tn tf vv' ov jo js jp ja jk jt jb un uy uw uq uz us up ua uk ut ub o1 (vp_updL fo 0 a) o2 fd) := hD
    refine lv_istore (lv' := [(6, .int 0), (5, .int (nI i)), (4, .ref o2), (3, .ref o1), (2, .ref jo), (1, .ref (ad 0)), (0, .ref b)]) hx hb dL_law_1087 hl (by decide) rfl (fun ls hl => ?_)
    refine lv_aload_n hx hb dL_law_1089 rfl (lv_at hl 4 rfl) ?_
    refine lv_aload_n hx hb dL_law_1090 rfl (lv_at hl 6 rfl) ?_
    refine lv_iload hx hb dL_law_1091 (lv_at hl 1 rfl) ?_
    refine lv_iconst (v := 1) hx hb dL_law_1093 (by decide) ?_
    refine lv_iadd hx hb dL_law_1094 ?_
    refine va_sld (i := nI i + 1) hx hb hX hbl (Nat.not_le.mpr hbl) hS (show vp_in (nI i + 1) L from lw_in (k := 1) (by omega) hL) dL_law_1095 ?_
    refine lv_aload_n hx hb dL_law_1096 rfl (lv_at hl 6 rfl) ?_
    refine lv_iload hx hb dL_law_1097 (lv_at hl 1 rfl) ?_
    refine lv_iconst (v := 2) hx hb dL_law_1099 (by decide) ?_
    refine lv_iadd hx hb dL_law_1100 ?_
    refine va_sld (i := nI i + 2) hx hb hX hbl (Nat.not_le.mpr hbl) hS (show vp_in (nI i + 2) L from lw_in (k := 2) (by omega) hL) dL_law_1101 ?_
    refine lv_aload_n hx hb dL_law_1102 rfl (lv_at hl 6 rfl) ?_
    refine lv_iload hx hb dL_law_1103 (lv_at hl 1 rfl) ?_
    refine lv_iconst (v := 3) hx hb dL_law_1105 (by decide) ?_
    refine lv_iadd hx hb dL_law_1106 ?_
    refine va_sld (i := nI i + 3) hx hb hX hbl (Nat.not_le.mpr hbl) hS (show vp_in (nI i + 3) L from lw_in (k := 3) (by omega) hL) dL_law_1107 ?_
    refine rwVf (ci := 4) (As := [.int (xs (nI i + 1).toNatClampNeg), .int (xs (nI i + 2).toNatClampNeg), .int (xs (nI i + 3).toNatClampNeg)]) (rest := []) X K (k_X4_sum l G g jo js jp ja jk jt jb un uy uw uq uz us up ua uk ut ub ((xs (nI i + 1).toNatClampNeg)) ((xs (nI i + 2).toNatClampNeg)) ((xs (nI i + 3).toNatClampNeg)) _ e2) hd_X4_sum gL_law_X4_sum hP hD hS hA foc_M hl.1 dL_law_1108 rfl rfl ⟨(Nat.le_of_ble_eq_true rfl), (Nat.le_of_ble_eq_true rfl)⟩ rfl rfl rfl (Nat.le_of_ble_eq_true rfl) hce (fun H locs hP hD hS => ?_)
    have hP : va_P G vwCl (lwW g ad bd sc tl tat tb cn cf sn sf tn tf vv' ov jo js jp ja jk jt jb un uy 0 uq uz us up ua uk ut ub o1 (vp_updL fo 0 a) o2 fd) H := hP
    have hD : va_D (fun q => s.heap.size ≤ q) (lwW g ad bd sc tl tat tb cn cf sn sf tn tf vv' ov jo js jp ja jk jt jb un uy 0 uq uz us up ua uk ut ub o1 (vp_updL fo 0 a) o2 fd) := hD
    refine lv_lstore (lv' := [(7, .long a), (6, .int 0), (5, .int (nI i)), (4, .ref o2), (3, .ref o1), (2, .ref jo), (1, .ref (ad 0)), (0, .ref b)]) hx hb dL_law_1111 hl (by decide) rfl (fun ls hl => ?_)
    refine lv_aload_n hx hb dL_law_1113 rfl (lv_at hl 5 rfl) ?_
    refine roV (ci := 4) (As := []) (rest := []) X K (k_X4_thrown l G g jo js jp ja jk jt jb un uy 0 uq uz us up ua uk ut ub _ rfl) hd_X4_thrown gL_law_X4_thrown ((foc_M (M' := [])).sub hP) hl.1 dL_law_1114 rfl rfl ⟨(Nat.le_of_ble_eq_true rfl), (Nat.le_of_ble_eq_true rfl)⟩ rfl rfl rfl (Nat.le_of_ble_eq_true rfl) hce ?_
    refine lv_iload hx hb dL_law_1117 (lv_at hl 1 rfl) ?_
    refine lv_icmp_eq (tgt := 1124) hx hb dL_law_1119 (by decide) (fun _ => ?_) (fun h => absurd rfl h)
    refine lv_iload hx hb dL_law_1124 (lv_at hl 1 rfl) ?_
    refine lv_if_ne (tgt := 1140) hx hb dL_law_1126 (by decide) (fun h => absurd rfl h) (fun _ => ?_)
    refine lv_aload_n hx hb dL_law_1129 rfl (lv_at hl 4 rfl) ?_
    refine lv_iconst (v := 0) hx hb dL_law_1130 (by decide) ?_
    refine va_lald hx hb K.1 hP 8 4 rfl rfl (vp_in_iff.mpr (by decide)) dL_law_1131 ?_
    refine lv_lload hx hb dL_law_1132 (lv_at hl 0 rfl) ?_
    refine W.lcmp hx hb dL_law_1134 ?_
    refine lv_if_eq (tgt := 1140) hx hb dL_law_1135 (by decide) (fun _ => ?_) (fun h => absurd (lcm_o _ _) h)
    refine lv_goto (tgt := 1847) hx hb dL_law_1140 (by decide) ?_
    exact kk _ _ _ (lwI.mk hP hD hS hSt hRs hTx) (lv_dr hl)
set_option maxHeartbeats 4000000 in
set_option maxRecDepth 100000 in
theorem law_extreme {l : Launch} {p : Program} {e : Env} {s : State} {m : MethodId} {below : List Frame} {meth : Method} {c : Code} {b L : Nat} {xs : Nat → Int32} {G : va_G} {g : Nat → ClassId} {ad : Nat → Nat} {jo js jp ja jk jt jb o1 o2 : Nat} {H : Heap} {locs : List Loc} {ce sl i : Nat} {ls : Array Slot} {Q : State → Prop} (hce : ce + 1 ≤ 601024 ∧ sl + 6 ≤ 7293034) (hi : i + 5 ≤ L) (E : lwE l p s m meth c b L xs G g) (I : lwI G g ad jo js jp ja jk jt jb o1 o2 s H locs) (hl : lv_has ls 9 (lwL b (ad 0) jo o1 o2 i))
    (kk : ∀ (H1 : Heap) (locs1 : List Loc) (ls1 : Array Slot), lwI G g ad jo js jp ja jk jt jb o1 o2 s H1 locs1 → lv_has ls1 9 (lwL b (ad 0) jo o1 o2 i) → W p l e room_1 s m #[Value.ref b] below meth c H1 locs1 (ce + 1) (sl + 6) Q (F0 m 1847 ls1 [])) : W p l e room_1 s m #[Value.ref b] below meth c H locs ce sl Q (F0 m 1143 ls []) := by
  obtain ⟨X, K, hs, hnc, hX, hbl, hL, hf0⟩ := E
  obtain ⟨hx, hb, hml, hr, hown, hts, hk⟩ := id X
  obtain ⟨bd, sc, tl, tat, tb, cn, cf, sn, sf, tn, tf, vv, ov, un, uy, uw, uq, uz, us, up, ua, uk, ut, ub, fo, fd, hP, hD, hS, hSt, hRs, hTx⟩ := I
  have hA : ∀ q : Nat, s.heap.size ≤ q → (fun q => s.heap.size ≤ q) q := fun _ h => h
  have hce0 : ce ≤ 601024 ∧ sl ≤ 7293034 := ⟨by omega, by omega⟩
  have hl : lv_has ls 9 [(5, .int (nI i)), (4, .ref o2), (3, .ref o1), (2, .ref jo), (1, .ref (ad 0)), (0, .ref b)] := hl
  refine lv_aload_n hx hb dL_law_1143 rfl (lv_at hl 4 rfl) ?_
  refine lv_aload_n hx hb dL_law_1144 rfl (lv_at hl 5 rfl) ?_
  refine lv_iload hx hb dL_law_1145 (lv_at hl 0 rfl) ?_
  refine lv_iconst (v := 1) hx hb dL_law_1147 (by decide) ?_
  refine lv_iadd hx hb dL_law_1148 ?_
  refine va_sld (i := nI i + 1) hx hb hX hbl (Nat.not_le.mpr hbl) hS (show vp_in (nI i + 1) L from lw_in (k := 1) (by omega) hL) dL_law_1149 ?_
  refine lv_aload_n hx hb dL_law_1150 rfl (lv_at hl 5 rfl) ?_
  refine lv_iload hx hb dL_law_1151 (lv_at hl 0 rfl) ?_
  refine lv_iconst (v := 2) hx hb dL_law_1153 (by decide) ?_
  refine lv_iadd hx hb dL_law_1154 ?_
  refine va_sld (i := nI i + 2) hx hb hX hbl (Nat.not_le.mpr hbl) hS (show vp_in (nI i + 2) L from lw_in (k := 2) (by omega) hL) dL_law_1155 ?_
  refine lv_aload_n hx hb dL_law_1156 rfl (lv_at hl 5 rfl) ?_
  refine lv_iload hx hb dL_law_1157 (lv_at hl 0 rfl) ?_
  refine lv_iconst (v := 3) hx hb dL_law_1159 (by decide) ?_
  refine lv_iadd hx hb dL_law_1160 ?_
  refine va_sld (i := nI i + 3) hx hb hX hbl (Nat.not_le.mpr hbl) hS (show vp_in (nI i + 3) L from lw_in (k := 3) (by omega) hL) dL_law_1161 ?_
  refine lv_aload_n hx hb dL_law_1162 rfl (lv_at hl 5 rfl) ?_
  refine lv_iload hx hb dL_law_1163 (lv_at hl 0 rfl) ?_
  refine lv_iconst (v := 4) hx hb dL_law_1165 (by decide) ?_
  refine lv_iadd hx hb dL_law_1166 ?_
  refine va_sld (i := nI i + 4) hx hb hX hbl (Nat.not_le.mpr hbl) hS (show vp_in (nI i + 4) L from lw_in (k := 4) (by omega) hL) dL_law_1167 ?_
  refine lv_aload_n hx hb dL_law_1168 rfl (lv_at hl 2 rfl) ?_
  rcases R_extreme (uw := uw) (us := us) vv ub hRs ((xs (nI i + 1).toNatClampNeg)) ((xs (nI i + 2).toNatClampNeg)) ((xs (nI i + 3).toNatClampNeg)) ((xs (nI i + 4).toNatClampNeg)) with ⟨t, t', ht, e1, e2⟩ | ⟨a, vv', ub', e1, e2⟩
  · have htz : 0 < t' ∧ t' < 4 := by omega
    refine lxS (As := [.ref (ad 0), .int (xs (nI i + 1).toNatClampNeg), .int (xs (nI i + 2).toNatClampNeg), .int (xs (nI i + 3).toNatClampNeg), .int (xs (nI i + 4).toNatClampNeg), .ref o1]) (rest := []) (wr := ((o2, .inl (g 5, 1, .inr (.inr (.inr (.inl fd))))) :: (wM g jo js jp ja jk jt jb un uy uw uq uz us up ua uk ut ub))) X K hs hnc (kxL_extreme l hf0 G g ad bd sc tl tat tb cn cf sn sf tn tf vv ov o1 fo ((xs (nI i + 1).toNatClampNeg)) ((xs (nI i + 2).toNatClampNeg)) ((xs (nI i + 3).toNatClampNeg)) ((xs (nI i + 4).toNatClampNeg)) _ _ ht e1) hd_L_extreme gL_law_L_extreme hP hD hS hA hl.1 dL_law_1169 rfl rfl ⟨(Nat.le_of_ble_eq_true rfl), (Nat.le_of_ble_eq_true rfl)⟩ rfl (Nat.le_of_ble_eq_true rfl) hce (fun w1 H locs hp hP hD hS => ?_)
    have hp : w1 = _ := hp
    subst hp
    have hP : va_P G vwCl (lwW g ad bd sc tl tat tb cn cf sn sf tn tf vv ov jo js jp ja jk jt jb un uy uw uq uz us up ua uk ut ub o1 fo o2 fd) H := hP
    have hD : va_D (fun q => s.heap.size ≤ q) (lwW g ad bd sc tl tat tb cn cf sn sf tn tf vv ov jo js jp ja jk jt jb un uy uw uq uz us up ua uk ut ub o1 fo o2 fd) := hD
    refine lv_istore (lv' := [(6, .int (nI t')), (5, .int (nI i)), (4, .ref o2), (3, .ref o1), (2, .ref jo), (1, .ref (ad 0)), (0, .ref b)]) hx hb dL_law_1172 hl (by decide) rfl (fun ls hl => ?_)
    refine lv_aload_n hx hb dL_law_1174 rfl (lv_at hl 4 rfl) ?_
    refine lv_aload_n hx hb dL_law_1175 rfl (lv_at hl 6 rfl) ?_
    refine lv_iload hx hb dL_law_1176 (lv_at hl 1 rfl) ?_
    refine lv_iconst (v := 1) hx hb dL_law_1178 (by decide) ?_
    refine lv_iadd hx hb dL_law_1179 ?_
    refine va_sld (i := nI i + 1) hx hb hX hbl (Nat.not_le.mpr hbl) hS (show vp_in (nI i + 1) L from lw_in (k := 1) (by omega) hL) dL_law_1180 ?_
    refine lv_aload_n hx hb dL_law_1181 rfl (lv_at hl 6 rfl) ?_
    refine lv_iload hx hb dL_law_1182 (lv_at hl 1 rfl) ?_
    refine lv_iconst (v := 2) hx hb dL_law_1184 (by decide) ?_
    refine lv_iadd hx hb dL_law_1185 ?_
    refine va_sld (i := nI i + 2) hx hb hX hbl (Nat.not_le.mpr hbl) hS (show vp_in (nI i + 2) L from lw_in (k := 2) (by omega) hL) dL_law_1186 ?_
    refine lv_aload_n hx hb dL_law_1187 rfl (lv_at hl 6 rfl) ?_
    refine lv_iload hx hb dL_law_1188 (lv_at hl 1 rfl) ?_
    refine lv_iconst (v := 3) hx hb dL_law_1190 (by decide) ?_
    refine lv_iadd hx hb dL_law_1191 ?_
    refine va_sld (i := nI i + 3) hx hb hX hbl (Nat.not_le.mpr hbl) hS (show vp_in (nI i + 3) L from lw_in (k := 3) (by omega) hL) dL_law_1192 ?_
    refine lv_aload_n hx hb dL_law_1193 rfl (lv_at hl 6 rfl) ?_
    refine lv_iload hx hb dL_law_1194 (lv_at hl 1 rfl) ?_
    refine lv_iconst (v := 4) hx hb dL_law_1196 (by decide) ?_
    refine lv_iadd hx hb dL_law_1197 ?_
    refine va_sld (i := nI i + 4) hx hb hX hbl (Nat.not_le.mpr hbl) hS (show vp_in (nI i + 4) L from lw_in (k := 4) (by omega) hL) dL_law_1198 ?_
    refine rwVf (ci := 4) (As := [.int (xs (nI i + 1).toNatClampNeg), .int (xs (nI i + 2).toNatClampNeg), .int (xs (nI i + 3).toNatClampNeg), .int (xs (nI i + 4).toNatClampNeg)]) (rest := []) X K (k_X4_extreme l G g jo js jp ja jk jt jb un uy uw uq uz us up ua uk ut ub ((xs (nI i + 1).toNatClampNeg)) ((xs (nI i + 2).toNatClampNeg)) ((xs (nI i + 3).toNatClampNeg)) ((xs (nI i + 4).toNatClampNeg)) _ e2) hd_X4_extreme gL_law_X4_extreme hP hD hS hA foc_M hl.1 dL_law_1199 rfl rfl ⟨(Nat.le_of_ble_eq_true rfl), (Nat.le_of_ble_eq_true rfl)⟩ rfl rfl rfl (Nat.le_of_ble_eq_true rfl) hce (fun H locs hP hD hS => ?_)
    have hP : va_P G vwCl (lwW g ad bd sc tl tat tb cn cf sn sf tn tf vv ov jo js jp ja jk jt jb un uy (nI t') uq uz us up ua uk ut ub o1 fo o2 fd) H := hP
    have hD : va_D (fun q => s.heap.size ≤ q) (lwW g ad bd sc tl tat tb cn cf sn sf tn tf vv ov jo js jp ja jk jt jb un uy (nI t') uq uz us up ua uk ut ub o1 fo o2 fd) := hD
    refine lv_istore (lv' := [(7, .int 0), (6, .int (nI t')), (5, .int (nI i)), (4, .ref o2), (3, .ref o1), (2, .ref jo), (1, .ref (ad 0)), (0, .ref b)]) hx hb dL_law_1202 hl (by decide) rfl (fun ls hl => ?_)
    refine lv_aload_n hx hb dL_law_1204 rfl (lv_at hl 5 rfl) ?_
    refine roV (ci := 4) (As := []) (rest := []) X K (k_X4_thrown l G g jo js jp ja jk jt jb un uy (nI t') uq uz us up ua uk ut ub _ rfl) hd_X4_thrown gL_law_X4_thrown ((foc_M (M' := [])).sub hP) hl.1 dL_law_1205 rfl rfl ⟨(Nat.le_of_ble_eq_true rfl), (Nat.le_of_ble_eq_true rfl)⟩ rfl rfl rfl (Nat.le_of_ble_eq_true rfl) hce ?_
    refine lv_iload hx hb dL_law_1208 (lv_at hl 1 rfl) ?_
    refine lv_icmp_eq (tgt := 1215) hx hb dL_law_1210 (by decide) (fun _ => ?_) (fun h => absurd rfl h)
    refine lv_iload hx hb dL_law_1215 (lv_at hl 1 rfl) ?_
    refine lv_if_ne (tgt := 1232) hx hb dL_law_1217 (by decide) (fun _ => ?_) (fun h => absurd h (lw_nz htz))
    refine lv_goto (tgt := 1847) hx hb dL_law_1232 (by decide) ?_
    exact kk _ _ _ (lwI.mk hP hD hS hSt hRs hTx) (lv_dr hl)
  · refine lxS (As := [.ref (ad 0), .int (xs (nI i + 1).toNatClampNeg), .int (xs (nI i + 2).toNatClampNeg), .int (xs (nI i + 3).toNatClampNeg), .int (xs (nI i + 4).toNatClampNeg), .ref o1]) (rest := []) (wr := ((o2, .inl (g 5, 1, .inr (.inr (.inr (.inl fd))))) :: (wM g jo js jp ja jk jt jb un uy uw uq uz us up ua uk ut ub))) X K hs hnc (kL_extreme l G g ad bd sc tl tat tb cn cf sn sf tn tf vv ov o1 fo ((xs (nI i + 1).toNatClampNeg)) ((xs (nI i + 2).toNatClampNeg)) ((xs (nI i + 3).toNatClampNeg)) ((xs (nI i + 4).toNatClampNeg)) _ e1) hd_L_extreme gL_law_L_extreme hP hD hS hA hl.1 dL_law_1169 rfl rfl ⟨(Nat.le_of_ble_eq_true rfl), (Nat.le_of_ble_eq_true rfl)⟩ rfl (Nat.le_of_ble_eq_true rfl) hce (fun w1 H locs hp hP hD hS => ?_)
    have hp : w1 = _ := hp
    subst hp
    have hP : va_P G vwCl (lwW g ad bd sc tl tat tb cn cf sn sf tn tf vv' ov jo js jp ja jk jt jb un uy uw uq uz us up ua uk ut ub o1 (vp_updL fo 0 a.toInt64) o2 fd) H := hP
    have hD : va_D (fun q => s.heap.size ≤ q) (lwW g ad bd sc tl tat tb cn cf sn sf tn tf vv' ov jo js jp ja jk jt jb un uy uw uq uz us up ua uk ut ub o1 (vp_updL fo 0 a.toInt64) o2 fd) := hD
    refine lv_istore (lv' := [(6, .int 0), (5, .int (nI i)), (4, .ref o2), (3, .ref o1), (2, .ref jo), (1, .ref (ad 0)), (0, .ref b)]) hx hb dL_law_1172 hl (by decide) rfl (fun ls hl => ?_)
    refine lv_aload_n hx hb dL_law_1174 rfl (lv_at hl 4 rfl) ?_
    refine lv_aload_n hx hb dL_law_1175 rfl (lv_at hl 6 rfl) ?_
    refine lv_iload hx hb dL_law_1176 (lv_at hl 1 rfl) ?_
    refine lv_iconst (v := 1) hx hb dL_law_1178 (by decide) ?_
    refine lv_iadd hx hb dL_law_1179 ?_
    refine va_sld (i := nI i + 1) hx hb hX hbl (Nat.not_le.mpr hbl) hS (show vp_in (nI i + 1) L from lw_in (k := 1) (by omega) hL) dL_law_1180 ?_
    refine lv_aload_n hx hb dL_law_1181 rfl (lv_at hl 6 rfl) ?_
    refine lv_iload hx hb dL_law_1182 (lv_at hl 1 rfl) ?_
    refine lv_iconst (v := 2) hx hb dL_law_1184 (by decide) ?_
    refine lv_iadd hx hb dL_law_1185 ?_
    refine va_sld (i := nI i + 2) hx hb hX hbl (Nat.not_le.mpr hbl) hS (show vp_in (nI i + 2) L from lw_in (k := 2) (by omega) hL) dL_law_1186 ?_
    refine lv_aload_n hx hb dL_law_1187 rfl (lv_at hl 6 rfl) ?_
    refine lv_iload hx hb dL_law_1188 (lv_at hl 1 rfl) ?_
    refine lv_iconst (v := 3) hx hb dL_law_1190 (by decide) ?_
    refine lv_iadd hx hb dL_law_1191 ?_
    refine va_sld (i := nI i + 3) hx hb hX hbl (Nat.not_le.mpr hbl) hS (show vp_in (nI i + 3) L from lw_in (k := 3) (by omega) hL) dL_law_1192 ?_
    refine lv_aload_n hx hb dL_law_1193 rfl (lv_at hl 6 rfl) ?_
    refine lv_iload hx hb dL_law_1194 (lv_at hl 1 rfl) ?_
    refine lv_iconst (v := 4) hx hb dL_law_1196 (by decide) ?_
    refine lv_iadd hx hb dL_law_1197 ?_
    refine va_sld (i := nI i + 4) hx hb hX hbl (Nat.not_le.mpr hbl) hS (show vp_in (nI i + 4) L from lw_in (k := 4) (by omega) hL) dL_law_1198 ?_
    refine rwVf (ci := 4) (As := [.int (xs (nI i + 1).toNatClampNeg), .int (xs (nI i + 2).toNatClampNeg), .int (xs (nI i + 3).toNatClampNeg), .int (xs (nI i + 4).toNatClampNeg)]) (rest := []) X K (k_X4_extreme l G g jo js jp ja jk jt jb un uy uw uq uz us up ua uk ut ub ((xs (nI i + 1).toNatClampNeg)) ((xs (nI i + 2).toNatClampNeg)) ((xs (nI i + 3).toNatClampNeg)) ((xs (nI i + 4).toNatClampNeg)) _ e2) hd_X4_extreme gL_law_X4_extreme hP hD hS hA foc_M hl.1 dL_law_1199 rfl rfl ⟨(Nat.le_of_ble_eq_true rfl), (Nat.le_of_ble_eq_true rfl)⟩ rfl rfl rfl (Nat.le_of_ble_eq_true rfl) hce (fun H locs hP hD hS => ?_)
    have hP : va_P G vwCl (lwW g ad bd sc tl tat tb cn cf sn sf tn tf vv' ov jo js jp ja jk jt jb un uy 0 uq uz us up ua uk ut ub' o1 (vp_updL fo 0 a.toInt64) o2 fd) H := hP
    have hD : va_D (fun q => s.heap.size ≤ q) (lwW g ad bd sc tl tat tb cn cf sn sf tn tf vv' ov jo js jp ja jk jt jb un uy 0 uq uz us up ua uk ut ub' o1 (vp_updL fo 0 a.toInt64) o2 fd) := hD
    refine lv_istore (lv' := [(7, .int a), (6, .int 0), (5, .int (nI i)), (4, .ref o2), (3, .ref o1), (2, .ref jo), (1, .ref (ad 0)), (0, .ref b)]) hx hb dL_law_1202 hl (by decide) rfl (fun ls hl => ?_)
    refine lv_aload_n hx hb dL_law_1204 rfl (lv_at hl 5 rfl) ?_
    refine roV (ci := 4) (As := []) (rest := []) X K (k_X4_thrown l G g jo js jp ja jk jt jb un uy 0 uq uz us up ua uk ut ub' _ rfl) hd_X4_thrown gL_law_X4_thrown ((foc_M (M' := [])).sub hP) hl.1 dL_law_1205 rfl rfl ⟨(Nat.le_of_ble_eq_true rfl), (Nat.le_of_ble_eq_true rfl)⟩ rfl rfl rfl (Nat.le_of_ble_eq_true rfl) hce ?_
    refine lv_iload hx hb dL_law_1208 (lv_at hl 1 rfl) ?_
    refine lv_icmp_eq (tgt := 1215) hx hb dL_law_1210 (by decide) (fun _ => ?_) (fun h => absurd rfl h)
    refine lv_iload hx hb dL_law_1215 (lv_at hl 1 rfl) ?_
    refine lv_if_ne (tgt := 1232) hx hb dL_law_1217 (by decide) (fun h => absurd rfl h) (fun _ => ?_)
    refine lv_aload_n hx hb dL_law_1220 rfl (lv_at hl 4 rfl) ?_
    refine lv_iconst (v := 0) hx hb dL_law_1221 (by decide) ?_
    refine va_lald hx hb K.1 hP 8 4 rfl rfl (vp_in_iff.mpr (by decide)) dL_law_1222 ?_
    refine lv_iload hx hb dL_law_1223 (lv_at hl 0 rfl) ?_
    refine lv_i2l (v := a.toInt64) hx hb dL_law_1225 rfl ?_
    refine W.lcmp hx hb dL_law_1226 ?_
    refine lv_if_eq (tgt := 1232) hx hb dL_law_1227 (by decide) (fun _ => ?_) (fun h => absurd (lcm_o _ _) h)
    refine lv_goto (tgt := 1847) hx hb dL_law_1232 (by decide) ?_
    exact kk _ _ _ (lwI.mk hP hD hS hSt hRs hTx) (lv_dr hl)
set_option maxHeartbeats 4000000 in
set_option maxRecDepth 100000 in
theorem law_crossings {l : Launch} {p : Program} {e : Env} {s : State} {m : MethodId} {below : List Frame} {meth : Method} {c : Code} {b L : Nat} {xs : Nat → Int32} {G : va_G} {g : Nat → ClassId} {ad : Nat → Nat} {jo js jp ja jk jt jb o1 o2 : Nat} {H : Heap} {locs : List Loc} {ce sl i : Nat} {ls : Array Slot} {Q : State → Prop} (hce : ce + 1 ≤ 601024 ∧ sl + 6 ≤ 7293034) (hi : i + 5 ≤ L) (E : lwE l p s m meth c b L xs G g) (I : lwI G g ad jo js jp ja jk jt jb o1 o2 s H locs) (hl : lv_has ls 9 (lwL b (ad 0) jo o1 o2 i))
    (kk : ∀ (H1 : Heap) (locs1 : List Loc) (ls1 : Array Slot), lwI G g ad jo js jp ja jk jt jb o1 o2 s H1 locs1 → lv_has ls1 9 (lwL b (ad 0) jo o1 o2 i) → W p l e room_1 s m #[Value.ref b] below meth c H1 locs1 (ce + 1) (sl + 6) Q (F0 m 1847 ls1 [])) : W p l e room_1 s m #[Value.ref b] below meth c H locs ce sl Q (F0 m 1235 ls []) := by
  obtain ⟨X, K, hs, hnc, hX, hbl, hL, hf0⟩ := E
  obtain ⟨hx, hb, hml, hr, hown, hts, hk⟩ := id X
  obtain ⟨bd, sc, tl, tat, tb, cn, cf, sn, sf, tn, tf, vv, ov, un, uy, uw, uq, uz, us, up, ua, uk, ut, ub, fo, fd, hP, hD, hS, hSt, hRs, hTx⟩ := I
  have hA : ∀ q : Nat, s.heap.size ≤ q → (fun q => s.heap.size ≤ q) q := fun _ h => h
  have hce0 : ce ≤ 601024 ∧ sl ≤ 7293034 := ⟨by omega, by omega⟩
  have hl : lv_has ls 9 [(5, .int (nI i)), (4, .ref o2), (3, .ref o1), (2, .ref jo), (1, .ref (ad 0)), (0, .ref b)] := hl
  refine lv_aload_n hx hb dL_law_1235 rfl (lv_at hl 4 rfl) ?_
  refine lv_aload_n hx hb dL_law_1236 rfl (lv_at hl 5 rfl) ?_
  refine lv_iload hx hb dL_law_1237 (lv_at hl 0 rfl) ?_
  refine lv_iconst (v := 1) hx hb dL_law_1239 (by decide) ?_
  refine lv_iadd hx hb dL_law_1240 ?_
  refine va_sld (i := nI i + 1) hx hb hX hbl (Nat.not_le.mpr hbl) hS (show vp_in (nI i + 1) L from lw_in (k := 1) (by omega) hL) dL_law_1241 ?_
  refine lv_aload_n hx hb dL_law_1242 rfl (lv_at hl 5 rfl) ?_
  refine lv_iload hx hb dL_law_1243 (lv_at hl 0 rfl) ?_
  refine lv_iconst (v := 2) hx hb dL_law_1245 (by decide) ?_
  refine lv_iadd hx hb dL_law_1246 ?_
  refine va_sld (i := nI i + 2) hx hb hX hbl (Nat.not_le.mpr hbl) hS (show vp_in (nI i + 2) L from lw_in (k := 2) (by omega) hL) dL_law_1247 ?_
  refine lv_aload_n hx hb dL_law_1248 rfl (lv_at hl 2 rfl) ?_
  rcases R_crossings (uw := uw) (us := us) vv hRs ((xs (nI i + 1).toNatClampNeg)) ((xs (nI i + 2).toNatClampNeg)) with ⟨t, t', ht, e1, e2⟩ | ⟨a, vv', e1, e2⟩
  · have htz : 0 < t' ∧ t' < 4 := by omega
    refine lxS (As := [.ref (ad 0), .int (xs (nI i + 1).toNatClampNeg), .int (xs (nI i + 2).toNatClampNeg), .ref o1]) (rest := []) (wr := ((o2, .inl (g 5, 1, .inr (.inr (.inr (.inl fd))))) :: (wM g jo js jp ja jk jt jb un uy uw uq uz us up ua uk ut ub))) X K hs hnc (kxL_crossings l hf0 G g ad bd sc tl tat tb cn cf sn sf tn tf vv ov o1 fo ((xs (nI i + 1).toNatClampNeg)) ((xs (nI i + 2).toNatClampNeg)) _ _ ht e1) hd_L_crossings gL_law_L_crossings hP hD hS hA hl.1 dL_law_1249 rfl rfl ⟨(Nat.le_of_ble_eq_true rfl), (Nat.le_of_ble_eq_true rfl)⟩ rfl (Nat.le_of_ble_eq_true rfl) hce (fun w1 H locs hp hP hD hS => ?_)
    have hp : w1 = _ := hp
    subst hp
    have hP : va_P G vwCl (lwW g ad bd sc tl tat tb cn cf sn sf tn tf vv ov jo js jp ja jk jt jb un uy uw uq uz us up ua uk ut ub o1 fo o2 fd) H := hP
    have hD : va_D (fun q => s.heap.size ≤ q) (lwW g ad bd sc tl tat tb cn cf sn sf tn tf vv ov jo js jp ja jk jt jb un uy uw uq uz us up ua uk ut ub o1 fo o2 fd) := hD
    refine lv_istore (lv' := [(6, .int (nI t')), (5, .int (nI i)), (4, .ref o2), (3, .ref o1), (2, .ref jo), (1, .ref (ad 0)), (0, .ref b)]) hx hb dL_law_1252 hl (by decide) rfl (fun ls hl => ?_)
    refine lv_aload_n hx hb dL_law_1254 rfl (lv_at hl 4 rfl) ?_
    refine lv_aload_n hx hb dL_law_1255 rfl (lv_at hl 6 rfl) ?_
    refine lv_iload hx hb dL_law_1256 (lv_at hl 1 rfl) ?_
    refine lv_iconst (v := 1) hx hb dL_law_1258 (by decide) ?_
    refine lv_iadd hx hb dL_law_1259 ?_
    refine va_sld (i := nI i + 1) hx hb hX hbl (Nat.not_le.mpr hbl) hS (show vp_in (nI i + 1) L from lw_in (k := 1) (by omega) hL) dL_law_1260 ?_
    refine lv_aload_n hx hb dL_law_1261 rfl (lv_at hl 6 rfl) ?_
    refine lv_iload hx hb dL_law_1262 (lv_at hl 1 rfl) ?_
    refine lv_iconst (v := 2) hx hb dL_law_1264 (by decide) ?_
    refine lv_iadd hx hb dL_law_1265 ?_
    refine va_sld (i := nI i + 2) hx hb hX hbl (Nat.not_le.mpr hbl) hS (show vp_in (nI i + 2) L from lw_in (k := 2) (by omega) hL) dL_law_1266 ?_
    refine rwVf (ci := 4) (As := [.int (xs (nI i + 1).toNatClampNeg), .int (xs (nI i + 2).toNatClampNeg)]) (rest := []) X K (k_X4_crossings l G g jo js jp ja jk jt jb un uy uw uq uz us up ua uk ut ub ((xs (nI i + 1).toNatClampNeg)) ((xs (nI i + 2).toNatClampNeg)) _ e2) hd_X4_crossings gL_law_X4_crossings hP hD hS hA foc_M hl.1 dL_law_1267 rfl rfl ⟨(Nat.le_of_ble_eq_true rfl), (Nat.le_of_ble_eq_true rfl)⟩ rfl rfl rfl (Nat.le_of_ble_eq_true rfl) hce (fun H locs hP hD hS => ?_)
    have hP : va_P G vwCl (lwW g ad bd sc tl tat tb cn cf sn sf tn tf vv ov jo js jp ja jk jt jb un uy (nI t') uq uz us up ua uk ut ub o1 fo o2 fd) H := hP
    have hD : va_D (fun q => s.heap.size ≤ q) (lwW g ad bd sc tl tat tb cn cf sn sf tn tf vv ov jo js jp ja jk jt jb un uy (nI t') uq uz us up ua uk ut ub o1 fo o2 fd) := hD
    refine lv_istore (lv' := [(7, .int 0), (6, .int (nI t')), (5, .int (nI i)), (4, .ref o2), (3, .ref o1), (2, .ref jo), (1, .ref (ad 0)), (0, .ref b)]) hx hb dL_law_1270 hl (by decide) rfl (fun ls hl => ?_)
    refine lv_aload_n hx hb dL_law_1272 rfl (lv_at hl 5 rfl) ?_
    refine roV (ci := 4) (As := []) (rest := []) X K (k_X4_thrown l G g jo js jp ja jk jt jb un uy (nI t') uq uz us up ua uk ut ub _ rfl) hd_X4_thrown gL_law_X4_thrown ((foc_M (M' := [])).sub hP) hl.1 dL_law_1273 rfl rfl ⟨(Nat.le_of_ble_eq_true rfl), (Nat.le_of_ble_eq_true rfl)⟩ rfl rfl rfl (Nat.le_of_ble_eq_true rfl) hce ?_
    refine lv_iload hx hb dL_law_1276 (lv_at hl 1 rfl) ?_
    refine lv_icmp_eq (tgt := 1283) hx hb dL_law_1278 (by decide) (fun _ => ?_) (fun h => absurd rfl h)
    refine lv_iload hx hb dL_law_1283 (lv_at hl 1 rfl) ?_
    refine lv_if_ne (tgt := 1300) hx hb dL_law_1285 (by decide) (fun _ => ?_) (fun h => absurd h (lw_nz htz))
    refine lv_goto (tgt := 1847) hx hb dL_law_1300 (by decide) ?_
    exact kk _ _ _ (lwI.mk hP hD hS hSt hRs hTx) (lv_dr hl)
  · refine lxS (As := [.ref (ad 0), .int (xs (nI i + 1).toNatClampNeg), .int (xs (nI i + 2).toNatClampNeg), .ref o1]) (rest := []) (wr := ((o2, .inl (g 5, 1, .inr (.inr (.inr (.inl fd))))) :: (wM g jo js jp ja jk jt jb un uy uw uq uz us up ua uk ut ub))) X K hs hnc (kL_crossings l G g ad bd sc tl tat tb cn cf sn sf tn tf vv ov o1 fo ((xs (nI i + 1).toNatClampNeg)) ((xs (nI i + 2).toNatClampNeg)) _ e1) hd_L_crossings gL_law_L_crossings hP hD hS hA hl.1 dL_law_1249 rfl rfl ⟨(Nat.le_of_ble_eq_true rfl), (Nat.le_of_ble_eq_true rfl)⟩ rfl (Nat.le_of_ble_eq_true rfl) hce (fun w1 H locs hp hP hD hS => ?_)
    have hp : w1 = _ := hp
    subst hp
    have hP : va_P G vwCl (lwW g ad bd sc tl tat tb cn cf sn sf tn tf vv' ov jo js jp ja jk jt jb un uy uw uq uz us up ua uk ut ub o1 (vp_updL fo 0 a.toInt64) o2 fd) H := hP
    have hD : va_D (fun q => s.heap.size ≤ q) (lwW g ad bd sc tl tat tb cn cf sn sf tn tf vv' ov jo js jp ja jk jt jb un uy uw uq uz us up ua uk ut ub o1 (vp_updL fo 0 a.toInt64) o2 fd) := hD
    refine lv_istore (lv' := [(6, .int 0), (5, .int (nI i)), (4, .ref o2), (3, .ref o1), (2, .ref jo), (1, .ref (ad 0)), (0, .ref b)]) hx hb dL_law_1252 hl (by decide) rfl (fun ls hl => ?_)
    refine lv_aload_n hx hb dL_law_1254 rfl (lv_at hl 4 rfl) ?_
    refine lv_aload_n hx hb dL_law_1255 rfl (lv_at hl 6 rfl) ?_
    refine lv_iload hx hb dL_law_1256 (lv_at hl 1 rfl) ?_
    refine lv_iconst (v := 1) hx hb dL_law_1258 (by decide) ?_
    refine lv_iadd hx hb dL_law_1259 ?_
    refine va_sld (i := nI i + 1) hx hb hX hbl (Nat.not_le.mpr hbl) hS (show vp_in (nI i + 1) L from lw_in (k := 1) (by omega) hL) dL_law_1260 ?_
    refine lv_aload_n hx hb dL_law_1261 rfl (lv_at hl 6 rfl) ?_
    refine lv_iload hx hb dL_law_1262 (lv_at hl 1 rfl) ?_
    refine lv_iconst (v := 2) hx hb dL_law_1264 (by decide) ?_
    refine lv_iadd hx hb dL_law_1265 ?_
    refine va_sld (i := nI i + 2) hx hb hX hbl (Nat.not_le.mpr hbl) hS (show vp_in (nI i + 2) L from lw_in (k := 2) (by omega) hL) dL_law_1266 ?_
    refine rwVf (ci := 4) (As := [.int (xs (nI i + 1).toNatClampNeg), .int (xs (nI i + 2).toNatClampNeg)]) (rest := []) X K (k_X4_crossings l G g jo js jp ja jk jt jb un uy uw uq uz us up ua uk ut ub ((xs (nI i + 1).toNatClampNeg)) ((xs (nI i + 2).toNatClampNeg)) _ e2) hd_X4_crossings gL_law_X4_crossings hP hD hS hA foc_M hl.1 dL_law_1267 rfl rfl ⟨(Nat.le_of_ble_eq_true rfl), (Nat.le_of_ble_eq_true rfl)⟩ rfl rfl rfl (Nat.le_of_ble_eq_true rfl) hce (fun H locs hP hD hS => ?_)
    have hP : va_P G vwCl (lwW g ad bd sc tl tat tb cn cf sn sf tn tf vv' ov jo js jp ja jk jt jb un uy 0 uq uz us up ua uk ut ub o1 (vp_updL fo 0 a.toInt64) o2 fd) H := hP
    have hD : va_D (fun q => s.heap.size ≤ q) (lwW g ad bd sc tl tat tb cn cf sn sf tn tf vv' ov jo js jp ja jk jt jb un uy 0 uq uz us up ua uk ut ub o1 (vp_updL fo 0 a.toInt64) o2 fd) := hD
    refine lv_istore (lv' := [(7, .int a), (6, .int 0), (5, .int (nI i)), (4, .ref o2), (3, .ref o1), (2, .ref jo), (1, .ref (ad 0)), (0, .ref b)]) hx hb dL_law_1270 hl (by decide) rfl (fun ls hl => ?_)
    refine lv_aload_n hx hb dL_law_1272 rfl (lv_at hl 5 rfl) ?_
    refine roV (ci := 4) (As := []) (rest := []) X K (k_X4_thrown l G g jo js jp ja jk jt jb un uy 0 uq uz us up ua uk ut ub _ rfl) hd_X4_thrown gL_law_X4_thrown ((foc_M (M' := [])).sub hP) hl.1 dL_law_1273 rfl rfl ⟨(Nat.le_of_ble_eq_true rfl), (Nat.le_of_ble_eq_true rfl)⟩ rfl rfl rfl (Nat.le_of_ble_eq_true rfl) hce ?_
    refine lv_iload hx hb dL_law_1276 (lv_at hl 1 rfl) ?_
    refine lv_icmp_eq (tgt := 1283) hx hb dL_law_1278 (by decide) (fun _ => ?_) (fun h => absurd rfl h)
    refine lv_iload hx hb dL_law_1283 (lv_at hl 1 rfl) ?_
    refine lv_if_ne (tgt := 1300) hx hb dL_law_1285 (by decide) (fun h => absurd rfl h) (fun _ => ?_)
    refine lv_aload_n hx hb dL_law_1288 rfl (lv_at hl 4 rfl) ?_
    refine lv_iconst (v := 0) hx hb dL_law_1289 (by decide) ?_
    refine va_lald hx hb K.1 hP 8 4 rfl rfl (vp_in_iff.mpr (by decide)) dL_law_1290 ?_
    refine lv_iload hx hb dL_law_1291 (lv_at hl 0 rfl) ?_
    refine lv_i2l (v := a.toInt64) hx hb dL_law_1293 rfl ?_
    refine W.lcmp hx hb dL_law_1294 ?_
    refine lv_if_eq (tgt := 1300) hx hb dL_law_1295 (by decide) (fun _ => ?_) (fun h => absurd (lcm_o _ _) h)
    refine lv_goto (tgt := 1847) hx hb dL_law_1300 (by decide) ?_
    exact kk _ _ _ (lwI.mk hP hD hS hSt hRs hTx) (lv_dr hl)
set_option maxHeartbeats 4000000 in
set_option maxRecDepth 100000 in
theorem law_difference {l : Launch} {p : Program} {e : Env} {s : State} {m : MethodId} {below : List Frame} {meth : Method} {c : Code} {b L : Nat} {xs : Nat → Int32} {G : va_G} {g : Nat → ClassId} {ad : Nat → Nat} {jo js jp ja jk jt jb o1 o2 : Nat} {H : Heap} {locs : List Loc} {ce sl i : Nat} {ls : Array Slot} {Q : State → Prop} (hce : ce + 1 ≤ 601024 ∧ sl + 6 ≤ 7293034) (hi : i + 5 ≤ L) (E : lwE l p s m meth c b L xs G g) (I : lwI G g ad jo js jp ja jk jt jb o1 o2 s H locs) (hl : lv_has ls 9 (lwL b (ad 0) jo o1 o2 i))
    (kk : ∀ (H1 : Heap) (locs1 : List Loc) (ls1 : Array Slot), lwI G g ad jo js jp ja jk jt jb o1 o2 s H1 locs1 → lv_has ls1 9 (lwL b (ad 0) jo o1 o2 i) → W p l e room_1 s m #[Value.ref b] below meth c H1 locs1 (ce + 1) (sl + 6) Q (F0 m 1847 ls1 [])) : W p l e room_1 s m #[Value.ref b] below meth c H locs ce sl Q (F0 m 1303 ls []) := by
  obtain ⟨X, K, hs, hnc, hX, hbl, hL, hf0⟩ := E
  obtain ⟨hx, hb, hml, hr, hown, hts, hk⟩ := id X
  obtain ⟨bd, sc, tl, tat, tb, cn, cf, sn, sf, tn, tf, vv, ov, un, uy, uw, uq, uz, us, up, ua, uk, ut, ub, fo, fd, hP, hD, hS, hSt, hRs, hTx⟩ := I
  have hA : ∀ q : Nat, s.heap.size ≤ q → (fun q => s.heap.size ≤ q) q := fun _ h => h
  have hce0 : ce ≤ 601024 ∧ sl ≤ 7293034 := ⟨by omega, by omega⟩
  have hl : lv_has ls 9 [(5, .int (nI i)), (4, .ref o2), (3, .ref o1), (2, .ref jo), (1, .ref (ad 0)), (0, .ref b)] := hl
  refine lv_aload_n hx hb dL_law_1303 rfl (lv_at hl 4 rfl) ?_
  refine lv_aload_n hx hb dL_law_1304 rfl (lv_at hl 5 rfl) ?_
  refine lv_iload hx hb dL_law_1305 (lv_at hl 0 rfl) ?_
  refine lv_iconst (v := 1) hx hb dL_law_1307 (by decide) ?_
  refine lv_iadd hx hb dL_law_1308 ?_
  refine va_sld (i := nI i + 1) hx hb hX hbl (Nat.not_le.mpr hbl) hS (show vp_in (nI i + 1) L from lw_in (k := 1) (by omega) hL) dL_law_1309 ?_
  refine lv_aload_n hx hb dL_law_1310 rfl (lv_at hl 5 rfl) ?_
  refine lv_iload hx hb dL_law_1311 (lv_at hl 0 rfl) ?_
  refine lv_iconst (v := 2) hx hb dL_law_1313 (by decide) ?_
  refine lv_iadd hx hb dL_law_1314 ?_
  refine va_sld (i := nI i + 2) hx hb hX hbl (Nat.not_le.mpr hbl) hS (show vp_in (nI i + 2) L from lw_in (k := 2) (by omega) hL) dL_law_1315 ?_
  refine lv_aload_n hx hb dL_law_1316 rfl (lv_at hl 2 rfl) ?_
  rcases R_difference (uw := uw) (us := us) vv ov hRs ((xs (nI i + 1).toNatClampNeg)) ((xs (nI i + 2).toNatClampNeg)) with ⟨t, t', ht, e1, e2⟩ | ⟨a, vv', ov', e1, e2⟩
  · have htz : 0 < t' ∧ t' < 4 := by omega
    refine lxS (As := [.ref (ad 0), .int (xs (nI i + 1).toNatClampNeg), .int (xs (nI i + 2).toNatClampNeg), .ref o1]) (rest := []) (wr := ((o2, .inl (g 5, 1, .inr (.inr (.inr (.inl fd))))) :: (wM g jo js jp ja jk jt jb un uy uw uq uz us up ua uk ut ub))) X K hs hnc (kxL_difference l hf0 G g ad bd sc tl tat tb cn cf sn sf tn tf vv ov o1 fo ((xs (nI i + 1).toNatClampNeg)) ((xs (nI i + 2).toNatClampNeg)) _ _ ht e1) hd_L_difference gL_law_L_difference hP hD hS hA hl.1 dL_law_1317 rfl rfl ⟨(Nat.le_of_ble_eq_true rfl), (Nat.le_of_ble_eq_true rfl)⟩ rfl (Nat.le_of_ble_eq_true rfl) hce (fun w1 H locs hp hP hD hS => ?_)
    have hp : w1 = _ := hp
    subst hp
    have hP : va_P G vwCl (lwW g ad bd sc tl tat tb cn cf sn sf tn tf vv ov jo js jp ja jk jt jb un uy uw uq uz us up ua uk ut ub o1 fo o2 fd) H := hP
    have hD : va_D (fun q => s.heap.size ≤ q) (lwW g ad bd sc tl tat tb cn cf sn sf tn tf vv ov jo js jp ja jk jt jb un uy uw uq uz us up ua uk ut ub o1 fo o2 fd) := hD
    refine lv_istore (lv' := [(6, .int (nI t')), (5, .int (nI i)), (4, .ref o2), (3, .ref o1), (2, .ref jo), (1, .ref (ad 0)), (0, .ref b)]) hx hb dL_law_1320 hl (by decide) rfl (fun ls hl => ?_)
    refine lv_aload_n hx hb dL_law_1322 rfl (lv_at hl 4 rfl) ?_
    refine lv_aload_n hx hb dL_law_1323 rfl (lv_at hl 6 rfl) ?_
    refine lv_iload hx hb dL_law_1324 (lv_at hl 1 rfl) ?_
    refine lv_iconst (v := 1) hx hb dL_law_1326 (by decide) ?_
    refine lv_iadd hx hb dL_law_1327 ?_
    refine va_sld (i := nI i + 1) hx hb hX hbl (Nat.not_le.mpr hbl) hS (show vp_in (nI i + 1) L from lw_in (k := 1) (by omega) hL) dL_law_1328 ?_
    refine lv_aload_n hx hb dL_law_1329 rfl (lv_at hl 6 rfl) ?_
    refine lv_iload hx hb dL_law_1330 (lv_at hl 1 rfl) ?_
    refine lv_iconst (v := 2) hx hb dL_law_1332 (by decide) ?_
    refine lv_iadd hx hb dL_law_1333 ?_
    refine va_sld (i := nI i + 2) hx hb hX hbl (Nat.not_le.mpr hbl) hS (show vp_in (nI i + 2) L from lw_in (k := 2) (by omega) hL) dL_law_1334 ?_
    refine rwVf (ci := 4) (As := [.int (xs (nI i + 1).toNatClampNeg), .int (xs (nI i + 2).toNatClampNeg)]) (rest := []) X K (k_X4_difference l G g jo js jp ja jk jt jb un uy uw uq uz us up ua uk ut ub ((xs (nI i + 1).toNatClampNeg)) ((xs (nI i + 2).toNatClampNeg)) _ e2) hd_X4_difference gL_law_X4_difference hP hD hS hA foc_M hl.1 dL_law_1335 rfl rfl ⟨(Nat.le_of_ble_eq_true rfl), (Nat.le_of_ble_eq_true rfl)⟩ rfl rfl rfl (Nat.le_of_ble_eq_true rfl) hce (fun H locs hP hD hS => ?_)
    have hP : va_P G vwCl (lwW g ad bd sc tl tat tb cn cf sn sf tn tf vv ov jo js jp ja jk jt jb un uy (nI t') uq uz us up ua uk ut ub o1 fo o2 fd) H := hP
    have hD : va_D (fun q => s.heap.size ≤ q) (lwW g ad bd sc tl tat tb cn cf sn sf tn tf vv ov jo js jp ja jk jt jb un uy (nI t') uq uz us up ua uk ut ub o1 fo o2 fd) := hD
    refine lv_istore (lv' := [(7, .int 0), (6, .int (nI t')), (5, .int (nI i)), (4, .ref o2), (3, .ref o1), (2, .ref jo), (1, .ref (ad 0)), (0, .ref b)]) hx hb dL_law_1338 hl (by decide) rfl (fun ls hl => ?_)
    refine lv_aload_n hx hb dL_law_1340 rfl (lv_at hl 5 rfl) ?_
    refine roV (ci := 4) (As := []) (rest := []) X K (k_X4_thrown l G g jo js jp ja jk jt jb un uy (nI t') uq uz us up ua uk ut ub _ rfl) hd_X4_thrown gL_law_X4_thrown ((foc_M (M' := [])).sub hP) hl.1 dL_law_1341 rfl rfl ⟨(Nat.le_of_ble_eq_true rfl), (Nat.le_of_ble_eq_true rfl)⟩ rfl rfl rfl (Nat.le_of_ble_eq_true rfl) hce ?_
    refine lv_iload hx hb dL_law_1344 (lv_at hl 1 rfl) ?_
    refine lv_icmp_eq (tgt := 1351) hx hb dL_law_1346 (by decide) (fun _ => ?_) (fun h => absurd rfl h)
    refine lv_iload hx hb dL_law_1351 (lv_at hl 1 rfl) ?_
    refine lv_if_ne (tgt := 1368) hx hb dL_law_1353 (by decide) (fun _ => ?_) (fun h => absurd h (lw_nz htz))
    refine lv_goto (tgt := 1847) hx hb dL_law_1368 (by decide) ?_
    exact kk _ _ _ (lwI.mk hP hD hS hSt hRs hTx) (lv_dr hl)
  · refine lxS (As := [.ref (ad 0), .int (xs (nI i + 1).toNatClampNeg), .int (xs (nI i + 2).toNatClampNeg), .ref o1]) (rest := []) (wr := ((o2, .inl (g 5, 1, .inr (.inr (.inr (.inl fd))))) :: (wM g jo js jp ja jk jt jb un uy uw uq uz us up ua uk ut ub))) X K hs hnc (kL_difference l G g ad bd sc tl tat tb cn cf sn sf tn tf vv ov o1 fo ((xs (nI i + 1).toNatClampNeg)) ((xs (nI i + 2).toNatClampNeg)) _ e1) hd_L_difference gL_law_L_difference hP hD hS hA hl.1 dL_law_1317 rfl rfl ⟨(Nat.le_of_ble_eq_true rfl), (Nat.le_of_ble_eq_true rfl)⟩ rfl (Nat.le_of_ble_eq_true rfl) hce (fun w1 H locs hp hP hD hS => ?_)
    have hp : w1 = _ := hp
    subst hp
    have hP : va_P G vwCl (lwW g ad bd sc tl tat tb cn cf sn sf tn tf vv' ov' jo js jp ja jk jt jb un uy uw uq uz us up ua uk ut ub o1 (vp_updL fo 0 a.toInt64) o2 fd) H := hP
    have hD : va_D (fun q => s.heap.size ≤ q) (lwW g ad bd sc tl tat tb cn cf sn sf tn tf vv' ov' jo js jp ja jk jt jb un uy uw uq uz us up ua uk ut ub o1 (vp_updL fo 0 a.toInt64) o2 fd) := hD
    refine lv_istore (lv' := [(6, .int 0), (5, .int (nI i)), (4, .ref o2), (3, .ref o1), (2, .ref jo), (1, .ref (ad 0)), (0, .ref b)]) hx hb dL_law_1320 hl (by decide) rfl (fun ls hl => ?_)
    refine lv_aload_n hx hb dL_law_1322 rfl (lv_at hl 4 rfl) ?_
    refine lv_aload_n hx hb dL_law_1323 rfl (lv_at hl 6 rfl) ?_
    refine lv_iload hx hb dL_law_1324 (lv_at hl 1 rfl) ?_
    refine lv_iconst (v := 1) hx hb dL_law_1326 (by decide) ?_
    refine lv_iadd hx hb dL_law_1327 ?_
    refine va_sld (i := nI i + 1) hx hb hX hbl (Nat.not_le.mpr hbl) hS (show vp_in (nI i + 1) L from lw_in (k := 1) (by omega) hL) dL_law_1328 ?_
    refine lv_aload_n hx hb dL_law_1329 rfl (lv_at hl 6 rfl) ?_
    refine lv_iload hx hb dL_law_1330 (lv_at hl 1 rfl) ?_
    refine lv_iconst (v := 2) hx hb dL_law_1332 (by decide) ?_
    refine lv_iadd hx hb dL_law_1333 ?_
    refine va_sld (i := nI i + 2) hx hb hX hbl (Nat.not_le.mpr hbl) hS (show vp_in (nI i + 2) L from lw_in (k := 2) (by omega) hL) dL_law_1334 ?_
    refine rwVf (ci := 4) (As := [.int (xs (nI i + 1).toNatClampNeg), .int (xs (nI i + 2).toNatClampNeg)]) (rest := []) X K (k_X4_difference l G g jo js jp ja jk jt jb un uy uw uq uz us up ua uk ut ub ((xs (nI i + 1).toNatClampNeg)) ((xs (nI i + 2).toNatClampNeg)) _ e2) hd_X4_difference gL_law_X4_difference hP hD hS hA foc_M hl.1 dL_law_1335 rfl rfl ⟨(Nat.le_of_ble_eq_true rfl), (Nat.le_of_ble_eq_true rfl)⟩ rfl rfl rfl (Nat.le_of_ble_eq_true rfl) hce (fun H locs hP hD hS => ?_)
    have hP : va_P G vwCl (lwW g ad bd sc tl tat tb cn cf sn sf tn tf vv' ov' jo js jp ja jk jt jb un uy 0 uq uz us up ua uk ut ub o1 (vp_updL fo 0 a.toInt64) o2 fd) H := hP
    have hD : va_D (fun q => s.heap.size ≤ q) (lwW g ad bd sc tl tat tb cn cf sn sf tn tf vv' ov' jo js jp ja jk jt jb un uy 0 uq uz us up ua uk ut ub o1 (vp_updL fo 0 a.toInt64) o2 fd) := hD
    refine lv_istore (lv' := [(7, .int a), (6, .int 0), (5, .int (nI i)), (4, .ref o2), (3, .ref o1), (2, .ref jo), (1, .ref (ad 0)), (0, .ref b)]) hx hb dL_law_1338 hl (by decide) rfl (fun ls hl => ?_)
    refine lv_aload_n hx hb dL_law_1340 rfl (lv_at hl 5 rfl) ?_
    refine roV (ci := 4) (As := []) (rest := []) X K (k_X4_thrown l G g jo js jp ja jk jt jb un uy 0 uq uz us up ua uk ut ub _ rfl) hd_X4_thrown gL_law_X4_thrown ((foc_M (M' := [])).sub hP) hl.1 dL_law_1341 rfl rfl ⟨(Nat.le_of_ble_eq_true rfl), (Nat.le_of_ble_eq_true rfl)⟩ rfl rfl rfl (Nat.le_of_ble_eq_true rfl) hce ?_
    refine lv_iload hx hb dL_law_1344 (lv_at hl 1 rfl) ?_
    refine lv_icmp_eq (tgt := 1351) hx hb dL_law_1346 (by decide) (fun _ => ?_) (fun h => absurd rfl h)
    refine lv_iload hx hb dL_law_1351 (lv_at hl 1 rfl) ?_
    refine lv_if_ne (tgt := 1368) hx hb dL_law_1353 (by decide) (fun h => absurd rfl h) (fun _ => ?_)
    refine lv_aload_n hx hb dL_law_1356 rfl (lv_at hl 4 rfl) ?_
    refine lv_iconst (v := 0) hx hb dL_law_1357 (by decide) ?_
    refine va_lald hx hb K.1 hP 8 4 rfl rfl (vp_in_iff.mpr (by decide)) dL_law_1358 ?_
    refine lv_iload hx hb dL_law_1359 (lv_at hl 0 rfl) ?_
    refine lv_i2l (v := a.toInt64) hx hb dL_law_1361 rfl ?_
    refine W.lcmp hx hb dL_law_1362 ?_
    refine lv_if_eq (tgt := 1368) hx hb dL_law_1363 (by decide) (fun _ => ?_) (fun h => absurd (lcm_o _ _) h)
    refine lv_goto (tgt := 1847) hx hb dL_law_1368 (by decide) ?_
    exact kk _ _ _ (lwI.mk hP hD hS hSt hRs hTx) (lv_dr hl)
set_option maxHeartbeats 4000000 in
set_option maxRecDepth 100000 in
theorem law_mean {l : Launch} {p : Program} {e : Env} {s : State} {m : MethodId} {below : List Frame} {meth : Method} {c : Code} {b L : Nat} {xs : Nat → Int32} {G : va_G} {g : Nat → ClassId} {ad : Nat → Nat} {jo js jp ja jk jt jb o1 o2 : Nat} {H : Heap} {locs : List Loc} {ce sl i : Nat} {ls : Array Slot} {Q : State → Prop} (hce : ce + 1 ≤ 601024 ∧ sl + 6 ≤ 7293034) (hi : i + 5 ≤ L) (E : lwE l p s m meth c b L xs G g) (I : lwI G g ad jo js jp ja jk jt jb o1 o2 s H locs) (hl : lv_has ls 9 (lwL b (ad 0) jo o1 o2 i))
    (kk : ∀ (H1 : Heap) (locs1 : List Loc) (ls1 : Array Slot), lwI G g ad jo js jp ja jk jt jb o1 o2 s H1 locs1 → lv_has ls1 9 (lwL b (ad 0) jo o1 o2 i) → W p l e room_1 s m #[Value.ref b] below meth c H1 locs1 (ce + 1) (sl + 6) Q (F0 m 1847 ls1 [])) : W p l e room_1 s m #[Value.ref b] below meth c H locs ce sl Q (F0 m 1371 ls []) := by
  obtain ⟨X, K, hs, hnc, hX, hbl, hL, hf0⟩ := E
  obtain ⟨hx, hb, hml, hr, hown, hts, hk⟩ := id X
  obtain ⟨bd, sc, tl, tat, tb, cn, cf, sn, sf, tn, tf, vv, ov, un, uy, uw, uq, uz, us, up, ua, uk, ut, ub, fo, fd, hP, hD, hS, hSt, hRs, hTx⟩ := I
  have hA : ∀ q : Nat, s.heap.size ≤ q → (fun q => s.heap.size ≤ q) q := fun _ h => h
  have hce0 : ce ≤ 601024 ∧ sl ≤ 7293034 := ⟨by omega, by omega⟩
  have hl : lv_has ls 9 [(5, .int (nI i)), (4, .ref o2), (3, .ref o1), (2, .ref jo), (1, .ref (ad 0)), (0, .ref b)] := hl
  refine lv_aload_n hx hb dL_law_1371 rfl (lv_at hl 4 rfl) ?_
  refine lv_aload_n hx hb dL_law_1372 rfl (lv_at hl 5 rfl) ?_
  refine lv_iload hx hb dL_law_1373 (lv_at hl 0 rfl) ?_
  refine lv_iconst (v := 1) hx hb dL_law_1375 (by decide) ?_
  refine lv_iadd hx hb dL_law_1376 ?_
  refine va_sld (i := nI i + 1) hx hb hX hbl (Nat.not_le.mpr hbl) hS (show vp_in (nI i + 1) L from lw_in (k := 1) (by omega) hL) dL_law_1377 ?_
  refine lv_aload hx hb dL_law_1378 (lv_at hl 1 rfl) ?_
  rcases R_mean (uw := uw) (us := us) vv hRs ((xs (nI i + 1).toNatClampNeg)) with ⟨t, t', ht, e1, d, e2⟩ | ⟨a, vv', e1, e2⟩
  · have htz : 0 < t' ∧ t' < 4 := by omega
    have hP := hP.perm pm_ab
    have hD := hD.perm pm_ab
    refine lxS (As := [.ref (ad 0), .int (xs (nI i + 1).toNatClampNeg), .ref o2]) (rest := []) (wr := ((o1, .inl (g 4, 1, .inr (.inl fo))) :: (wM g jo js jp ja jk jt jb un uy uw uq uz us up ua uk ut ub))) X K hs hnc (kxL_mean l hf0 G g ad bd sc tl tat tb cn cf sn sf tn tf vv ov o2 fd ((xs (nI i + 1).toNatClampNeg)) _ _ ht e1) hd_L_mean gL_law_L_mean hP hD hS hA hl.1 dL_law_1380 rfl rfl ⟨(Nat.le_of_ble_eq_true rfl), (Nat.le_of_ble_eq_true rfl)⟩ rfl (Nat.le_of_ble_eq_true rfl) hce (fun w1 H locs hp hP hD hS => ?_)
    have hp : w1 = _ := hp
    subst hp
    have hP := hP.perm pm_ab
    have hD := hD.perm pm_ab
    have hP : va_P G vwCl (lwW g ad bd sc tl tat tb cn cf sn sf tn tf vv ov jo js jp ja jk jt jb un uy uw uq uz us up ua uk ut ub o1 fo o2 fd) H := hP
    have hD : va_D (fun q => s.heap.size ≤ q) (lwW g ad bd sc tl tat tb cn cf sn sf tn tf vv ov jo js jp ja jk jt jb un uy uw uq uz us up ua uk ut ub o1 fo o2 fd) := hD
    refine lv_istore (lv' := [(6, .int (nI t')), (5, .int (nI i)), (4, .ref o2), (3, .ref o1), (2, .ref jo), (1, .ref (ad 0)), (0, .ref b)]) hx hb dL_law_1383 hl (by decide) rfl (fun ls hl => ?_)
    refine lv_aload_n hx hb dL_law_1385 rfl (lv_at hl 4 rfl) ?_
    refine lv_aload_n hx hb dL_law_1386 rfl (lv_at hl 6 rfl) ?_
    refine lv_iload hx hb dL_law_1387 (lv_at hl 1 rfl) ?_
    refine lv_iconst (v := 1) hx hb dL_law_1389 (by decide) ?_
    refine lv_iadd hx hb dL_law_1390 ?_
    refine va_sld (i := nI i + 1) hx hb hX hbl (Nat.not_le.mpr hbl) hS (show vp_in (nI i + 1) L from lw_in (k := 1) (by omega) hL) dL_law_1391 ?_
    refine rwVf (ci := 4) (As := [.int (xs (nI i + 1).toNatClampNeg)]) (rest := []) X K (k_X4_mean l G g jo js jp ja jk jt jb un uy uw uq uz us up ua uk ut ub ((xs (nI i + 1).toNatClampNeg)) _ e2) hd_X4_mean gL_law_X4_mean hP hD hS hA foc_M hl.1 dL_law_1392 rfl rfl ⟨(Nat.le_of_ble_eq_true rfl), (Nat.le_of_ble_eq_true rfl)⟩ rfl rfl rfl (Nat.le_of_ble_eq_true rfl) hce (fun H locs hP hD hS => ?_)
    have hP : va_P G vwCl (lwW g ad bd sc tl tat tb cn cf sn sf tn tf vv ov jo js jp ja jk jt jb un uy (nI t') uq uz us up ua uk ut ub o1 fo o2 fd) H := hP
    have hD : va_D (fun q => s.heap.size ≤ q) (lwW g ad bd sc tl tat tb cn cf sn sf tn tf vv ov jo js jp ja jk jt jb un uy (nI t') uq uz us up ua uk ut ub o1 fo o2 fd) := hD
    refine lv_dstore (lv' := [(7, .double d), (6, .int (nI t')), (5, .int (nI i)), (4, .ref o2), (3, .ref o1), (2, .ref jo), (1, .ref (ad 0)), (0, .ref b)]) hx hb dL_law_1395 hl (by decide) rfl (fun ls hl => ?_)
    refine lv_aload_n hx hb dL_law_1397 rfl (lv_at hl 5 rfl) ?_
    refine roV (ci := 4) (As := []) (rest := []) X K (k_X4_thrown l G g jo js jp ja jk jt jb un uy (nI t') uq uz us up ua uk ut ub _ rfl) hd_X4_thrown gL_law_X4_thrown ((foc_M (M' := [])).sub hP) hl.1 dL_law_1398 rfl rfl ⟨(Nat.le_of_ble_eq_true rfl), (Nat.le_of_ble_eq_true rfl)⟩ rfl rfl rfl (Nat.le_of_ble_eq_true rfl) hce ?_
    refine lv_iload hx hb dL_law_1401 (lv_at hl 1 rfl) ?_
    refine lv_icmp_eq (tgt := 1408) hx hb dL_law_1403 (by decide) (fun _ => ?_) (fun h => absurd rfl h)
    refine lv_iload hx hb dL_law_1408 (lv_at hl 1 rfl) ?_
    refine lv_if_ne (tgt := 1445) hx hb dL_law_1410 (by decide) (fun _ => ?_) (fun h => absurd h (lw_nz htz))
    refine lv_goto (tgt := 1847) hx hb dL_law_1445 (by decide) ?_
    exact kk _ _ _ (lwI.mk hP hD hS hSt hRs hTx) (lv_dr hl)
  · have hP := hP.perm pm_ab
    have hD := hD.perm pm_ab
    refine lxS (As := [.ref (ad 0), .int (xs (nI i + 1).toNatClampNeg), .ref o2]) (rest := []) (wr := ((o1, .inl (g 4, 1, .inr (.inl fo))) :: (wM g jo js jp ja jk jt jb un uy uw uq uz us up ua uk ut ub))) X K hs hnc (kL_mean l G g ad bd sc tl tat tb cn cf sn sf tn tf vv ov o2 fd ((xs (nI i + 1).toNatClampNeg)) _ e1) hd_L_mean gL_law_L_mean hP hD hS hA hl.1 dL_law_1380 rfl rfl ⟨(Nat.le_of_ble_eq_true rfl), (Nat.le_of_ble_eq_true rfl)⟩ rfl (Nat.le_of_ble_eq_true rfl) hce (fun w1 H locs hp hP hD hS => ?_)
    have hp : w1 = _ := hp
    subst hp
    have hP := hP.perm pm_ab
    have hD := hD.perm pm_ab
    have hP : va_P G vwCl (lwW g ad bd sc tl tat tb cn cf sn sf tn tf vv' ov jo js jp ja jk jt jb un uy uw uq uz us up ua uk ut ub o1 fo o2 (vf_upd fd 0 (FP.ddiv (FP.l2d a) 4652007308841189376))) H := hP
    have hD : va_D (fun q => s.heap.size ≤ q) (lwW g ad bd sc tl tat tb cn cf sn sf tn tf vv' ov jo js jp ja jk jt jb un uy uw uq uz us up ua uk ut ub o1 fo o2 (vf_upd fd 0 (FP.ddiv (FP.l2d a) 4652007308841189376))) := hD
    refine lv_istore (lv' := [(6, .int 0), (5, .int (nI i)), (4, .ref o2), (3, .ref o1), (2, .ref jo), (1, .ref (ad 0)), (0, .ref b)]) hx hb dL_law_1383 hl (by decide) rfl (fun ls hl => ?_)
    refine lv_aload_n hx hb dL_law_1385 rfl (lv_at hl 4 rfl) ?_
    refine lv_aload_n hx hb dL_law_1386 rfl (lv_at hl 6 rfl) ?_
    refine lv_iload hx hb dL_law_1387 (lv_at hl 1 rfl) ?_
    refine lv_iconst (v := 1) hx hb dL_law_1389 (by decide) ?_
    refine lv_iadd hx hb dL_law_1390 ?_
    refine va_sld (i := nI i + 1) hx hb hX hbl (Nat.not_le.mpr hbl) hS (show vp_in (nI i + 1) L from lw_in (k := 1) (by omega) hL) dL_law_1391 ?_
    refine rwVf (ci := 4) (As := [.int (xs (nI i + 1).toNatClampNeg)]) (rest := []) X K (k_X4_mean l G g jo js jp ja jk jt jb un uy uw uq uz us up ua uk ut ub ((xs (nI i + 1).toNatClampNeg)) _ e2) hd_X4_mean gL_law_X4_mean hP hD hS hA foc_M hl.1 dL_law_1392 rfl rfl ⟨(Nat.le_of_ble_eq_true rfl), (Nat.le_of_ble_eq_true rfl)⟩ rfl rfl rfl (Nat.le_of_ble_eq_true rfl) hce (fun H locs hP hD hS => ?_)
    have hP : va_P G vwCl (lwW g ad bd sc tl tat tb cn cf sn sf tn tf vv' ov jo js jp ja jk jt jb un uy 0 uq uz us up ua uk ut ub o1 fo o2 (vf_upd fd 0 (FP.ddiv (FP.l2d a) 4652007308841189376))) H := hP
    have hD : va_D (fun q => s.heap.size ≤ q) (lwW g ad bd sc tl tat tb cn cf sn sf tn tf vv' ov jo js jp ja jk jt jb un uy 0 uq uz us up ua uk ut ub o1 fo o2 (vf_upd fd 0 (FP.ddiv (FP.l2d a) 4652007308841189376))) := hD
    refine lv_dstore (lv' := [(7, .double (FP.ddiv (FP.l2d a) 4652007308841189376)), (6, .int 0), (5, .int (nI i)), (4, .ref o2), (3, .ref o1), (2, .ref jo), (1, .ref (ad 0)), (0, .ref b)]) hx hb dL_law_1395 hl (by decide) rfl (fun ls hl => ?_)
    refine lv_aload_n hx hb dL_law_1397 rfl (lv_at hl 5 rfl) ?_
    refine roV (ci := 4) (As := []) (rest := []) X K (k_X4_thrown l G g jo js jp ja jk jt jb un uy 0 uq uz us up ua uk ut ub _ rfl) hd_X4_thrown gL_law_X4_thrown ((foc_M (M' := [])).sub hP) hl.1 dL_law_1398 rfl rfl ⟨(Nat.le_of_ble_eq_true rfl), (Nat.le_of_ble_eq_true rfl)⟩ rfl rfl rfl (Nat.le_of_ble_eq_true rfl) hce ?_
    refine lv_iload hx hb dL_law_1401 (lv_at hl 1 rfl) ?_
    refine lv_icmp_eq (tgt := 1408) hx hb dL_law_1403 (by decide) (fun _ => ?_) (fun h => absurd rfl h)
    refine lv_iload hx hb dL_law_1408 (lv_at hl 1 rfl) ?_
    refine lv_if_ne (tgt := 1445) hx hb dL_law_1410 (by decide) (fun h => absurd rfl h) (fun _ => ?_)
    refine lv_aload hx hb dL_law_1413 (lv_at hl 3 rfl) ?_
    refine lv_iconst (v := 0) hx hb dL_law_1415 (by decide) ?_
    refine va_dald hx hb K.1 hP 0 5 rfl rfl (vp_in_iff.mpr (by decide)) dL_law_1416 ?_
    refine lv_dload hx hb dL_law_1417 (lv_at hl 0 rfl) ?_
    refine lv_dcmp hx hb dL_law_1419 ?_
    refine lv_if_eq (tgt := 1445) hx hb dL_law_1420 (by decide) (fun _ => ?_) (fun h => absurd (dcm_o _ (dcmp_ok (mean_ok _)) _) h)
    refine lv_goto (tgt := 1847) hx hb dL_law_1445 (by decide) ?_
    exact kk _ _ _ (lwI.mk hP hD hS hSt hRs hTx) (lv_dr hl)

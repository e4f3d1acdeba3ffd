/-! ===== the law: what holds at the head of its loop ===== -/
abbrev lwW (g : Nat → ClassId) (ad : Nat → Nat) (bd : Nat → Nat → Nat) (sc tl tat : Int32) (tb cn : Nat → Int32) (cf sn : Nat → Nat → Int32) (sf : Nat → Nat → Nat → Int32) (tn : Int32) (tf vv ov : Nat → Int32) (jo js jp ja jk jt jb : Nat) (un uy uw uq uz : Int32) (us up ua uk ut ub : Nat → Int32) (o1 : Nat) (fo : Nat → Int64) (o2 : Nat) (fd : Nat → UInt64) : va_W := ((o2, .inl (g 5, 1, .inr (.inr (.inr (.inl fd))))) :: wM g jo js jp ja jk jt jb un uy uw uq uz us up ua uk ut ub) ++ ((o1, .inl (g 4, 1, .inr (.inl fo))) :: wX g ad bd sc tl tat tb cn cf sn sf tn tf vv ov)
def lwI (G : va_G) (g : Nat → ClassId) (ad : Nat → Nat) (jo js jp ja jk jt jb o1 o2 : Nat) (s : State) (H : Heap) (locs : List Loc) : Prop :=
  ∃ (bd : Nat → Nat → Nat) (sc tl tat : Int32) (tb cn : Nat → Int32) (cf sn : Nat → Nat → Int32) (sf : Nat → Nat → Nat → Int32) (tn : Int32) (tf vv ov : Nat → Int32) (un uy uw uq uz : Int32) (us up ua uk ut ub : Nat → Int32) (fo : Nat → Int64) (fd : Nat → UInt64),
    va_P G vwCl (lwW g ad bd sc tl tat tb cn cf sn sf tn tf vv ov jo js jp ja jk jt jb un uy uw uq uz us up ua uk ut ub o1 fo o2 fd) H ∧ va_D (fun q => s.heap.size ≤ q) (lwW g ad bd sc tl tat tb cn cf sn sf tn tf vv ov jo js jp ja jk jt jb un uy uw uq uz us up ua uk ut ub o1 fo o2 fd) ∧ va_S (fun q => s.heap.size ≤ q) s.heap H locs ∧ St un sc up sn sf ∧ Rs us cn cf ∧ Tx uy tl ut tb
theorem lwI.mk {G : va_G} {g : Nat → ClassId} {ad : Nat → Nat} {jo js jp ja jk jt jb o1 o2 : Nat} {s : State} {H : Heap} {locs : List Loc} {bd : Nat → Nat → Nat} {sc tl tat : Int32} {tb cn : Nat → Int32} {cf sn : Nat → Nat → Int32} {sf : Nat → Nat → Nat → Int32} {tn : Int32} {tf vv ov : Nat → Int32} {un uy uw uq uz : Int32} {us up ua uk ut ub : Nat → Int32} {fo : Nat → Int64} {fd : Nat → UInt64}
    (hP : va_P G vwCl (lwW g ad bd sc tl tat tb cn cf sn sf tn tf vv ov jo js jp ja jk jt jb un uy uw uq uz us up ua uk ut ub o1 fo o2 fd) H) (hD : va_D (fun q => s.heap.size ≤ q) (lwW g ad bd sc tl tat tb cn cf sn sf tn tf vv ov jo js jp ja jk jt jb un uy uw uq uz us up ua uk ut ub o1 fo o2 fd)) (hS : va_S (fun q => s.heap.size ≤ q) s.heap H locs) (h1 : St un sc up sn sf) (h2 : Rs us cn cf) (h3 : Tx uy tl ut tb) : lwI G g ad jo js jp ja jk jt jb o1 o2 s H locs :=
  ⟨bd, sc, tl, tat, tb, cn, cf, sn, sf, tn, tf, vv, ov, un, uy, uw, uq, uz, us, up, ua, uk, ut, ub, fo, fd, hP, hD, hS, h1, h2, h3⟩
abbrev lwL (b a0 jo o1 o2 i : Nat) : List (Nat × Value) := [(5, .int (nI i)), (4, .ref o2), (3, .ref o1), (2, .ref jo), (1, .ref a0), (0, .ref b)]
def lwE (l : Launch) (p : Program) (s : State) (m : MethodId) (meth : Method) (c : Code) (b L : Nat) (xs : Nat → Int32) (G : va_G) (g : Nat → ClassId) : Prop :=
  cx p s m #[Value.ref b] meth c cL_law 9 ret RL wsL_law ∧ amb G g s ∧ exS (fun q => s.heap.size ≤ q) s s.heap ∧ ncs s ∧ va_X b L xs s s.heap ∧ b < s.heap.size ∧ L ≤ 2560 ∧ l.stackTraces = false
theorem foc_M {a : Nat × va_E} {M M' Y : va_W} : focus ((a :: M) ++ Y) M M' ((a :: M') ++ Y) := ⟨a :: Y, List.Perm.cons a List.perm_append_comm, List.Perm.cons a List.perm_append_comm⟩
theorem foc_X {P X X' : va_W} {b : Nat × va_E} : focus (P ++ (b :: X)) X X' (P ++ (b :: X')) := ⟨P ++ [b], List.Perm.of_eq (by rw [List.append_assoc, List.singleton_append]), List.Perm.of_eq (by rw [List.append_assoc, List.singleton_append])⟩
theorem pm_ab {a b : Nat × va_E} {M Y : va_W} : ((a :: M) ++ (b :: Y)).Perm ((b :: M) ++ (a :: Y)) :=
  ((List.Perm.cons a List.perm_middle).trans (List.Perm.swap b a (M ++ Y))).trans (List.Perm.cons b List.perm_middle.symm)
theorem lw_in {i k L : Nat} (h : i + k < L) (hL : L ≤ 2560) : vp_in (nI i + nI k) L := by
  rw [nI_add]
  exact vp_in_iff.mpr (n_ix h (by omega))
theorem lw_nz {t : Nat} (h : 0 < t ∧ t < 4) : ¬ nI t = 0 := by
  rcases (show t = 1 ∨ t = 2 ∨ t = 3 by omega) with rfl | rfl | rfl <;> decide
theorem lcm_z (x : Int64) : lg_cmp x x = 0 := by
  unfold lg_cmp
  rw [if_neg (Int64.lt_irrefl), if_pos rfl]
theorem lcm_o (f : Nat → Int64) (x : Int64) : lg_cmp (vp_updL f 0 x (0 : Int32).toNatClampNeg) x = 0 := by
  rw [show vp_updL f 0 x (0 : Int32).toNatClampNeg = x from if_pos (by decide)]
  exact lcm_z x
theorem dcm_o (f : Nat → UInt64) {r : UInt64} (h : FP.dcmp r r = some .eq) (op : CmpOp) : Op.cmpValue (FP.dcmp (vf_upd f 0 r (0 : Int32).toNatClampNeg) r) op = 0 := by
  rw [show vf_upd f 0 r (0 : Int32).toNatClampNeg = r from if_pos (by decide), h]
  rfl
theorem lv_dr {ls : Array Slot} {n : Nat} {a b : Nat × Value} {l : List (Nat × Value)} (h : lv_has ls n (a :: b :: l)) : lv_has ls n l := ⟨h.1, h.2.1, fun q hq => h.2.2 q (List.mem_cons_of_mem _ (List.mem_cons_of_mem _ hq))⟩
theorem hd_L_addKey : ynm yL_addKey 6 := by unfold ynm; decide +kernel
theorem hd_X4_addKey : ynm yX4_addKey 4 := by unfold ynm; decide +kernel
theorem hd_X4_thrown : ynm yX4_thrown 0 := by unfold ynm; decide +kernel
theorem hd_L_removeKey : ynm yL_removeKey 4 := by unfold ynm; decide +kernel
theorem hd_X4_removeKey : ynm yX4_removeKey 2 := by unfold ynm; decide +kernel
theorem hd_L_setKey : ynm yL_setKey 6 := by unfold ynm; decide +kernel
theorem hd_X4_setKey : ynm yX4_setKey 4 := by unfold ynm; decide +kernel
theorem hd_L_moveKey : ynm yL_moveKey 5 := by unfold ynm; decide +kernel
theorem hd_X4_moveKey : ynm yX4_moveKey 3 := by unfold ynm; decide +kernel
theorem hd_L_setTangent : ynm yL_setTangent 6 := by unfold ynm; decide +kernel
theorem hd_X4_setTangent : ynm yX4_setTangent 4 := by unfold ynm; decide +kernel
theorem hd_L_lock : ynm yL_lock 5 := by unfold ynm; decide +kernel
theorem hd_X4_lock : ynm yX4_lock 3 := by unfold ynm; decide +kernel
theorem hd_L_stretch : ynm yL_stretch 6 := by unfold ynm; decide +kernel
theorem hd_X4_stretch : ynm yX4_stretch 4 := by unfold ynm; decide +kernel
theorem hd_L_copy : ynm yL_copy 5 := by unfold ynm; decide +kernel
theorem hd_X4_copy : ynm yX4_copy 3 := by unfold ynm; decide +kernel
theorem hd_L_reduce : ynm yL_reduce 4 := by unfold ynm; decide +kernel
theorem hd_X4_reduce : ynm yX4_reduce 2 := by unfold ynm; decide +kernel
theorem hd_L_key : ynm yL_key 5 := by unfold ynm; decide +kernel
theorem hd_X4_key : ynm yX4_key 3 := by unfold ynm; decide +kernel
theorem hd_L_value : ynm yL_value 4 := by unfold ynm; decide +kernel
theorem hd_X4_value : ynm yX4_value 2 := by unfold ynm; decide +kernel
theorem hd_L_sum : ynm yL_sum 5 := by unfold ynm; decide +kernel
theorem hd_X4_sum : ynm yX4_sum 3 := by unfold ynm; decide +kernel
theorem hd_L_extreme : ynm yL_extreme 6 := by unfold ynm; decide +kernel
theorem hd_X4_extreme : ynm yX4_extreme 4 := by unfold ynm; decide +kernel
theorem hd_L_crossings : ynm yL_crossings 4 := by unfold ynm; decide +kernel
theorem hd_X4_crossings : ynm yX4_crossings 2 := by unfold ynm; decide +kernel
theorem hd_L_difference : ynm yL_difference 4 := by unfold ynm; decide +kernel
theorem hd_X4_difference : ynm yX4_difference 2 := by unfold ynm; decide +kernel
theorem hd_L_mean : ynm yL_mean 3 := by unfold ynm; decide +kernel
theorem hd_X4_mean : ynm yX4_mean 1 := by unfold ynm; decide +kernel
theorem hd_L_error : ynm yL_error 4 := by unfold ynm; decide +kernel
theorem hd_X4_error : ynm yX4_error 2 := by unfold ynm; decide +kernel
theorem hd_L_greatestStretch : ynm yL_greatestStretch 5 := by unfold ynm; decide +kernel
theorem hd_X4_greatestStretch : ynm yX4_greatestStretch 3 := by unfold ynm; decide +kernel
theorem hd_L_leastEase : ynm yL_leastEase 4 := by unfold ynm; decide +kernel
theorem hd_X4_leastEase : ynm yX4_leastEase 2 := by unfold ynm; decide +kernel
theorem hd_L_append : ynm yL_append 3 := by unfold ynm; decide +kernel
theorem hd_X4_append : ynm yX4_append 1 := by unfold ynm; decide +kernel
theorem hd_X3_clearText : ynm yX3_clearText 0 := by unfold ynm; decide +kernel
theorem hd_X4_clearText : ynm yX4_clearText 0 := by unfold ynm; decide +kernel
theorem hd_L_parse : ynm yL_parse 3 := by unfold ynm; decide +kernel
theorem hd_X4_parse : ynm yX4_parse 1 := by unfold ynm; decide +kernel
theorem hd_L_undo : ynm yL_undo 2 := by unfold ynm; decide +kernel
theorem hd_X4_undo : ynm yX4_undo 0 := by unfold ynm; decide +kernel
theorem hd_X3_digest : ynm yX3_digest 0 := by unfold ynm; decide +kernel
theorem hd_X4_digest : ynm yX4_digest 0 := by unfold ynm; decide +kernel
set_option maxHeartbeats 4000000 in
set_option maxRecDepth 100000 in
theorem law_addKey {l : Launch} {p : Program} {e : Env} {s : State} {m : MethodId} {below : List Frame} {meth : Method} {c : Code} {b L : Nat} {xs : Nat → Int32} {G : va_G} {g : Nat → ClassId} {ad : Nat → Nat} {jo js jp ja jk jt jb o1 o2 : Nat} {H : Heap} {locs : List Loc} {ce sl i : Nat} {ls : Array Slot} {Q : State → Prop} (hce : ce + 1 ≤ 601024 ∧ sl + 6 ≤ 7293034) (hi : i + 5 ≤ L) (E : lwE l p s m meth c b L xs G g) (I : lwI G g ad jo js jp ja jk jt jb o1 o2 s H locs) (hl : lv_has ls 9 (lwL b (ad 0) jo o1 o2 i))
    (kk : ∀ (H1 : Heap) (locs1 : List Loc) (ls1 : Array Slot), lwI G g ad jo js jp ja jk jt jb o1 o2 s H1 locs1 → lv_has ls1 9 (lwL b (ad 0) jo o1 o2 i) → W p l e room_1 s m #[Value.ref b] below meth c H1 locs1 (ce + 1) (sl + 6) Q (F0 m 1847 ls1 [])) : W p l e room_1 s m #[Value.ref b] below meth c H locs ce sl Q (F0 m 156 ls []) := by
  obtain ⟨X, K, hs, hnc, hX, hbl, hL, hf0⟩ := E
  obtain ⟨hx, hb, hml, hr, hown, hts, hk⟩ := id X
  obtain ⟨bd, sc, tl, tat, tb, cn, cf, sn, sf, tn, tf, vv, ov, un, uy, uw, uq, uz, us, up, ua, uk, ut, ub, fo, fd, hP, hD, hS, hSt, hRs, hTx⟩ := I
  have hA : ∀ q : Nat, s.heap.size ≤ q → (fun q => s.heap.size ≤ q) q := fun _ h => h
  have hce0 : ce ≤ 601024 ∧ sl ≤ 7293034 := ⟨by omega, by omega⟩
  have hl : lv_has ls 9 [(5, .int (nI i)), (4, .ref o2), (3, .ref o1), (2, .ref jo), (1, .ref (ad 0)), (0, .ref b)] := hl
  refine lv_aload_n hx hb dL_law_156 rfl (lv_at hl 4 rfl) ?_
  refine lv_aload_n hx hb dL_law_157 rfl (lv_at hl 5 rfl) ?_
  refine lv_iload hx hb dL_law_158 (lv_at hl 0 rfl) ?_
  refine lv_iconst (v := 1) hx hb dL_law_160 (by decide) ?_
  refine lv_iadd hx hb dL_law_161 ?_
  refine va_sld (i := nI i + 1) hx hb hX hbl (Nat.not_le.mpr hbl) hS (show vp_in (nI i + 1) L from lw_in (k := 1) (by omega) hL) dL_law_162 ?_
  refine lv_aload_n hx hb dL_law_163 rfl (lv_at hl 5 rfl) ?_
  refine lv_iload hx hb dL_law_164 (lv_at hl 0 rfl) ?_
  refine lv_iconst (v := 2) hx hb dL_law_166 (by decide) ?_
  refine lv_iadd hx hb dL_law_167 ?_
  refine va_sld (i := nI i + 2) hx hb hX hbl (Nat.not_le.mpr hbl) hS (show vp_in (nI i + 2) L from lw_in (k := 2) (by omega) hL) dL_law_168 ?_
  refine lv_aload_n hx hb dL_law_169 rfl (lv_at hl 5 rfl) ?_
  refine lv_iload hx hb dL_law_170 (lv_at hl 0 rfl) ?_
  refine lv_iconst (v := 3) hx hb dL_law_172 (by decide) ?_
  refine lv_iadd hx hb dL_law_173 ?_
  refine va_sld (i := nI i + 3) hx hb hX hbl (Nat.not_le.mpr hbl) hS (show vp_in (nI i + 3) L from lw_in (k := 3) (by omega) hL) dL_law_174 ?_
  refine lv_aload_n hx hb dL_law_175 rfl (lv_at hl 5 rfl) ?_
  refine lv_iload hx hb dL_law_176 (lv_at hl 0 rfl) ?_
  refine lv_iconst (v := 4) hx hb dL_law_178 (by decide) ?_
  refine lv_iadd hx hb dL_law_179 ?_
  refine va_sld (i := nI i + 4) hx hb hX hbl (Nat.not_le.mpr hbl) hS (show vp_in (nI i + 4) L from lw_in (k := 4) (by omega) hL) dL_law_180 ?_
  refine lv_aload_n hx hb dL_law_181 rfl (lv_at hl 2 rfl) ?_
  rcases R_addKey (uw := uw) (ua := ua) (up := up) (us := us) (un := un) (sc := sc) bd hSt hRs ((xs (nI i + 1).toNatClampNeg)) ((xs (nI i + 2).toNatClampNeg)) ((xs (nI i + 3).toNatClampNeg)) ((xs (nI i + 4).toNatClampNeg)) with ⟨t, ht1, ht2, e1, e2⟩ | ⟨a, bd', sc', cn', cf', sn', sf', un', us', up', ua', e1, e2, hSt, hRs⟩
  · have htz : 0 < t ∧ t < 4 := ⟨ht2, ht1⟩
    refine lxS (As := [.ref (ad 0), .int (xs (nI i + 1).toNatClampNeg), .int (xs (nI i + 2).toNatClampNeg), .int (xs (nI i + 3).toNatClampNeg), .int (xs (nI i + 4).toNatClampNeg), .ref o1]) (rest := []) (wr := ((o2, .inl (g 5, 1, .inr (.inr (.inr (.inl fd))))) :: (wM g jo js jp ja jk jt jb un uy uw uq uz us up ua uk ut ub))) X K hs hnc (kxL_addKey l hf0 G g ad bd sc tl tat tb cn cf sn sf tn tf vv ov o1 fo ((xs (nI i + 1).toNatClampNeg)) ((xs (nI i + 2).toNatClampNeg)) ((xs (nI i + 3).toNatClampNeg)) ((xs (nI i + 4).toNatClampNeg)) _ _ ⟨ht1, ht2, rfl⟩ e1) hd_L_addKey gL_law_L_addKey hP hD hS hA hl.1 dL_law_182 rfl rfl ⟨(Nat.le_of_ble_eq_true rfl), (Nat.le_of_ble_eq_true rfl)⟩ rfl (Nat.le_of_ble_eq_true rfl) hce (fun w1 H locs hp hP hD hS => ?_)
    have hp : w1 = _ := hp
    subst hp
    have hP : va_P G vwCl (lwW g ad bd sc tl tat tb cn cf sn sf tn tf vv ov jo js jp ja jk jt jb un uy uw uq uz us up ua uk ut ub o1 fo o2 fd) H := hP
    have hD : va_D (fun q => s.heap.size ≤ q) (lwW g ad bd sc tl tat tb cn cf sn sf tn tf vv ov jo js jp ja jk jt jb un uy uw uq uz us up ua uk ut ub o1 fo o2 fd) := hD
    refine lv_istore (lv' := [(6, .int (nI t)), (5, .int (nI i)), (4, .ref o2), (3, .ref o1), (2, .ref jo), (1, .ref (ad 0)), (0, .ref b)]) hx hb dL_law_185 hl (by decide) rfl (fun ls hl => ?_)
    refine lv_aload_n hx hb dL_law_187 rfl (lv_at hl 4 rfl) ?_
    refine lv_aload_n hx hb dL_law_188 rfl (lv_at hl 6 rfl) ?_
    refine lv_iload hx hb dL_law_189 (lv_at hl 1 rfl) ?_
    refine lv_iconst (v := 1) hx hb dL_law_191 (by decide) ?_
    refine lv_iadd hx hb dL_law_192 ?_
    refine va_sld (i := nI i + 1) hx hb hX hbl (Nat.not_le.mpr hbl) hS (show vp_in (nI i + 1) L from lw_in (k := 1) (by omega) hL) dL_law_193 ?_
    refine lv_aload_n hx hb dL_law_194 rfl (lv_at hl 6 rfl) ?_
    refine lv_iload hx hb dL_law_195 (lv_at hl 1 rfl) ?_
    refine lv_iconst (v := 2) hx hb dL_law_197 (by decide) ?_
    refine lv_iadd hx hb dL_law_198 ?_
    refine va_sld (i := nI i + 2) hx hb hX hbl (Nat.not_le.mpr hbl) hS (show vp_in (nI i + 2) L from lw_in (k := 2) (by omega) hL) dL_law_199 ?_
    refine lv_aload_n hx hb dL_law_200 rfl (lv_at hl 6 rfl) ?_
    refine lv_iload hx hb dL_law_201 (lv_at hl 1 rfl) ?_
    refine lv_iconst (v := 3) hx hb dL_law_203 (by decide) ?_
    refine lv_iadd hx hb dL_law_204 ?_
    refine va_sld (i := nI i + 3) hx hb hX hbl (Nat.not_le.mpr hbl) hS (show vp_in (nI i + 3) L from lw_in (k := 3) (by omega) hL) dL_law_205 ?_
    refine lv_aload_n hx hb dL_law_206 rfl (lv_at hl 6 rfl) ?_
    refine lv_iload hx hb dL_law_207 (lv_at hl 1 rfl) ?_
    refine lv_iconst (v := 4) hx hb dL_law_209 (by decide) ?_
    refine lv_iadd hx hb dL_law_210 ?_
    refine va_sld (i := nI i + 4) hx hb hX hbl (Nat.not_le.mpr hbl) hS (show vp_in (nI i + 4) L from lw_in (k := 4) (by omega) hL) dL_law_211 ?_
    refine rwVf (ci := 4) (As := [.int (xs (nI i + 1).toNatClampNeg), .int (xs (nI i + 2).toNatClampNeg), .int (xs (nI i + 3).toNatClampNeg), .int (xs (nI i + 4).toNatClampNeg)]) (rest := []) X K (k_X4_addKey l G g jo js jp ja jk jt jb un uy uw uq uz us up ua uk ut ub ((xs (nI i + 1).toNatClampNeg)) ((xs (nI i + 2).toNatClampNeg)) ((xs (nI i + 3).toNatClampNeg)) ((xs (nI i + 4).toNatClampNeg)) _ e2) hd_X4_addKey gL_law_X4_addKey hP hD hS hA foc_M hl.1 dL_law_212 rfl rfl ⟨(Nat.le_of_ble_eq_true rfl), (Nat.le_of_ble_eq_true rfl)⟩ rfl rfl rfl (Nat.le_of_ble_eq_true rfl) hce (fun H locs hP hD hS => ?_)
    have hP : va_P G vwCl (lwW g ad bd sc tl tat tb cn cf sn sf tn tf vv ov jo js jp ja jk jt jb un uy (nI t) uq uz us up ua uk ut ub o1 fo o2 fd) H := hP
    have hD : va_D (fun q => s.heap.size ≤ q) (lwW g ad bd sc tl tat tb cn cf sn sf tn tf vv ov jo js jp ja jk jt jb un uy (nI t) uq uz us up ua uk ut ub o1 fo o2 fd) := hD
    refine lv_istore (lv' := [(7, .int 0), (6, .int (nI t)), (5, .int (nI i)), (4, .ref o2), (3, .ref o1), (2, .ref jo), (1, .ref (ad 0)), (0, .ref b)]) hx hb dL_law_215 hl (by decide) rfl (fun ls hl => ?_)
    refine lv_aload_n hx hb dL_law_217 rfl (lv_at hl 5 rfl) ?_
    refine roV (ci := 4) (As := []) (rest := []) X K (k_X4_thrown l G g jo js jp ja jk jt jb un uy (nI t) uq uz us up ua uk ut ub _ rfl) hd_X4_thrown gL_law_X4_thrown ((foc_M (M' := [])).sub hP) hl.1 dL_law_218 rfl rfl ⟨(Nat.le_of_ble_eq_true rfl), (Nat.le_of_ble_eq_true rfl)⟩ rfl rfl rfl (Nat.le_of_ble_eq_true rfl) hce ?_
    refine lv_iload hx hb dL_law_221 (lv_at hl 1 rfl) ?_
    refine lv_icmp_eq (tgt := 228) hx hb dL_law_223 (by decide) (fun _ => ?_) (fun h => absurd rfl h)
    refine lv_iload hx hb dL_law_228 (lv_at hl 1 rfl) ?_
    refine lv_if_ne (tgt := 245) hx hb dL_law_230 (by decide) (fun _ => ?_) (fun h => absurd h (lw_nz htz))
    refine lv_goto (tgt := 1847) hx hb dL_law_245 (by decide) ?_
    exact kk _ _ _ (lwI.mk hP hD hS hSt hRs hTx) (lv_dr hl)
  · refine lxS (As := [.ref (ad 0), .int (xs (nI i + 1).toNatClampNeg), .int (xs (nI i + 2).toNatClampNeg), .int (xs (nI i + 3).toNatClampNeg), .int (xs (nI i + 4).toNatClampNeg), .ref o1]) (rest := []) (wr := ((o2, .inl (g 5, 1, .inr (.inr (.inr (.inl fd))))) :: (wM g jo js jp ja jk jt jb un uy uw uq uz us up ua uk ut ub))) X K hs hnc (kL_addKey l G g ad bd sc tl tat tb cn cf sn sf tn tf vv ov o1 fo ((xs (nI i + 1).toNatClampNeg)) ((xs (nI i + 2).toNatClampNeg)) ((xs (nI i + 3).toNatClampNeg)) ((xs (nI i + 4).toNatClampNeg)) _ e1) hd_L_addKey gL_law_L_addKey hP hD hS hA hl.1 dL_law_182 rfl rfl ⟨(Nat.le_of_ble_eq_true rfl), (Nat.le_of_ble_eq_true rfl)⟩ rfl (Nat.le_of_ble_eq_true rfl) hce (fun w1 H locs hp hP hD hS => ?_)
    have hp : w1 = _ := hp
    subst hp
    have hP : va_P G vwCl (lwW g ad bd' sc' tl tat tb cn' cf' sn' sf' tn tf vv ov jo js jp ja jk jt jb un uy uw uq uz us up ua uk ut ub o1 (vp_updL fo 0 a.toInt64) o2 fd) H := hP
    have hD : va_D (fun q => s.heap.size ≤ q) (lwW g ad bd' sc' tl tat tb cn' cf' sn' sf' tn tf vv ov jo js jp ja jk jt jb un uy uw uq uz us up ua uk ut ub o1 (vp_updL fo 0 a.toInt64) o2 fd) := hD
    refine lv_istore (lv' := [(6, .int 0), (5, .int (nI i)), (4, .ref o2), (3, .ref o1), (2, .ref jo), (1, .ref (ad 0)), (0, .ref b)]) hx hb dL_law_185 hl (by decide) rfl (fun ls hl => ?_)
    refine lv_aload_n hx hb dL_law_187 rfl (lv_at hl 4 rfl) ?_
    refine lv_aload_n hx hb dL_law_188 rfl (lv_at hl 6 rfl) ?_
    refine lv_iload hx hb dL_law_189 (lv_at hl 1 rfl) ?_
    refine lv_iconst (v := 1) hx hb dL_law_191 (by decide) ?_
    refine lv_iadd hx hb dL_law_192 ?_
    refine va_sld (i := nI i + 1) hx hb hX hbl (Nat.not_le.mpr hbl) hS (show vp_in (nI i + 1) L from lw_in (k := 1) (by omega) hL) dL_law_193 ?_
    refine lv_aload_n hx hb dL_law_194 rfl (lv_at hl 6 rfl) ?_
    refine lv_iload hx hb dL_law_195 (lv_at hl 1 rfl) ?_
    refine lv_iconst (v := 2) hx hb dL_law_197 (by decide) ?_
    refine lv_iadd hx hb dL_law_198 ?_
    refine va_sld (i := nI i + 2) hx hb hX hbl (Nat.not_le.mpr hbl) hS (show vp_in (nI i + 2) L from lw_in (k := 2) (by omega) hL) dL_law_199 ?_
    refine lv_aload_n hx hb dL_law_200 rfl (lv_at hl 6 rfl) ?_
    refine lv_iload hx hb dL_law_201 (lv_at hl 1 rfl) ?_
    refine lv_iconst (v := 3) hx hb dL_law_203 (by decide) ?_
    refine lv_iadd hx hb dL_law_204 ?_
    refine va_sld (i := nI i + 3) hx hb hX hbl (Nat.not_le.mpr hbl) hS (show vp_in (nI i + 3) L from lw_in (k := 3) (by omega) hL) dL_law_205 ?_
    refine lv_aload_n hx hb dL_law_206 rfl (lv_at hl 6 rfl) ?_
    refine lv_iload hx hb dL_law_207 (lv_at hl 1 rfl) ?_
    refine lv_iconst (v := 4) hx hb dL_law_209 (by decide) ?_
    refine lv_iadd hx hb dL_law_210 ?_
    refine va_sld (i := nI i + 4) hx hb hX hbl (Nat.not_le.mpr hbl) hS (show vp_in (nI i + 4) L from lw_in (k := 4) (by omega) hL) dL_law_211 ?_
    refine rwVf (ci := 4) (As := [.int (xs (nI i + 1).toNatClampNeg), .int (xs (nI i + 2).toNatClampNeg), .int (xs (nI i + 3).toNatClampNeg), .int (xs (nI i + 4).toNatClampNeg)]) (rest := []) X K (k_X4_addKey l G g jo js jp ja jk jt jb un uy uw uq uz us up ua uk ut ub ((xs (nI i + 1).toNatClampNeg)) ((xs (nI i + 2).toNatClampNeg)) ((xs (nI i + 3).toNatClampNeg)) ((xs (nI i + 4).toNatClampNeg)) _ e2) hd_X4_addKey gL_law_X4_addKey hP hD hS hA foc_M hl.1 dL_law_212 rfl rfl ⟨(Nat.le_of_ble_eq_true rfl), (Nat.le_of_ble_eq_true rfl)⟩ rfl rfl rfl (Nat.le_of_ble_eq_true rfl) hce (fun H locs hP hD hS => ?_)
    have hP : va_P G vwCl (lwW g ad bd' sc' tl tat tb cn' cf' sn' sf' tn tf vv ov jo js jp ja jk jt jb un' uy 0 uq uz us' up' ua' uk ut ub o1 (vp_updL fo 0 a.toInt64) o2 fd) H := hP
    have hD : va_D (fun q => s.heap.size ≤ q) (lwW g ad bd' sc' tl tat tb cn' cf' sn' sf' tn tf vv ov jo js jp ja jk jt jb un' uy 0 uq uz us' up' ua' uk ut ub o1 (vp_updL fo 0 a.toInt64) o2 fd) := hD
    refine lv_istore (lv' := [(7, .int a), (6, .int 0), (5, .int (nI i)), (4, .ref o2), (3, .ref o1), (2, .ref jo), (1, .ref (ad 0)), (0, .ref b)]) hx hb dL_law_215 hl (by decide) rfl (fun ls hl => ?_)
    refine lv_aload_n hx hb dL_law_217 rfl (lv_at hl 5 rfl) ?_
    refine roV (ci := 4) (As := []) (rest := []) X K (k_X4_thrown l G g jo js jp ja jk jt jb un' uy 0 uq uz us' up' ua' uk ut ub _ rfl) hd_X4_thrown gL_law_X4_thrown ((foc_M (M' := [])).sub hP) hl.1 dL_law_218 rfl rfl ⟨(Nat.le_of_ble_eq_true rfl), (Nat.le_of_ble_eq_true rfl)⟩ rfl rfl rfl (Nat.le_of_ble_eq_true rfl) hce ?_
    refine lv_iload hx hb dL_law_221 (lv_at hl 1 rfl) ?_
    refine lv_icmp_eq (tgt := 228) hx hb dL_law_223 (by decide) (fun _ => ?_) (fun h => absurd rfl h)
    refine lv_iload hx hb dL_law_228 (lv_at hl 1 rfl) ?_
    refine lv_if_ne (tgt := 245) hx hb dL_law_230 (by decide) (fun h => absurd rfl h) (fun _ => ?_)
    refine lv_aload_n hx hb dL_law_233 rfl (lv_at hl 4 rfl) ?_
    refine lv_iconst (v := 0) hx hb dL_law_234 (by decide) ?_
    refine va_lald hx hb K.1 hP 8 4 rfl rfl (vp_in_iff.mpr (by decide)) dL_law_235 ?_
    refine lv_iload hx hb dL_law_236 (lv_at hl 0 rfl) ?_
    refine lv_i2l (v := a.toInt64) hx hb dL_law_238 rfl ?_
    refine W.lcmp hx hb dL_law_239 ?_
    refine lv_if_eq (tgt := 245) hx hb dL_law_240 (by decide) (fun _ => ?_) (fun h => absurd (lcm_o _ _) h)
    refine lv_goto (tgt := 1847) hx hb dL_law_245 (by decide) ?_
    exact kk _ _ _ (lwI.mk hP hD hS hSt hRs hTx) (lv_dr hl)

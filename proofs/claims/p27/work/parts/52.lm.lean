/-! ===== the law's loop ===== -/
abbrev lmW (g : Nat → ClassId) (ad : Nat → Nat) (qn qf qv qe qw : Nat) (an af av ae aw : Nat → Int32) (bd : Nat → Nat → Nat) (sc tl tat : Int32) (tb cn : Nat → Int32) (cf sn : Nat → Nat → Int32) (sf : Nat → Nat → Nat → Int32) (tn : Int32) (tf vv ov : Nat → Int32) : va_W := (qn, .inl (g 0, 2, .inl an)) :: (qf, .inl (g 0, 16, .inl af)) :: (qv, .inl (g 0, 16, .inl av)) :: (qe, .inl (g 0, 16, .inl ae)) :: (qw, .inl (g 0, 16, .inl aw)) :: wX g ad bd sc tl tat tb cn cf sn sf tn tf vv ov
def lmI (G : va_G) (g : Nat → ClassId) (ad : Nat → Nat) (qn qf qv qe qw : Nat) (s : State) (H : Heap) (locs : List Loc) : Prop :=
  ∃ (an af av ae aw : Nat → Int32) (bd : Nat → Nat → Nat) (sc tl tat : Int32) (tb cn : Nat → Int32) (cf sn : Nat → Nat → Int32) (sf : Nat → Nat → Nat → Int32) (tn : Int32) (tf vv ov : Nat → Int32),
    va_P G vwCl (lmW g ad qn qf qv qe qw an af av ae aw bd sc tl tat tb cn cf sn sf tn tf vv ov) H ∧ va_D (fun q => s.heap.size ≤ q) (lmW g ad qn qf qv qe qw an af av ae aw bd sc tl tat tb cn cf sn sf tn tf vv ov) ∧ va_S (fun q => s.heap.size ≤ q) s.heap H locs ∧ Ls an af av ae aw sc cn cf
theorem lmI.mk {G : va_G} {g : Nat → ClassId} {ad : Nat → Nat} {qn qf qv qe qw : Nat} {s : State} {H : Heap} {locs : List Loc} {an af av ae aw : Nat → Int32} {bd : Nat → Nat → Nat} {sc tl tat : Int32} {tb cn : Nat → Int32} {cf sn : Nat → Nat → Int32} {sf : Nat → Nat → Nat → Int32} {tn : Int32} {tf vv ov : Nat → Int32} (hP : va_P G vwCl (lmW g ad qn qf qv qe qw an af av ae aw bd sc tl tat tb cn cf sn sf tn tf vv ov) H) (hD : va_D (fun q => s.heap.size ≤ q) (lmW g ad qn qf qv qe qw an af av ae aw bd sc tl tat tb cn cf sn sf tn tf vv ov)) (hS : va_S (fun q => s.heap.size ≤ q) s.heap H locs) (h : Ls an af av ae aw sc cn cf) : lmI G g ad qn qf qv qe qw s H locs :=
  ⟨an, af, av, ae, aw, bd, sc, tl, tat, tb, cn, cf, sn, sf, tn, tf, vv, ov, hP, hD, hS, h⟩
abbrev lmL (b a0 qn qf qv qe qw t i : Nat) : List (Nat × Value) := [(9, .int (nI i)), (8, .int (nI t)), (7, .int 1), (6, .ref qw), (5, .ref qe), (4, .ref qv), (3, .ref qf), (2, .ref qn), (1, .ref a0), (0, .ref b)]
def lmE (l : Launch) (p : Program) (s : State) (m : MethodId) (meth : Method) (c : Code) (b L : Nat) (xs : Nat → Int32) (G : va_G) (g : Nat → ClassId) : Prop :=
  cx p s m #[Value.ref b] meth c cL_law 11 ret RL wsL_law ∧ amb G g s ∧ exS (fun q => s.heap.size ≤ q) s s.heap ∧ ncs s ∧ va_X b L xs s s.heap ∧ b < s.heap.size ∧ L ≤ 260 ∧ l.stackTraces = false
set_option maxHeartbeats 4000000 in
set_option maxRecDepth 100000 in
theorem lm_turn {l : Launch} {p : Program} {e : Env} {s : State} {m : MethodId} {below : List Frame} {meth : Method} {c : Code} {b L : Nat} {xs : Nat → Int32} {G : va_G} {g : Nat → ClassId} {ad : Nat → Nat} {qn qf qv qe qw t i ce sl : Nat} {H : Heap} {locs : List Loc} {ls : Array Slot} {Q : State → Prop} (hce : ce + 1 ≤ 600104 ∧ sl + 6 ≤ 7301313) (hi : i < 100) (E : lmE l p s m meth c b L xs G g) (I : lmI G g ad qn qf qv qe qw s H locs) (hl : lv_has ls 11 (lmL b (ad 0) qn qf qv qe qw t i))
    (kk : ∀ (H1 : Heap) (locs1 : List Loc) (ls1 : Array Slot), lmI G g ad qn qf qv qe qw s H1 locs1 → lv_has ls1 11 (lmL b (ad 0) qn qf qv qe qw t (i + 1)) → W p l e room_1 s m #[Value.ref b] below meth c H1 locs1 (ce + 1) (sl + 6) Q (F0 m 68 ls1 [])) : W p l e room_1 s m #[Value.ref b] below meth c H locs ce sl Q (F0 m 80 ls []) := by
  obtain ⟨X, K, hs, hnc, hX, hbl, hL, hf0⟩ := E
  obtain ⟨hx, hb, hml, hr, hown, hts, hk⟩ := id X
  obtain ⟨an, af, av, ae, aw, bd, sc, tl, tat, tb, cn, cf, sn, sf, tn, tf, vv, ov, hP, hD, hS, hLs⟩ := I
  have hA : ∀ q : Nat, s.heap.size ≤ q → (fun q => s.heap.size ≤ q) q := fun _ h => h
  have hce0 : ce ≤ 600104 ∧ sl ≤ 7301313 := ⟨by omega, by omega⟩
  refine lv_aload_n hx hb dL_law_80 rfl (lv_at hl 9 rfl) ?_
  refine lv_iconst (v := 1) hx hb dL_law_81 (by decide) ?_
  refine lv_iload hx hb dL_law_82 (lv_at hl 0 rfl) ?_
  refine lv_iadd hx hb dL_law_84 ?_
  refine W.eq (g2 := F0 m 85 ls [.int (nI (1 + i)), .ref b]) (by rw [← nI_add 1 i]; rfl) ?_
  refine ceS (rest := []) X hL hX hbl hS (k := 1 + i) (by omega) gL_law_L_cell hl.1 dL_law_85 ⟨(Nat.le_of_ble_eq_true rfl), (Nat.le_of_ble_eq_true rfl)⟩ (Nat.le_of_ble_eq_true rfl) hce0 (fun v => ?_)
  refine lv_sipush (v := 7919) hx hb dL_law_88 (by decide) ?_
  refine lv_iload hx hb dL_law_91 (lv_at hl 0 rfl) ?_
  refine lv_imul hx hb dL_law_93 ?_
  refine lv_ixor hx hb dL_law_94 ?_
  refine lv_topi (fun z ez => ?_)
  refine lv_istore (lv' := [(10, .int z), (9, .int (nI i)), (8, .int (nI t)), (7, .int 1), (6, .ref qw), (5, .ref qe), (4, .ref qv), (3, .ref qf), (2, .ref qn), (1, .ref (ad 0)), (0, .ref b)]) hx hb dL_law_95 hl (by decide) rfl (fun ls hl => ?_)
  refine lv_aload_n hx hb dL_law_97 rfl (lv_at hl 9 rfl) ?_
  refine lv_aload_n hx hb dL_law_98 rfl (lv_at hl 8 rfl) ?_
  refine lv_aload_n hx hb dL_law_99 rfl (lv_at hl 7 rfl) ?_
  refine lv_aload hx hb dL_law_100 (lv_at hl 6 rfl) ?_
  refine lv_aload hx hb dL_law_102 (lv_at hl 5 rfl) ?_
  refine lv_aload hx hb dL_law_104 (lv_at hl 4 rfl) ?_
  refine lv_iload hx hb dL_law_106 (lv_at hl 0 rfl) ?_
  obtain ⟨an', af', av', ae', aw', bd', sc', cn', cf', sn', sf', e1, hLs'⟩ := A_acts (bd := bd) (sn := sn) (sf := sf) hLs z
  refine lxSN (As := [.ref (ad 0), .ref qn, .ref qf, .ref qv, .ref qe, .ref qw, .int z]) (rest := []) X K hs hnc (k_L_acts l hf0 G g ad qn qf qv qe qw an af av ae aw bd sc tl tat tb cn cf sn sf tn tf vv ov z _ e1) hd_L_acts gL_law_L_acts hP hD hS hA hl.1 dL_law_108 rfl rfl ⟨(Nat.le_of_ble_eq_true rfl), (Nat.le_of_ble_eq_true rfl)⟩ rfl (Nat.le_of_ble_eq_true rfl) hce (fun w1 H locs hp hP hD hS => ?_)
  have hp : w1 = lmW g ad qn qf qv qe qw an' af' av' ae' aw' bd' sc' tl tat tb cn' cf' sn' sf' tn tf vv ov := hp
  subst hp
  refine W.eq (g2 := F0 m 111 ls [.int 1]) rfl ?_
  refine lv_if_eq (tgt := 144) hx hb dL_law_111 (by decide) (fun h => absurd h (by decide)) (fun _ => ?_)
  have J : W p l e room_1 s m #[Value.ref b] below meth c H locs (ce + 1) (sl + 6) Q (F0 m 140 ls []) := by
    refine lv_iconst (v := 1) hx hb dL_law_140 (by decide) ?_
    refine lv_goto (tgt := 145) hx hb dL_law_141 (by decide) ?_
    refine lv_istore (lv' := [(7, .int 1), (10, .int z), (9, .int (nI i)), (8, .int (nI t)), (6, .ref qw), (5, .ref qe), (4, .ref qv), (3, .ref qf), (2, .ref qn), (1, .ref (ad 0)), (0, .ref b)]) hx hb dL_law_145 hl (by decide) rfl (fun ls hl => ?_)
    refine lv_iinc (v := nI (i + 1)) (lv' := [(9, .int (nI (i + 1))), (7, .int 1), (10, .int z), (8, .int (nI t)), (6, .ref qw), (5, .ref qe), (4, .ref qv), (3, .ref qf), (2, .ref qn), (1, .ref (ad 0)), (0, .ref b)]) hx hb dL_law_147 hl (k := 2) rfl (by rw [show Int32.ofInt 1 = nI 1 by decide, nI_add]) (by decide) rfl (fun ls hl => ?_)
    refine lv_goto (tgt := 68) hx hb dL_law_150 (by decide) ?_
    exact kk _ _ _ (lmI.mk hP hD hS hLs') (lv_sub hl [0, 3, 1, 4, 5, 6, 7, 8, 9, 10] rfl)
  refine lv_iload hx hb dL_law_114 (lv_at hl 1 rfl) ?_
  refine lv_iconst (v := 3) hx hb dL_law_116 (by decide) ?_
  refine lv_irem hx hb dL_law_117 (by decide) ?_
  refine lv_if_gt (tgt := 140) hx hb dL_law_118 (by decide) (fun _ => J) (fun _ => ?_)
  refine lv_aload_n hx hb dL_law_121 rfl (lv_at hl 9 rfl) ?_
  refine lv_aload_n hx hb dL_law_122 rfl (lv_at hl 8 rfl) ?_
  refine lv_aload_n hx hb dL_law_123 rfl (lv_at hl 7 rfl) ?_
  refine lv_aload hx hb dL_law_124 (lv_at hl 6 rfl) ?_
  refine lv_aload hx hb dL_law_126 (lv_at hl 5 rfl) ?_
  refine lv_aload hx hb dL_law_128 (lv_at hl 4 rfl) ?_
  refine lv_iload hx hb dL_law_130 (lv_at hl 0 rfl) ?_
  refine lv_iconst (v := 1) hx hb dL_law_132 (by decide) ?_
  refine lv_ishr hx hb dL_law_133 ?_
  refine lv_topi (fun z2 ez2 => ?_)
  refine roS (As := [.ref (ad 0), .ref qn, .ref qf, .ref qv, .ref qe, .ref qw, .int z2]) (rest := []) X K (k_L_isSo l G g ad qn qf qv qe qw an' af' av' ae' aw' bd' sc' tl tat tb cn' cf' sn' sf' tn tf vv ov z2 _ (A_isSo hLs' z2)) hd_L_isSo gL_law_L_isSo hP hl.1 dL_law_134 rfl rfl ⟨(Nat.le_of_ble_eq_true rfl), (Nat.le_of_ble_eq_true rfl)⟩ rfl (Nat.le_of_ble_eq_true rfl) hce ?_
  exact lv_if_eq (tgt := 144) hx hb dL_law_137 (by decide) (fun h => absurd h (by decide)) (fun _ => J)
theorem K_thr {an af av ae aw : Nat → Int32} {sc : Int32} {cn : Nat → Int32} {cf : Nat → Nat → Int32} (h : Ls an af av ae aw sc cn cf) : F_X3_key cn cf 0 (an (0 : Int32).toNatClampNeg) 0 = some (.inl 1) := by
  obtain ⟨m, hm, han, hcn, -⟩ := h.1 0 (by omega)
  unfold F_X3_key
  rw [show (0 : Int32).toNatClampNeg = 0 from rfl, han, show F_X3_curveNumbered 0 = some (.inr 0) from kCur (c := 0) (by omega), thr_r, if_ (nI_ne (by omega)), hcn, kKeyO (by omega) (Nat.le_refl _) (by omega), thr_l]
theorem K_thr4 {cn : Nat → Int32} {cf : Nat → Nat → Int32} : F_X3_key cn cf 4 (-1) 0 = some (.inl 1) := by
  unfold F_X3_key
  rw [kCur4, thr_l]
theorem V_thr {cn : Nat → Int32} {cf : Nat → Nat → Int32} : F_X3_value cn cf 1 1000 = some (.inl 2) := by
  unfold F_X3_value
  rw [show F_X3_curveNumbered 1 = some (.inr 1) from kCur (c := 1) (by omega), thr_r, kRout (by decide), thr_l]
set_option maxHeartbeats 4000000 in
set_option maxRecDepth 100000 in
theorem lm_end {l : Launch} {p : Program} {e : Env} {s : State} {m : MethodId} {below : List Frame} {meth : Method} {c : Code} {b L : Nat} {xs : Nat → Int32} {G : va_G} {g : Nat → ClassId} {ad : Nat → Nat} {qn qf qv qe qw t i ce sl : Nat} {H : Heap} {locs : List Loc} {ls : Array Slot} {Q : State → Prop} (hce : ce + 3 ≤ 600104 ∧ sl + 18 ≤ 7301313) (E : lmE l p s m meth c b L xs G g) (I : lmI G g ad qn qf qv qe qw s H locs) (hl : lv_has ls 11 (lmL b (ad 0) qn qf qv qe qw t i))
    (kk : ∀ (H1 : Heap) (locs1 : List Loc) (ls1 : Array Slot), (∀ q ∈ locs1, s.heap.size ≤ q.base) → W p l e room_1 s m #[Value.ref b] below meth c H1 locs1 (ce + 3) (sl + 18) Q (F0 m 218 ls1 [])) : W p l e room_1 s m #[Value.ref b] below meth c H locs ce sl Q (F0 m 153 ls []) := by
  obtain ⟨X, K, hs, hnc, hX, hbl, hL, hf0⟩ := E
  obtain ⟨hx, hb, hml, hr, hown, hts, hk⟩ := id X
  obtain ⟨an, af, av, ae, aw, bd, sc, tl, tat, tb, cn, cf, sn, sf, tn, tf, vv, ov, hP, hD, hS, hLs⟩ := I
  have hA : ∀ q : Nat, s.heap.size ≤ q → (fun q => s.heap.size ≤ q) q := fun _ h => h
  have hce0 : ce ≤ 600104 ∧ sl ≤ 7301313 := ⟨by omega, by omega⟩
  refine lv_iload hx hb dL_law_153 (lv_at hl 2 rfl) ?_
  refine lv_if_eq (tgt := 222) hx hb dL_law_155 (by decide) (fun h => absurd h (by decide)) (fun _ => ?_)
  refine lv_aload_n hx hb dL_law_158 rfl (lv_at hl 8 rfl) ?_
  refine lv_aload_n hx hb dL_law_159 rfl (lv_at hl 7 rfl) ?_
  refine lv_aload_n hx hb dL_law_160 rfl (lv_at hl 6 rfl) ?_
  refine lv_aload hx hb dL_law_161 (lv_at hl 5 rfl) ?_
  refine lv_aload hx hb dL_law_163 (lv_at hl 4 rfl) ?_
  refine lv_aload hx hb dL_law_165 (lv_at hl 3 rfl) ?_
  refine lv_aload_n hx hb dL_law_167 rfl (lv_at hl 9 rfl) ?_
  refine lv_bipush (v := nI 73) hx hb dL_law_168 (by decide) ?_
  refine ceS (rest := [.ref qw, .ref qe, .ref qv, .ref qf, .ref qn, .ref (ad 0)]) X hL hX hbl hS (k := 73) (by omega) gL_law_L_cell hl.1 dL_law_170 ⟨(Nat.le_of_ble_eq_true rfl), (Nat.le_of_ble_eq_true rfl)⟩ (Nat.le_of_ble_eq_true rfl) hce0 (fun v => ?_)
  refine roS (As := [.ref (ad 0), .ref qn, .ref qf, .ref qv, .ref qe, .ref qw, .int v]) (rest := []) X K (k_L_isSo l G g ad qn qf qv qe qw an af av ae aw bd sc tl tat tb cn cf sn sf tn tf vv ov v _ (A_isSo hLs v)) hd_L_isSo gL_law_L_isSo hP hl.1 dL_law_173 rfl rfl ⟨(Nat.le_of_ble_eq_true rfl), (Nat.le_of_ble_eq_true rfl)⟩ rfl (Nat.le_of_ble_eq_true rfl) hce0 ?_
  refine lv_if_eq (tgt := 222) hx hb dL_law_176 (by decide) (fun h => absurd h (by decide)) (fun _ => ?_)
  refine lv_aload_n hx hb dL_law_179 rfl (lv_at hl 8 rfl) ?_
  refine lv_iconst (v := 0) hx hb dL_law_180 (by decide) ?_
  refine lv_aload_n hx hb dL_law_181 rfl (lv_at hl 7 rfl) ?_
  refine lv_iconst (v := 0) hx hb dL_law_182 (by decide) ?_
  refine va_iald hx hb K.1 hP 0 0 rfl rfl (vp_in_iff.mpr (by decide)) dL_law_183 ?_
  refine lv_iconst (v := 0) hx hb dL_law_184 (by decide) ?_
  refine lxS (As := [.ref (ad 0), .int 0, .int (an (0 : Int32).toNatClampNeg), .int 0]) (rest := []) (wr := [(qn, .inl (g 0, 2, .inl an)), (qf, .inl (g 0, 16, .inl af)), (qv, .inl (g 0, 16, .inl av)), (qe, .inl (g 0, 16, .inl ae)), (qw, .inl (g 0, 16, .inl aw))]) X K hs hnc (kxL_keyOf l hf0 G g ad bd sc tl tat tb cn cf sn sf tn tf vv ov 0 (an (0 : Int32).toNatClampNeg) 0 1 (Or.inl rfl) (K_thr hLs)) hd_L_keyOf gL_law_L_keyOf hP hD hS hA hl.1 dL_law_185 rfl rfl ⟨(Nat.le_of_ble_eq_true rfl), (Nat.le_of_ble_eq_true rfl)⟩ rfl (Nat.le_of_ble_eq_true rfl) ⟨show ce + 1 ≤ 600104 by omega, show sl + 6 ≤ 7301313 by omega⟩ (fun w1 H locs hp hP hD hS => ?_)
  have hp : w1 = wX g ad bd sc tl tat tb cn cf sn sf tn tf vv ov := hp
  subst hp
  have hP : va_P G vwCl (lmW g ad qn qf qv qe qw an af av ae aw bd sc tl tat tb cn cf sn sf tn tf vv ov) H := hP
  have hD : va_D (fun q => s.heap.size ≤ q) (lmW g ad qn qf qv qe qw an af av ae aw bd sc tl tat tb cn cf sn sf tn tf vv ov) := hD
  refine lv_ldc (v := (-10000001)) hx hb hown (hts _ (by decide +kernel)) dL_law_188 ?_
  refine lv_icmp_ne (tgt := 222) hx hb dL_law_190 (by decide) (fun h => absurd (show xcd 1 = -10000001 from rfl) h) (fun _ => ?_)
  refine lv_aload_n hx hb dL_law_193 rfl (lv_at hl 8 rfl) ?_
  refine lv_iconst (v := 4) hx hb dL_law_194 (by decide) ?_
  refine lv_iconst (v := (-1)) hx hb dL_law_195 (by decide) ?_
  refine lv_iconst (v := 0) hx hb dL_law_196 (by decide) ?_
  refine lxS (As := [.ref (ad 0), .int 4, .int (-1), .int 0]) (rest := []) (wr := [(qn, .inl (g 0, 2, .inl an)), (qf, .inl (g 0, 16, .inl af)), (qv, .inl (g 0, 16, .inl av)), (qe, .inl (g 0, 16, .inl ae)), (qw, .inl (g 0, 16, .inl aw))]) X K hs hnc (kxL_keyOf l hf0 G g ad bd sc tl tat tb cn cf sn sf tn tf vv ov 4 (-1) 0 1 (Or.inl rfl) K_thr4) hd_L_keyOf gL_law_L_keyOf hP hD hS hA hl.1 dL_law_197 rfl rfl ⟨(Nat.le_of_ble_eq_true rfl), (Nat.le_of_ble_eq_true rfl)⟩ rfl (Nat.le_of_ble_eq_true rfl) ⟨show ce + 1 + 1 ≤ 600104 by omega, show sl + 6 + 6 ≤ 7301313 by omega⟩ (fun w1 H locs hp hP hD hS => ?_)
  have hp : w1 = wX g ad bd sc tl tat tb cn cf sn sf tn tf vv ov := hp
  subst hp
  have hP : va_P G vwCl (lmW g ad qn qf qv qe qw an af av ae aw bd sc tl tat tb cn cf sn sf tn tf vv ov) H := hP
  have hD : va_D (fun q => s.heap.size ≤ q) (lmW g ad qn qf qv qe qw an af av ae aw bd sc tl tat tb cn cf sn sf tn tf vv ov) := hD
  refine lv_ldc (v := (-10000001)) hx hb hown (hts _ (by decide +kernel)) dL_law_200 ?_
  refine lv_icmp_ne (tgt := 222) hx hb dL_law_202 (by decide) (fun h => absurd (show xcd 1 = -10000001 from rfl) h) (fun _ => ?_)
  refine lv_aload_n hx hb dL_law_205 rfl (lv_at hl 8 rfl) ?_
  refine lv_iconst (v := 1) hx hb dL_law_206 (by decide) ?_
  refine lv_sipush (v := 1000) hx hb dL_law_207 (by decide) ?_
  refine lxS (As := [.ref (ad 0), .int 1, .int 1000]) (rest := []) (wr := [(qn, .inl (g 0, 2, .inl an)), (qf, .inl (g 0, 16, .inl af)), (qv, .inl (g 0, 16, .inl av)), (qe, .inl (g 0, 16, .inl ae)), (qw, .inl (g 0, 16, .inl aw))]) X K hs hnc (kxL_valueOf l hf0 G g ad bd sc tl tat tb cn cf sn sf tn tf vv ov 1 1000 2 (Or.inr rfl) V_thr) hd_L_valueOf gL_law_L_valueOf hP hD hS hA hl.1 dL_law_210 rfl rfl ⟨(Nat.le_of_ble_eq_true rfl), (Nat.le_of_ble_eq_true rfl)⟩ rfl (Nat.le_of_ble_eq_true rfl) ⟨show ce + 1 + 1 + 1 ≤ 600104 by omega, show sl + 6 + 6 + 6 ≤ 7301313 by omega⟩ (fun w1 H locs hp hP hD hS => ?_)
  refine lv_ldc (v := (-10000002)) hx hb hown (hts _ (by decide +kernel)) dL_law_213 ?_
  refine lv_icmp_ne (tgt := 222) hx hb dL_law_215 (by decide) (fun h => absurd (show xcd 2 = -10000002 from rfl) h) (fun _ => ?_)
  exact kk H locs ls hS.2.2
theorem lm_loop {l : Launch} {p : Program} {e : Env} {s : State} {m : MethodId} {below : List Frame} {meth : Method} {c : Code} {b L : Nat} {xs : Nat → Int32} {G : va_G} {g : Nat → ClassId} {ad : Nat → Nat} {qn qf qv qe qw t : Nat} {Q : State → Prop} (ht : t ≤ 100) (E : lmE l p s m meth c b L xs G g)
    (kend : ∀ (H1 : Heap) (locs1 : List Loc) (ls1 : Array Slot), (∀ q ∈ locs1, s.heap.size ≤ q.base) → W p l e room_1 s m #[Value.ref b] below meth c H1 locs1 600104 7301313 Q (F0 m 218 ls1 [])) : ∀ (N i ce sl : Nat) (H : Heap) (locs : List Loc) (ls : Array Slot), i + N = t → ce + N + 3 ≤ 600104 → sl + 6 * N + 18 ≤ 7301313 → lmI G g ad qn qf qv qe qw s H locs → lv_has ls 11 (lmL b (ad 0) qn qf qv qe qw t i) → W p l e room_1 s m #[Value.ref b] below meth c H locs ce sl Q (F0 m 68 ls []) := by
  have hx := E.1.1
  have hb := E.1.2.1
  intro N
  induction N with
  | zero =>
    intro i ce sl H locs ls h1 h2 h3 I hl
    refine lv_iload hx hb dL_law_68 (lv_at hl 0 rfl) ?_
    refine lv_iload hx hb dL_law_70 (lv_at hl 1 rfl) ?_
    refine lv_icmp_ge (tgt := 153) hx hb dL_law_72 (by decide) (fun _ => ?_) (fun h => absurd (show nI t ≤ nI i from (n_le (by omega) (by omega)).mpr (by omega)) h)
    exact lm_end ⟨by omega, by omega⟩ E I hl (fun H1 locs1 ls1 hq => W.widen (k := 600104) (n := 7301313) (by omega) (by omega) (kend H1 locs1 ls1 hq))
  | succ N ih =>
    intro i ce sl H locs ls h1 h2 h3 I hl
    refine lv_iload hx hb dL_law_68 (lv_at hl 0 rfl) ?_
    refine lv_iload hx hb dL_law_70 (lv_at hl 1 rfl) ?_
    refine lv_icmp_ge (tgt := 153) hx hb dL_law_72 (by decide) (fun h => absurd ((n_le (a := t) (by omega) (by omega)).mp h) (by omega)) (fun _ => ?_)
    refine lv_iload hx hb dL_law_75 (lv_at hl 2 rfl) ?_
    refine lv_if_eq (tgt := 153) hx hb dL_law_77 (by decide) (fun h => absurd h (by decide)) (fun _ => ?_)
    exact lm_turn ⟨by omega, by omega⟩ (by omega) E I hl (fun H1 locs1 ls1 I1 hl1 => ih (i + 1) (ce + 1) (sl + 6) H1 locs1 ls1 (by omega) (by omega) (by omega) I1 hl1)

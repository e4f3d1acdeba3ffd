theorem hd_L_adds : ynm yL_adds 5 := by unfold ynm; decide +kernel
theorem hd_L_copies : ynm yL_copies 4 := by unfold ynm; decide +kernel
theorem hd_L_drop : ynm yL_drop 7 := by unfold ynm; decide +kernel
theorem hd_L_drops : ynm yL_drops 3 := by unfold ynm; decide +kernel
theorem hd_L_hasLock : ynm yL_hasLock 3 := by unfold ynm; decide +kernel
theorem hd_L_keyAt : ynm yL_keyAt 4 := by unfold ynm; decide +kernel
theorem hd_L_leans : ynm yL_leans 5 := by unfold ynm; decide +kernel
theorem hd_L_locks : ynm yL_locks 4 := by unfold ynm; decide +kernel
theorem hd_L_mayStretch : ynm yL_mayStretch 7 := by unfold ynm; decide +kernel
theorem hd_L_moves : ynm yL_moves 4 := by unfold ynm; decide +kernel
theorem hd_L_sets : ynm yL_sets 5 := by unfold ynm; decide +kernel
theorem hd_L_sinks : ynm yL_sinks 7 := by unfold ynm; decide +kernel
theorem hd_L_stretches : ynm yL_stretches 5 := by unfold ynm; decide +kernel
def F_L_acts_213 (an : Nat → Int32) (af : Nat → Int32) (av : Nat → Int32) (ae : Nat → Int32) (aw : Nat → Int32) (bd : Nat → Nat → Nat) (sc : Int32) (cn : Nat → Int32) (cf : Nat → Nat → Int32) (sn : Nat → Nat → Int32) (sf : Nat → Nat → Nat → Int32) (v1 : Int32) (v2 : Int32) (v3 : Int32) (v4 : Int32) : Option (Int32 × (Nat → Int32) × (Nat → Int32) × (Nat → Int32) × (Nat → Int32) × (Nat → Int32) × (Nat → Nat → Nat) × Int32 × (Nat → Int32) × (Nat → Nat → Int32) × (Nat → Nat → Int32) × (Nat → Nat → Nat → Int32)) := vgd (ix (v1) 2) <| if (an v1.toNatClampNeg) = 8 then ((F_L_adds bd sc cn cf sn sf v1 v4 v3 6).bind fun o59 => if o59.1 = (-10000002) then (some (1, an, af, av, ae, aw, o59.2.1, o59.2.2.1, o59.2.2.2.1, o59.2.2.2.2.1, o59.2.2.2.2.2.1, o59.2.2.2.2.2.2)) else (some (0, an, af, av, ae, aw, o59.2.1, o59.2.2.1, o59.2.2.2.1, o59.2.2.2.2.1, o59.2.2.2.2.2.1, o59.2.2.2.2.2.2))) else ((F_L_keyAt an af v1 v4).bind fun r7 => if r7 < 0 then (vgd (ix (v1) 2) <| vlet (((8 : Int32) * v1) + (an v1.toNatClampNeg)) fun x11 => vgd (ix (x11) 16) <| vlet (upd af x11.toNatClampNeg v4) fun f13 => vgd (ix (x11) 16) <| vlet (upd av x11.toNatClampNeg v3) fun f15 => vgd (ix (x11) 16) <| vlet (upd ae x11.toNatClampNeg ((100 : Int32) * (v2 - v2 / 6 * 6))) fun f17 => vgd (ix (x11) 16) <| vlet (upd aw x11.toNatClampNeg 0) fun f19 => vgd (ix (v1) 2) <| vgd (ix (v1) 2) <| vlet (upd an v1.toNatClampNeg ((an v1.toNatClampNeg) + 1)) fun f22 => (F_L_adds bd sc cn cf sn sf v1 v4 v3 (v2 - v2 / 6 * 6)).bind fun o31 => vgd (ix (v1) 2) <| (F_L_sinks f22 f13 f15 f17 f19 v1 ((f22 v1.toNatClampNeg) - 1)).bind fun o39 => if o31.1 = o39.1 then (some (1, f22, o39.2.1, o39.2.2.1, o39.2.2.2.1, o39.2.2.2.2, o31.2.1, o31.2.2.1, o31.2.2.2.1, o31.2.2.2.2.1, o31.2.2.2.2.2.1, o31.2.2.2.2.2.2)) else (some (0, f22, o39.2.1, o39.2.2.1, o39.2.2.2.1, o39.2.2.2.2, o31.2.1, o31.2.2.1, o31.2.2.2.1, o31.2.2.2.2.1, o31.2.2.2.2.2.1, o31.2.2.2.2.2.2))) else ((F_L_adds bd sc cn cf sn sf v1 v4 v3 (v2 - v2 / 6 * 6)).bind fun o49 => if o49.1 = (-10000003) then (some (1, an, af, av, ae, aw, o49.2.1, o49.2.2.1, o49.2.2.2.1, o49.2.2.2.2.1, o49.2.2.2.2.2.1, o49.2.2.2.2.2.2)) else (some (0, an, af, av, ae, aw, o49.2.1, o49.2.2.1, o49.2.2.2.1, o49.2.2.2.2.1, o49.2.2.2.2.2.1, o49.2.2.2.2.2.2))))
set_option maxHeartbeats 4000000 in
set_option maxRecDepth 100000 in
theorem w_L_acts_213 {p : Program} {l : Launch} {e : Env} {s : State} {m : MethodId} {args : Array Value} {below : List Frame} {meth : Method} {c : Code} {G : va_G} {g : Nat → ClassId} (X : cx p s m args meth c cL_acts 29 (some .boolean) RL wsL_acts) (K : amb G g s) {A : Nat → Prop} (hA : ∀ q : Nat, s.heap.size ≤ q → A q) (hs : exS A s s.heap) (hnc : ncs s) (hf0 : l.stackTraces = false) (ad : Nat → Nat) (qn qf qv qe qw : Nat) (tl : Int32) (tat : Int32) (tb : Nat → Int32) (tn : Int32) (tf : Nat → Int32) (vv : Nat → Int32) (ov : Nat → Int32) (an : Nat → Int32) (af : Nat → Int32) (av : Nat → Int32) (ae : Nat → Int32) (aw : Nat → Int32) (bd : Nat → Nat → Nat) (sc : Int32) (cn : Nat → Int32) (cf : Nat → Nat → Int32) (sn : Nat → Nat → Int32) (sf : Nat → Nat → Nat → Int32) (v1 : Int32) (v2 : Int32) (v3 : Int32) (v4 : Int32) (res : Int32 × (Nat → Int32) × (Nat → Int32) × (Nat → Int32) × (Nat → Int32) × (Nat → Int32) × (Nat → Nat → Nat) × Int32 × (Nat → Int32) × (Nat → Nat → Int32) × (Nat → Nat → Int32) × (Nat → Nat → Nat → Int32)) (hq : F_L_acts_213 an af av ae aw bd sc cn cf sn sf v1 v2 v3 v4 = some res) : ∀ (H : Heap) (locs : List Loc), va_P G vwCl ((qn, .inl (g 0, 2, .inl an)) :: (qf, .inl (g 0, 16, .inl af)) :: (qv, .inl (g 0, 16, .inl av)) :: (qe, .inl (g 0, 16, .inl ae)) :: (qw, .inl (g 0, 16, .inl aw)) :: (wX g ad bd sc tl tat tb cn cf sn sf tn tf vv ov)) H → va_D A ((qn, .inl (g 0, 2, .inl an)) :: (qf, .inl (g 0, 16, .inl af)) :: (qv, .inl (g 0, 16, .inl av)) :: (qe, .inl (g 0, 16, .inl ae)) :: (qw, .inl (g 0, 16, .inl aw)) :: (wX g ad bd sc tl tat tb cn cf sn sf tn tf vv ov)) → va_S A s.heap H locs → ∀ (ls : Array Slot), lv_has ls 29 [(0, .ref (ad 0)), (1, .ref qn), (2, .ref qf), (3, .ref qv), (4, .ref qe), (5, .ref qw), (7, .int v1), (8, .int v2), (12, .int v3)] → W p l e (rmX 10 183) s m args below meth c H locs 0 0 (lxM G A below (some (.int res.1)) (fun w => w = ((qn, .inl (g 0, 2, .inl res.2.1)) :: (qf, .inl (g 0, 16, .inl res.2.2.1)) :: (qv, .inl (g 0, 16, .inl res.2.2.2.1)) :: (qe, .inl (g 0, 16, .inl res.2.2.2.2.1)) :: (qw, .inl (g 0, 16, .inl res.2.2.2.2.2.1)) :: (wX g ad res.2.2.2.2.2.2.1 res.2.2.2.2.2.2.2.1 tl tat tb res.2.2.2.2.2.2.2.2.1 res.2.2.2.2.2.2.2.2.2.1 res.2.2.2.2.2.2.2.2.2.2.1 res.2.2.2.2.2.2.2.2.2.2.2 tn tf vv ov))) args s) (F0 m 213 ls [.int v4]) := by
  obtain ⟨hx, hb, hml, hr, hown, hts, hk⟩ := id X
  intro H locs hP hD hS ls hl
  unfold F_L_acts_213 at hq
  refine lv_istore (lv' := [(13, .int v4), (0, .ref (ad 0)), (1, .ref qn), (2, .ref qf), (3, .ref qv), (4, .ref qe), (5, .ref qw), (7, .int v1), (8, .int v2), (12, .int v3)]) hx hb dL_acts_213 hl (by decide) rfl (fun ls hl => ?_)
  refine lv_aload_n hx hb dL_acts_215 rfl (lv_at hl 2 rfl) ?_
  refine lv_iload hx hb dL_acts_216 (lv_at hl 7 rfl) ?_
  obtain ⟨hh5, hq⟩ := q_gd hq
  refine va_iald hx hb K.1 hP 0 0 rfl rfl (vp_in_iff.mpr hh5) dL_acts_218 ?_
  refine lv_bipush (v := 8) hx hb dL_acts_219 (by decide) ?_
  refine lv_icmp_ne (tgt := 247) hx hb dL_acts_221 (by decide) (fun c6 => ?_) (fun c6 => ?_)
  · have hq := q_if_f hq c6
    refine lv_aload_n hx hb dL_acts_247 rfl (lv_at hl 2 rfl) ?_
    refine lv_aload_n hx hb dL_acts_248 rfl (lv_at hl 3 rfl) ?_
    refine lv_iload hx hb dL_acts_249 (lv_at hl 7 rfl) ?_
    refine lv_iload hx hb dL_acts_251 (lv_at hl 0 rfl) ?_
    obtain ⟨r7, hh8, hq⟩ := q_bd hq
    refine roS (As := [.ref qn, .ref qf, .int v1, .int v4]) (rest := []) X K (k_L_keyAt l G g qn qf an af v1 v4 _ hh8) hd_L_keyAt gL_acts_L_keyAt (hP.sub [0, 1] rfl) hl.1 dL_acts_253 rfl rfl ⟨Nat.le_of_ble_eq_true rfl, Nat.le_of_ble_eq_true rfl⟩ rfl (Nat.le_of_ble_eq_true rfl) ⟨Nat.le_of_ble_eq_true rfl, Nat.le_of_ble_eq_true rfl⟩ ?_
    refine lv_if_lt (tgt := 285) hx hb dL_acts_256 (by decide) (fun c9 => ?_) (fun c9 => ?_)
    · have hq := q_if_t hq c9
      refine lv_bipush (v := 8) hx hb dL_acts_285 (by decide) ?_
      refine lv_iload hx hb dL_acts_287 (lv_at hl 7 rfl) ?_
      refine lv_imul hx hb dL_acts_289 ?_
      refine lv_aload_n hx hb dL_acts_290 rfl (lv_at hl 2 rfl) ?_
      refine lv_iload hx hb dL_acts_291 (lv_at hl 7 rfl) ?_
      obtain ⟨hh10, hq⟩ := q_gd hq
      refine va_iald hx hb K.1 hP 0 0 rfl rfl (vp_in_iff.mpr hh10) dL_acts_293 ?_
      refine lv_iadd hx hb dL_acts_294 ?_
      refine lv_topi (fun x11 ex11 => ?_)
      have hq := q_let hq ex11
      refine lv_istore (lv' := [(14, .int x11), (13, .int v4), (0, .ref (ad 0)), (1, .ref qn), (2, .ref qf), (3, .ref qv), (4, .ref qe), (5, .ref qw), (7, .int v1), (8, .int v2), (12, .int v3)]) hx hb dL_acts_295 hl (by decide) rfl (fun ls hl => ?_)
      refine lv_aload_n hx hb dL_acts_297 rfl (lv_at hl 4 rfl) ?_
      refine lv_iload hx hb dL_acts_298 (lv_at hl 0 rfl) ?_
      refine lv_iload hx hb dL_acts_300 (lv_at hl 1 rfl) ?_
      obtain ⟨hh12, hq⟩ := q_gd hq
      refine va_iast hx hb K.1 hP hD hS 1 0 rfl rfl (vp_in_iff.mpr hh12) dL_acts_302 (fun H locs hP hD hS => ?_)
      obtain ⟨f13, ef13⟩ : ∃ y, y = upd af x11.toNatClampNeg v4 := ⟨_, rfl⟩
      have hq := q_let hq ef13
      have hP : va_P G vwCl ((qn, .inl (g 0, 2, .inl an)) :: (qf, .inl (g 0, 16, .inl f13)) :: (qv, .inl (g 0, 16, .inl av)) :: (qe, .inl (g 0, 16, .inl ae)) :: (qw, .inl (g 0, 16, .inl aw)) :: (wX g ad bd sc tl tat tb cn cf sn sf tn tf vv ov)) H := by rw [ef13]; exact hP
      have hD : va_D A ((qn, .inl (g 0, 2, .inl an)) :: (qf, .inl (g 0, 16, .inl f13)) :: (qv, .inl (g 0, 16, .inl av)) :: (qe, .inl (g 0, 16, .inl ae)) :: (qw, .inl (g 0, 16, .inl aw)) :: (wX g ad bd sc tl tat tb cn cf sn sf tn tf vv ov)) := by rw [ef13]; exact hD
      refine lv_aload_n hx hb dL_acts_303 rfl (lv_at hl 5 rfl) ?_
      refine lv_iload hx hb dL_acts_304 (lv_at hl 0 rfl) ?_
      refine lv_iload hx hb dL_acts_306 (lv_at hl 10 rfl) ?_
      obtain ⟨hh14, hq⟩ := q_gd hq
      refine va_iast hx hb K.1 hP hD hS 2 0 rfl rfl (vp_in_iff.mpr hh14) dL_acts_308 (fun H locs hP hD hS => ?_)
      obtain ⟨f15, ef15⟩ : ∃ y, y = upd av x11.toNatClampNeg v3 := ⟨_, rfl⟩
      have hq := q_let hq ef15
      have hP : va_P G vwCl ((qn, .inl (g 0, 2, .inl an)) :: (qf, .inl (g 0, 16, .inl f13)) :: (qv, .inl (g 0, 16, .inl f15)) :: (qe, .inl (g 0, 16, .inl ae)) :: (qw, .inl (g 0, 16, .inl aw)) :: (wX g ad bd sc tl tat tb cn cf sn sf tn tf vv ov)) H := by rw [ef15]; exact hP
      have hD : va_D A ((qn, .inl (g 0, 2, .inl an)) :: (qf, .inl (g 0, 16, .inl f13)) :: (qv, .inl (g 0, 16, .inl f15)) :: (qe, .inl (g 0, 16, .inl ae)) :: (qw, .inl (g 0, 16, .inl aw)) :: (wX g ad bd sc tl tat tb cn cf sn sf tn tf vv ov)) := by rw [ef15]; exact hD
      refine lv_aload hx hb dL_acts_309 (lv_at hl 6 rfl) ?_
      refine lv_iload hx hb dL_acts_311 (lv_at hl 0 rfl) ?_
      refine lv_bipush (v := 100) hx hb dL_acts_313 (by decide) ?_
      refine lv_iload hx hb dL_acts_315 (lv_at hl 9 rfl) ?_
      refine lv_bipush (v := 6) hx hb dL_acts_317 (by decide) ?_
      refine lv_irem hx hb dL_acts_319 (by decide) ?_
      refine lv_imul hx hb dL_acts_320 ?_
      obtain ⟨hh16, hq⟩ := q_gd hq
      refine va_iast hx hb K.1 hP hD hS 3 0 rfl rfl (vp_in_iff.mpr hh16) dL_acts_321 (fun H locs hP hD hS => ?_)
      obtain ⟨f17, ef17⟩ : ∃ y, y = upd ae x11.toNatClampNeg ((100 : Int32) * (v2 - v2 / 6 * 6)) := ⟨_, rfl⟩
      have hq := q_let hq ef17
      have hP : va_P G vwCl ((qn, .inl (g 0, 2, .inl an)) :: (qf, .inl (g 0, 16, .inl f13)) :: (qv, .inl (g 0, 16, .inl f15)) :: (qe, .inl (g 0, 16, .inl f17)) :: (qw, .inl (g 0, 16, .inl aw)) :: (wX g ad bd sc tl tat tb cn cf sn sf tn tf vv ov)) H := by rw [ef17]; exact hP
      have hD : va_D A ((qn, .inl (g 0, 2, .inl an)) :: (qf, .inl (g 0, 16, .inl f13)) :: (qv, .inl (g 0, 16, .inl f15)) :: (qe, .inl (g 0, 16, .inl f17)) :: (qw, .inl (g 0, 16, .inl aw)) :: (wX g ad bd sc tl tat tb cn cf sn sf tn tf vv ov)) := by rw [ef17]; exact hD
      refine lv_aload hx hb dL_acts_322 (lv_at hl 7 rfl) ?_
      refine lv_iload hx hb dL_acts_324 (lv_at hl 0 rfl) ?_
      refine lv_iconst (v := 0) hx hb dL_acts_326 (by decide) ?_
      obtain ⟨hh18, hq⟩ := q_gd hq
      refine va_iast hx hb K.1 hP hD hS 4 0 rfl rfl (vp_in_iff.mpr hh18) dL_acts_327 (fun H locs hP hD hS => ?_)
      obtain ⟨f19, ef19⟩ : ∃ y, y = upd aw x11.toNatClampNeg 0 := ⟨_, rfl⟩
      have hq := q_let hq ef19
      have hP : va_P G vwCl ((qn, .inl (g 0, 2, .inl an)) :: (qf, .inl (g 0, 16, .inl f13)) :: (qv, .inl (g 0, 16, .inl f15)) :: (qe, .inl (g 0, 16, .inl f17)) :: (qw, .inl (g 0, 16, .inl f19)) :: (wX g ad bd sc tl tat tb cn cf sn sf tn tf vv ov)) H := by rw [ef19]; exact hP
      have hD : va_D A ((qn, .inl (g 0, 2, .inl an)) :: (qf, .inl (g 0, 16, .inl f13)) :: (qv, .inl (g 0, 16, .inl f15)) :: (qe, .inl (g 0, 16, .inl f17)) :: (qw, .inl (g 0, 16, .inl f19)) :: (wX g ad bd sc tl tat tb cn cf sn sf tn tf vv ov)) := by rw [ef19]; exact hD
      refine lv_aload_n hx hb dL_acts_328 rfl (lv_at hl 3 rfl) ?_
      refine lv_iload hx hb dL_acts_329 (lv_at hl 8 rfl) ?_
      refine lv_dup2_11 hx hb dL_acts_331 rfl rfl ?_
      obtain ⟨hh20, hq⟩ := q_gd hq
      refine va_iald hx hb K.1 hP 0 0 rfl rfl (vp_in_iff.mpr hh20) dL_acts_332 ?_
      refine lv_iconst (v := 1) hx hb dL_acts_333 (by decide) ?_
      refine lv_iadd hx hb dL_acts_334 ?_
      obtain ⟨hh21, hq⟩ := q_gd hq
      refine va_iast hx hb K.1 hP hD hS 0 0 rfl rfl (vp_in_iff.mpr hh21) dL_acts_335 (fun H locs hP hD hS => ?_)
      obtain ⟨f22, ef22⟩ : ∃ y, y = upd an v1.toNatClampNeg ((an v1.toNatClampNeg) + 1) := ⟨_, rfl⟩
      have hq := q_let hq ef22
      have hP : va_P G vwCl ((qn, .inl (g 0, 2, .inl f22)) :: (qf, .inl (g 0, 16, .inl f13)) :: (qv, .inl (g 0, 16, .inl f15)) :: (qe, .inl (g 0, 16, .inl f17)) :: (qw, .inl (g 0, 16, .inl f19)) :: (wX g ad bd sc tl tat tb cn cf sn sf tn tf vv ov)) H := by rw [ef22]; exact hP
      have hD : va_D A ((qn, .inl (g 0, 2, .inl f22)) :: (qf, .inl (g 0, 16, .inl f13)) :: (qv, .inl (g 0, 16, .inl f15)) :: (qe, .inl (g 0, 16, .inl f17)) :: (qw, .inl (g 0, 16, .inl f19)) :: (wX g ad bd sc tl tat tb cn cf sn sf tn tf vv ov)) := by rw [ef22]; exact hD
      refine lv_aload_n hx hb dL_acts_336 rfl (lv_at hl 2 rfl) ?_
      refine lv_iload hx hb dL_acts_337 (lv_at hl 8 rfl) ?_
      refine lv_iload hx hb dL_acts_339 (lv_at hl 1 rfl) ?_
      refine lv_iload hx hb dL_acts_341 (lv_at hl 10 rfl) ?_
      refine lv_iload hx hb dL_acts_343 (lv_at hl 9 rfl) ?_
      refine lv_bipush (v := 6) hx hb dL_acts_345 (by decide) ?_
      refine lv_irem hx hb dL_acts_347 (by decide) ?_
      obtain ⟨⟨r23, y24, y25, y26, y27, y28, y29⟩, hh30, hq⟩ := q_bd hq
      refine lxS (As := [.ref (ad 0), .int v1, .int v4, .int v3, .int (v2 - v2 / 6 * 6)]) (rest := []) (wr := [(qn, .inl (g 0, 2, .inl f22)), (qf, .inl (g 0, 16, .inl f13)), (qv, .inl (g 0, 16, .inl f15)), (qe, .inl (g 0, 16, .inl f17)), (qw, .inl (g 0, 16, .inl f19))]) X K hs hnc (k_L_adds l hf0 G g ad bd sc tl tat tb cn cf sn sf tn tf vv ov v1 v4 v3 (v2 - v2 / 6 * 6) _ hh30) hd_L_adds gL_acts_L_adds hP hD hS hA hl.1 dL_acts_348 rfl rfl ⟨Nat.le_of_ble_eq_true rfl, Nat.le_of_ble_eq_true rfl⟩ rfl (Nat.le_of_ble_eq_true rfl) ⟨Nat.le_of_ble_eq_true rfl, Nat.le_of_ble_eq_true rfl⟩ (fun w1 H locs hp hP hD hS => ?_)
      have hp : w1 = (wX g ad y24 y25 tl tat tb y26 y27 y28 y29 tn tf vv ov) := hp
      subst hp
      have hP : va_P G vwCl ((qn, .inl (g 0, 2, .inl f22)) :: (qf, .inl (g 0, 16, .inl f13)) :: (qv, .inl (g 0, 16, .inl f15)) :: (qe, .inl (g 0, 16, .inl f17)) :: (qw, .inl (g 0, 16, .inl f19)) :: (wX g ad y24 y25 tl tat tb y26 y27 y28 y29 tn tf vv ov)) H := hP
      have hD : va_D A ((qn, .inl (g 0, 2, .inl f22)) :: (qf, .inl (g 0, 16, .inl f13)) :: (qv, .inl (g 0, 16, .inl f15)) :: (qe, .inl (g 0, 16, .inl f17)) :: (qw, .inl (g 0, 16, .inl f19)) :: (wX g ad y24 y25 tl tat tb y26 y27 y28 y29 tn tf vv ov)) := hD
      refine lv_aload_n hx hb dL_acts_351 rfl (lv_at hl 3 rfl) ?_
      refine lv_aload_n hx hb dL_acts_352 rfl (lv_at hl 4 rfl) ?_
      refine lv_aload_n hx hb dL_acts_353 rfl (lv_at hl 5 rfl) ?_
      refine lv_aload hx hb dL_acts_354 (lv_at hl 6 rfl) ?_
      refine lv_aload hx hb dL_acts_356 (lv_at hl 7 rfl) ?_
      refine lv_iload hx hb dL_acts_358 (lv_at hl 8 rfl) ?_
      refine lv_aload_n hx hb dL_acts_360 rfl (lv_at hl 3 rfl) ?_
      refine lv_iload hx hb dL_acts_361 (lv_at hl 8 rfl) ?_
      obtain ⟨hh32, hq⟩ := q_gd hq
      refine va_iald hx hb K.1 hP 0 0 rfl rfl (vp_in_iff.mpr hh32) dL_acts_363 ?_
      refine lv_iconst (v := 1) hx hb dL_acts_364 (by decide) ?_
      refine lv_isub hx hb dL_acts_365 ?_
      obtain ⟨⟨r33, y34, y35, y36, y37⟩, hh38, hq⟩ := q_bd hq
      refine rwSf (As := [.ref qn, .ref qf, .ref qv, .ref qe, .ref qw, .int v1, .int ((f22 v1.toNatClampNeg) - 1)]) (rest := [.int r23]) X K (k_L_sinks l G g qn qf qv qe qw f22 f13 f15 f17 f19 v1 ((f22 v1.toNatClampNeg) - 1) _ hh38) hd_L_sinks gL_acts_L_sinks hP hD hS hA foc5 hl.1 dL_acts_366 rfl rfl ⟨Nat.le_of_ble_eq_true rfl, Nat.le_of_ble_eq_true rfl⟩ rfl (Nat.le_of_ble_eq_true rfl) ⟨Nat.le_of_ble_eq_true rfl, Nat.le_of_ble_eq_true rfl⟩ (fun H locs hP hD hS => ?_)
      have hP : va_P G vwCl ((qn, .inl (g 0, 2, .inl f22)) :: (qf, .inl (g 0, 16, .inl y34)) :: (qv, .inl (g 0, 16, .inl y35)) :: (qe, .inl (g 0, 16, .inl y36)) :: (qw, .inl (g 0, 16, .inl y37)) :: (wX g ad y24 y25 tl tat tb y26 y27 y28 y29 tn tf vv ov)) H := hP
      have hD : va_D A ((qn, .inl (g 0, 2, .inl f22)) :: (qf, .inl (g 0, 16, .inl y34)) :: (qv, .inl (g 0, 16, .inl y35)) :: (qe, .inl (g 0, 16, .inl y36)) :: (qw, .inl (g 0, 16, .inl y37)) :: (wX g ad y24 y25 tl tat tb y26 y27 y28 y29 tn tf vv ov)) := hD
      refine lv_icmp_ne (tgt := 376) hx hb dL_acts_369 (by decide) (fun c40 => ?_) (fun c40 => ?_)
      · have hq := q_if_f hq c40
        refine lv_iconst (v := 0) hx hb dL_acts_376 (by decide) ?_
        obtain rfl := q_rt hq
        exact lx_zret hx hb hr nz_0 hk rfl hP hD hS dL_acts_377
      · have hq := q_if_t hq c40
        refine lv_iconst (v := 1) hx hb dL_acts_372 (by decide) ?_
        refine lv_goto (tgt := 377) hx hb dL_acts_373 (by decide) ?_
        obtain rfl := q_rt hq
        exact lx_zret hx hb hr nz_1 hk rfl hP hD hS dL_acts_377
    · have hq := q_if_f hq c9
      refine lv_aload_n hx hb dL_acts_259 rfl (lv_at hl 1 rfl) ?_
      refine lv_iload hx hb dL_acts_260 (lv_at hl 7 rfl) ?_
      refine lv_iload hx hb dL_acts_262 (lv_at hl 0 rfl) ?_
      refine lv_iload hx hb dL_acts_264 (lv_at hl 9 rfl) ?_
      refine lv_iload hx hb dL_acts_266 (lv_at hl 8 rfl) ?_
      refine lv_bipush (v := 6) hx hb dL_acts_268 (by decide) ?_
      refine lv_irem hx hb dL_acts_270 (by decide) ?_
      obtain ⟨⟨r41, y42, y43, y44, y45, y46, y47⟩, hh48, hq⟩ := q_bd hq
      refine lxS (As := [.ref (ad 0), .int v1, .int v4, .int v3, .int (v2 - v2 / 6 * 6)]) (rest := []) (wr := [(qn, .inl (g 0, 2, .inl an)), (qf, .inl (g 0, 16, .inl af)), (qv, .inl (g 0, 16, .inl av)), (qe, .inl (g 0, 16, .inl ae)), (qw, .inl (g 0, 16, .inl aw))]) X K hs hnc (k_L_adds l hf0 G g ad bd sc tl tat tb cn cf sn sf tn tf vv ov v1 v4 v3 (v2 - v2 / 6 * 6) _ hh48) hd_L_adds gL_acts_L_adds hP hD hS hA hl.1 dL_acts_271 rfl rfl ⟨Nat.le_of_ble_eq_true rfl, Nat.le_of_ble_eq_true rfl⟩ rfl (Nat.le_of_ble_eq_true rfl) ⟨Nat.le_of_ble_eq_true rfl, Nat.le_of_ble_eq_true rfl⟩ (fun w1 H locs hp hP hD hS => ?_)
      have hp : w1 = (wX g ad y42 y43 tl tat tb y44 y45 y46 y47 tn tf vv ov) := hp
      subst hp
      have hP : va_P G vwCl ((qn, .inl (g 0, 2, .inl an)) :: (qf, .inl (g 0, 16, .inl af)) :: (qv, .inl (g 0, 16, .inl av)) :: (qe, .inl (g 0, 16, .inl ae)) :: (qw, .inl (g 0, 16, .inl aw)) :: (wX g ad y42 y43 tl tat tb y44 y45 y46 y47 tn tf vv ov)) H := hP
      have hD : va_D A ((qn, .inl (g 0, 2, .inl an)) :: (qf, .inl (g 0, 16, .inl af)) :: (qv, .inl (g 0, 16, .inl av)) :: (qe, .inl (g 0, 16, .inl ae)) :: (qw, .inl (g 0, 16, .inl aw)) :: (wX g ad y42 y43 tl tat tb y44 y45 y46 y47 tn tf vv ov)) := hD
      refine lv_ldc (v := (-10000003)) hx hb hown (hts _ (List.mem_of_getElem? (i := 3) rfl)) dL_acts_274 ?_
      refine lv_icmp_ne (tgt := 283) hx hb dL_acts_276 (by decide) (fun c50 => ?_) (fun c50 => ?_)
      · have hq := q_if_f hq c50
        refine lv_iconst (v := 0) hx hb dL_acts_283 (by decide) ?_
        obtain rfl := q_rt hq
        exact lx_zret hx hb hr nz_0 hk rfl hP hD hS dL_acts_284
      · have hq := q_if_t hq c50
        refine lv_iconst (v := 1) hx hb dL_acts_279 (by decide) ?_
        refine lv_goto (tgt := 284) hx hb dL_acts_280 (by decide) ?_
        obtain rfl := q_rt hq
        exact lx_zret hx hb hr nz_1 hk rfl hP hD hS dL_acts_284
  · have hq := q_if_t hq c6
    refine lv_aload_n hx hb dL_acts_224 rfl (lv_at hl 1 rfl) ?_
    refine lv_iload hx hb dL_acts_225 (lv_at hl 7 rfl) ?_
    refine lv_iload hx hb dL_acts_227 (lv_at hl 0 rfl) ?_
    refine lv_iload hx hb dL_acts_229 (lv_at hl 9 rfl) ?_
    refine lv_bipush (v := 6) hx hb dL_acts_231 (by decide) ?_
    obtain ⟨⟨r51, y52, y53, y54, y55, y56, y57⟩, hh58, hq⟩ := q_bd hq
    refine lxS (As := [.ref (ad 0), .int v1, .int v4, .int v3, .int 6]) (rest := []) (wr := [(qn, .inl (g 0, 2, .inl an)), (qf, .inl (g 0, 16, .inl af)), (qv, .inl (g 0, 16, .inl av)), (qe, .inl (g 0, 16, .inl ae)), (qw, .inl (g 0, 16, .inl aw))]) X K hs hnc (k_L_adds l hf0 G g ad bd sc tl tat tb cn cf sn sf tn tf vv ov v1 v4 v3 6 _ hh58) hd_L_adds gL_acts_L_adds hP hD hS hA hl.1 dL_acts_233 rfl rfl ⟨Nat.le_of_ble_eq_true rfl, Nat.le_of_ble_eq_true rfl⟩ rfl (Nat.le_of_ble_eq_true rfl) ⟨Nat.le_of_ble_eq_true rfl, Nat.le_of_ble_eq_true rfl⟩ (fun w1 H locs hp hP hD hS => ?_)
    have hp : w1 = (wX g ad y52 y53 tl tat tb y54 y55 y56 y57 tn tf vv ov) := hp
    subst hp
    have hP : va_P G vwCl ((qn, .inl (g 0, 2, .inl an)) :: (qf, .inl (g 0, 16, .inl af)) :: (qv, .inl (g 0, 16, .inl av)) :: (qe, .inl (g 0, 16, .inl ae)) :: (qw, .inl (g 0, 16, .inl aw)) :: (wX g ad y52 y53 tl tat tb y54 y55 y56 y57 tn tf vv ov)) H := hP
    have hD : va_D A ((qn, .inl (g 0, 2, .inl an)) :: (qf, .inl (g 0, 16, .inl af)) :: (qv, .inl (g 0, 16, .inl av)) :: (qe, .inl (g 0, 16, .inl ae)) :: (qw, .inl (g 0, 16, .inl aw)) :: (wX g ad y52 y53 tl tat tb y54 y55 y56 y57 tn tf vv ov)) := hD
    refine lv_ldc (v := (-10000002)) hx hb hown (hts _ (List.mem_of_getElem? (i := 2) rfl)) dL_acts_236 ?_
    refine lv_icmp_ne (tgt := 245) hx hb dL_acts_238 (by decide) (fun c60 => ?_) (fun c60 => ?_)
    · have hq := q_if_f hq c60
      refine lv_iconst (v := 0) hx hb dL_acts_245 (by decide) ?_
      obtain rfl := q_rt hq
      exact lx_zret hx hb hr nz_0 hk rfl hP hD hS dL_acts_246
    · have hq := q_if_t hq c60
      refine lv_iconst (v := 1) hx hb dL_acts_241 (by decide) ?_
      refine lv_goto (tgt := 246) hx hb dL_acts_242 (by decide) ?_
      obtain rfl := q_rt hq
      exact lx_zret hx hb hr nz_1 hk rfl hP hD hS dL_acts_246
def F_L_acts_188 (an : Nat → Int32) (af : Nat → Int32) (av : Nat → Int32) (ae : Nat → Int32) (aw : Nat → Int32) (bd : Nat → Nat → Nat) (sc : Int32) (cn : Nat → Int32) (cf : Nat → Nat → Int32) (sn : Nat → Nat → Int32) (sf : Nat → Nat → Nat → Int32) (v1 : Int32) (v2 : Int32) (v3 : Int32) : Option (Int32 × (Nat → Int32) × (Nat → Int32) × (Nat → Int32) × (Nat → Int32) × (Nat → Int32) × (Nat → Nat → Nat) × Int32 × (Nat → Int32) × (Nat → Nat → Int32) × (Nat → Nat → Int32) × (Nat → Nat → Nat → Int32)) := if (v2 - v2 / 2 * 2) = 0 then (F_L_acts_213 an af av ae aw bd sc cn cf sn sf v1 v2 v3 ((v2 / 2) - (v2 / 2) / 1000 * 1000)) else (F_L_acts_213 an af av ae aw bd sc cn cf sn sf v1 v2 v3 ((v2 / 2) - (v2 / 2) / 60 * 60))
set_option maxHeartbeats 4000000 in
set_option maxRecDepth 100000 in
theorem w_L_acts_188 {p : Program} {l : Launch} {e : Env} {s : State} {m : MethodId} {args : Array Value} {below : List Frame} {meth : Method} {c : Code} {G : va_G} {g : Nat → ClassId} (X : cx p s m args meth c cL_acts 29 (some .boolean) RL wsL_acts) (K : amb G g s) {A : Nat → Prop} (hA : ∀ q : Nat, s.heap.size ≤ q → A q) (hs : exS A s s.heap) (hnc : ncs s) (hf0 : l.stackTraces = false) (ad : Nat → Nat) (qn qf qv qe qw : Nat) (tl : Int32) (tat : Int32) (tb : Nat → Int32) (tn : Int32) (tf : Nat → Int32) (vv : Nat → Int32) (ov : Nat → Int32) (an : Nat → Int32) (af : Nat → Int32) (av : Nat → Int32) (ae : Nat → Int32) (aw : Nat → Int32) (bd : Nat → Nat → Nat) (sc : Int32) (cn : Nat → Int32) (cf : Nat → Nat → Int32) (sn : Nat → Nat → Int32) (sf : Nat → Nat → Nat → Int32) (v1 : Int32) (v2 : Int32) (v3 : Int32) (res : Int32 × (Nat → Int32) × (Nat → Int32) × (Nat → Int32) × (Nat → Int32) × (Nat → Int32) × (Nat → Nat → Nat) × Int32 × (Nat → Int32) × (Nat → Nat → Int32) × (Nat → Nat → Int32) × (Nat → Nat → Nat → Int32)) (hq : F_L_acts_188 an af av ae aw bd sc cn cf sn sf v1 v2 v3 = some res) : ∀ (H : Heap) (locs : List Loc), va_P G vwCl ((qn, .inl (g 0, 2, .inl an)) :: (qf, .inl (g 0, 16, .inl af)) :: (qv, .inl (g 0, 16, .inl av)) :: (qe, .inl (g 0, 16, .inl ae)) :: (qw, .inl (g 0, 16, .inl aw)) :: (wX g ad bd sc tl tat tb cn cf sn sf tn tf vv ov)) H → va_D A ((qn, .inl (g 0, 2, .inl an)) :: (qf, .inl (g 0, 16, .inl af)) :: (qv, .inl (g 0, 16, .inl av)) :: (qe, .inl (g 0, 16, .inl ae)) :: (qw, .inl (g 0, 16, .inl aw)) :: (wX g ad bd sc tl tat tb cn cf sn sf tn tf vv ov)) → va_S A s.heap H locs → ∀ (ls : Array Slot), lv_has ls 29 [(0, .ref (ad 0)), (1, .ref qn), (2, .ref qf), (3, .ref qv), (4, .ref qe), (5, .ref qw), (7, .int v1), (8, .int v2), (12, .int v3)] → W p l e (rmX 10 183) s m args below meth c H locs 0 0 (lxM G A below (some (.int res.1)) (fun w => w = ((qn, .inl (g 0, 2, .inl res.2.1)) :: (qf, .inl (g 0, 16, .inl res.2.2.1)) :: (qv, .inl (g 0, 16, .inl res.2.2.2.1)) :: (qe, .inl (g 0, 16, .inl res.2.2.2.2.1)) :: (qw, .inl (g 0, 16, .inl res.2.2.2.2.2.1)) :: (wX g ad res.2.2.2.2.2.2.1 res.2.2.2.2.2.2.2.1 tl tat tb res.2.2.2.2.2.2.2.2.1 res.2.2.2.2.2.2.2.2.2.1 res.2.2.2.2.2.2.2.2.2.2.1 res.2.2.2.2.2.2.2.2.2.2.2 tn tf vv ov))) args s) (F0 m 188 ls []) := by
  obtain ⟨hx, hb, hml, hr, hown, hts, hk⟩ := id X
  intro H locs hP hD hS ls hl
  unfold F_L_acts_188 at hq
  refine lv_iload hx hb dL_acts_188 (lv_at hl 7 rfl) ?_
  refine lv_iconst (v := 2) hx hb dL_acts_190 (by decide) ?_
  refine lv_irem hx hb dL_acts_191 (by decide) ?_
  refine lv_if_ne (tgt := 206) hx hb dL_acts_192 (by decide) (fun c4 => ?_) (fun c4 => ?_)
  · have hq := q_if_f hq c4
    refine lv_iload hx hb dL_acts_206 (lv_at hl 7 rfl) ?_
    refine lv_iconst (v := 2) hx hb dL_acts_208 (by decide) ?_
    refine lv_idiv hx hb dL_acts_209 (by decide) ?_
    refine lv_bipush (v := 60) hx hb dL_acts_210 (by decide) ?_
    refine lv_irem hx hb dL_acts_212 (by decide) ?_
    exact w_L_acts_213 X K hA hs hnc hf0 ad qn qf qv qe qw tl tat tb tn tf vv ov an af av ae aw bd sc cn cf sn sf v1 v2 v3 ((v2 / 2) - (v2 / 2) / 60 * 60) _ hq _ _ hP hD hS ls (lv_sub hl [0, 1, 2, 3, 4, 5, 6, 7, 8] rfl)
  · have hq := q_if_t hq c4
    refine lv_iload hx hb dL_acts_195 (lv_at hl 7 rfl) ?_
    refine lv_iconst (v := 2) hx hb dL_acts_197 (by decide) ?_
    refine lv_idiv hx hb dL_acts_198 (by decide) ?_
    refine lv_sipush (v := 1000) hx hb dL_acts_199 (by decide) ?_
    refine lv_irem hx hb dL_acts_202 (by decide) ?_
    refine lv_goto (tgt := 213) hx hb dL_acts_203 (by decide) ?_
    exact w_L_acts_213 X K hA hs hnc hf0 ad qn qf qv qe qw tl tat tb tn tf vv ov an af av ae aw bd sc cn cf sn sf v1 v2 v3 ((v2 / 2) - (v2 / 2) / 1000 * 1000) _ hq _ _ hP hD hS ls (lv_sub hl [0, 1, 2, 3, 4, 5, 6, 7, 8] rfl)
def F_L_acts_390 (an : Nat → Int32) (af : Nat → Int32) (av : Nat → Int32) (ae : Nat → Int32) (aw : Nat → Int32) (bd : Nat → Nat → Nat) (sc : Int32) (cn : Nat → Int32) (cf : Nat → Nat → Int32) (sn : Nat → Nat → Int32) (sf : Nat → Nat → Nat → Int32) (v1 : Int32) (v2 : Int32) : Option (Int32 × (Nat → Int32) × (Nat → Int32) × (Nat → Int32) × (Nat → Int32) × (Nat → Int32) × (Nat → Nat → Nat) × Int32 × (Nat → Int32) × (Nat → Nat → Int32) × (Nat → Nat → Int32) × (Nat → Nat → Nat → Int32)) := (F_L_drops bd sc cn cf sn sf v1 v2).bind fun o11 => vgd (ix (v1) 2) <| if (an v1.toNatClampNeg) = 0 then (if o11.1 = (-10000001) then (some (1, an, af, av, ae, aw, o11.2.1, o11.2.2.1, o11.2.2.2.1, o11.2.2.2.2.1, o11.2.2.2.2.2.1, o11.2.2.2.2.2.2)) else (some (0, an, af, av, ae, aw, o11.2.1, o11.2.2.1, o11.2.2.2.1, o11.2.2.2.2.1, o11.2.2.2.2.2.1, o11.2.2.2.2.2.2))) else (if o11.1 = (-10000003) then (some (1, an, af, av, ae, aw, o11.2.1, o11.2.2.1, o11.2.2.2.1, o11.2.2.2.2.1, o11.2.2.2.2.2.1, o11.2.2.2.2.2.2)) else (some (0, an, af, av, ae, aw, o11.2.1, o11.2.2.1, o11.2.2.2.1, o11.2.2.2.2.1, o11.2.2.2.2.2.1, o11.2.2.2.2.2.2)))
set_option maxHeartbeats 4000000 in
set_option maxRecDepth 100000 in
theorem w_L_acts_390 {p : Program} {l : Launch} {e : Env} {s : State} {m : MethodId} {args : Array Value} {below : List Frame} {meth : Method} {c : Code} {G : va_G} {g : Nat → ClassId} (X : cx p s m args meth c cL_acts 29 (some .boolean) RL wsL_acts) (K : amb G g s) {A : Nat → Prop} (hA : ∀ q : Nat, s.heap.size ≤ q → A q) (hs : exS A s s.heap) (hnc : ncs s) (hf0 : l.stackTraces = false) (ad : Nat → Nat) (qn qf qv qe qw : Nat) (tl : Int32) (tat : Int32) (tb : Nat → Int32) (tn : Int32) (tf : Nat → Int32) (vv : Nat → Int32) (ov : Nat → Int32) (an : Nat → Int32) (af : Nat → Int32) (av : Nat → Int32) (ae : Nat → Int32) (aw : Nat → Int32) (bd : Nat → Nat → Nat) (sc : Int32) (cn : Nat → Int32) (cf : Nat → Nat → Int32) (sn : Nat → Nat → Int32) (sf : Nat → Nat → Nat → Int32) (v1 : Int32) (v2 : Int32) (res : Int32 × (Nat → Int32) × (Nat → Int32) × (Nat → Int32) × (Nat → Int32) × (Nat → Int32) × (Nat → Nat → Nat) × Int32 × (Nat → Int32) × (Nat → Nat → Int32) × (Nat → Nat → Int32) × (Nat → Nat → Nat → Int32)) (hq : F_L_acts_390 an af av ae aw bd sc cn cf sn sf v1 v2 = some res) : ∀ (H : Heap) (locs : List Loc), va_P G vwCl ((qn, .inl (g 0, 2, .inl an)) :: (qf, .inl (g 0, 16, .inl af)) :: (qv, .inl (g 0, 16, .inl av)) :: (qe, .inl (g 0, 16, .inl ae)) :: (qw, .inl (g 0, 16, .inl aw)) :: (wX g ad bd sc tl tat tb cn cf sn sf tn tf vv ov)) H → va_D A ((qn, .inl (g 0, 2, .inl an)) :: (qf, .inl (g 0, 16, .inl af)) :: (qv, .inl (g 0, 16, .inl av)) :: (qe, .inl (g 0, 16, .inl ae)) :: (qw, .inl (g 0, 16, .inl aw)) :: (wX g ad bd sc tl tat tb cn cf sn sf tn tf vv ov)) → va_S A s.heap H locs → ∀ (ls : Array Slot), lv_has ls 29 [(0, .ref (ad 0)), (1, .ref qn), (7, .int v1), (9, .int v2)] → W p l e (rmX 10 183) s m args below meth c H locs 0 0 (lxM G A below (some (.int res.1)) (fun w => w = ((qn, .inl (g 0, 2, .inl res.2.1)) :: (qf, .inl (g 0, 16, .inl res.2.2.1)) :: (qv, .inl (g 0, 16, .inl res.2.2.2.1)) :: (qe, .inl (g 0, 16, .inl res.2.2.2.2.1)) :: (qw, .inl (g 0, 16, .inl res.2.2.2.2.2.1)) :: (wX g ad res.2.2.2.2.2.2.1 res.2.2.2.2.2.2.2.1 tl tat tb res.2.2.2.2.2.2.2.2.1 res.2.2.2.2.2.2.2.2.2.1 res.2.2.2.2.2.2.2.2.2.2.1 res.2.2.2.2.2.2.2.2.2.2.2 tn tf vv ov))) args s) (F0 m 390 ls []) := by
  obtain ⟨hx, hb, hml, hr, hown, hts, hk⟩ := id X
  intro H locs hP hD hS ls hl
  unfold F_L_acts_390 at hq
  refine lv_aload_n hx hb dL_acts_390 rfl (lv_at hl 0 rfl) ?_
  refine lv_iload hx hb dL_acts_391 (lv_at hl 2 rfl) ?_
  refine lv_iload hx hb dL_acts_393 (lv_at hl 3 rfl) ?_
  obtain ⟨⟨r3, y4, y5, y6, y7, y8, y9⟩, hh10, hq⟩ := q_bd hq
  refine lxS (As := [.ref (ad 0), .int v1, .int v2]) (rest := []) (wr := [(qn, .inl (g 0, 2, .inl an)), (qf, .inl (g 0, 16, .inl af)), (qv, .inl (g 0, 16, .inl av)), (qe, .inl (g 0, 16, .inl ae)), (qw, .inl (g 0, 16, .inl aw))]) X K hs hnc (k_L_drops l hf0 G g ad bd sc tl tat tb cn cf sn sf tn tf vv ov v1 v2 _ hh10) hd_L_drops gL_acts_L_drops hP hD hS hA hl.1 dL_acts_395 rfl rfl ⟨Nat.le_of_ble_eq_true rfl, Nat.le_of_ble_eq_true rfl⟩ rfl (Nat.le_of_ble_eq_true rfl) ⟨Nat.le_of_ble_eq_true rfl, Nat.le_of_ble_eq_true rfl⟩ (fun w1 H locs hp hP hD hS => ?_)
  have hp : w1 = (wX g ad y4 y5 tl tat tb y6 y7 y8 y9 tn tf vv ov) := hp
  subst hp
  have hP : va_P G vwCl ((qn, .inl (g 0, 2, .inl an)) :: (qf, .inl (g 0, 16, .inl af)) :: (qv, .inl (g 0, 16, .inl av)) :: (qe, .inl (g 0, 16, .inl ae)) :: (qw, .inl (g 0, 16, .inl aw)) :: (wX g ad y4 y5 tl tat tb y6 y7 y8 y9 tn tf vv ov)) H := hP
  have hD : va_D A ((qn, .inl (g 0, 2, .inl an)) :: (qf, .inl (g 0, 16, .inl af)) :: (qv, .inl (g 0, 16, .inl av)) :: (qe, .inl (g 0, 16, .inl ae)) :: (qw, .inl (g 0, 16, .inl aw)) :: (wX g ad y4 y5 tl tat tb y6 y7 y8 y9 tn tf vv ov)) := hD
  refine lv_aload_n hx hb dL_acts_398 rfl (lv_at hl 1 rfl) ?_
  refine lv_iload hx hb dL_acts_399 (lv_at hl 2 rfl) ?_
  obtain ⟨hh12, hq⟩ := q_gd hq
  refine va_iald hx hb K.1 hP 0 0 rfl rfl (vp_in_iff.mpr hh12) dL_acts_401 ?_
  refine lv_if_ne (tgt := 410) hx hb dL_acts_402 (by decide) (fun c13 => ?_) (fun c13 => ?_)
  · have hq := q_if_f hq c13
    refine lv_ldc (v := (-10000003)) hx hb hown (hts _ (List.mem_of_getElem? (i := 3) rfl)) dL_acts_410 ?_
    refine lv_icmp_ne (tgt := 419) hx hb dL_acts_412 (by decide) (fun c14 => ?_) (fun c14 => ?_)
    · have hq := q_if_f hq c14
      refine lv_iconst (v := 0) hx hb dL_acts_419 (by decide) ?_
      obtain rfl := q_rt hq
      exact lx_zret hx hb hr nz_0 hk rfl hP hD hS dL_acts_420
    · have hq := q_if_t hq c14
      refine lv_iconst (v := 1) hx hb dL_acts_415 (by decide) ?_
      refine lv_goto (tgt := 420) hx hb dL_acts_416 (by decide) ?_
      obtain rfl := q_rt hq
      exact lx_zret hx hb hr nz_1 hk rfl hP hD hS dL_acts_420
  · have hq := q_if_t hq c13
    refine lv_ldc (v := (-10000001)) hx hb hown (hts _ (List.mem_of_getElem? (i := 4) rfl)) dL_acts_405 ?_
    refine lv_goto (tgt := 412) hx hb dL_acts_407 (by decide) ?_
    refine lv_icmp_ne (tgt := 419) hx hb dL_acts_412 (by decide) (fun c15 => ?_) (fun c15 => ?_)
    · have hq := q_if_f hq c15
      refine lv_iconst (v := 0) hx hb dL_acts_419 (by decide) ?_
      obtain rfl := q_rt hq
      exact lx_zret hx hb hr nz_0 hk rfl hP hD hS dL_acts_420
    · have hq := q_if_t hq c15
      refine lv_iconst (v := 1) hx hb dL_acts_415 (by decide) ?_
      refine lv_goto (tgt := 420) hx hb dL_acts_416 (by decide) ?_
      obtain rfl := q_rt hq
      exact lx_zret hx hb hr nz_1 hk rfl hP hD hS dL_acts_420
def F_L_acts_378 (an : Nat → Int32) (af : Nat → Int32) (av : Nat → Int32) (ae : Nat → Int32) (aw : Nat → Int32) (bd : Nat → Nat → Nat) (sc : Int32) (cn : Nat → Int32) (cf : Nat → Nat → Int32) (sn : Nat → Nat → Int32) (sf : Nat → Nat → Nat → Int32) (v1 : Int32) (v2 : Int32) (v3 : Int32) : Option (Int32 × (Nat → Int32) × (Nat → Int32) × (Nat → Int32) × (Nat → Int32) × (Nat → Int32) × (Nat → Nat → Nat) × Int32 × (Nat → Int32) × (Nat → Nat → Int32) × (Nat → Nat → Int32) × (Nat → Nat → Nat → Int32)) := vgd (ix (v1) 2) <| if (an v1.toNatClampNeg) = 0 then (F_L_acts_390 an af av ae aw bd sc cn cf sn sf v1 v2) else (if v3 = 0 then ((F_L_drop an af av ae aw v1 v2).bind fun o13 => (F_L_drops bd sc cn cf sn sf v1 v2).bind fun o22 => vgd (ix (v1) 2) <| if o22.1 = (o13.1 v1.toNatClampNeg) then (some (1, o13.1, o13.2.1, o13.2.2.1, o13.2.2.2.1, o13.2.2.2.2, o22.2.1, o22.2.2.1, o22.2.2.2.1, o22.2.2.2.2.1, o22.2.2.2.2.2.1, o22.2.2.2.2.2.2)) else (some (0, o13.1, o13.2.1, o13.2.2.1, o13.2.2.2.1, o13.2.2.2.2, o22.2.1, o22.2.2.1, o22.2.2.2.1, o22.2.2.2.2.1, o22.2.2.2.2.2.1, o22.2.2.2.2.2.2))) else (F_L_acts_390 an af av ae aw bd sc cn cf sn sf v1 v2))
set_option maxHeartbeats 4000000 in
set_option maxRecDepth 100000 in
theorem w_L_acts_378 {p : Program} {l : Launch} {e : Env} {s : State} {m : MethodId} {args : Array Value} {below : List Frame} {meth : Method} {c : Code} {G : va_G} {g : Nat → ClassId} (X : cx p s m args meth c cL_acts 29 (some .boolean) RL wsL_acts) (K : amb G g s) {A : Nat → Prop} (hA : ∀ q : Nat, s.heap.size ≤ q → A q) (hs : exS A s s.heap) (hnc : ncs s) (hf0 : l.stackTraces = false) (ad : Nat → Nat) (qn qf qv qe qw : Nat) (tl : Int32) (tat : Int32) (tb : Nat → Int32) (tn : Int32) (tf : Nat → Int32) (vv : Nat → Int32) (ov : Nat → Int32) (an : Nat → Int32) (af : Nat → Int32) (av : Nat → Int32) (ae : Nat → Int32) (aw : Nat → Int32) (bd : Nat → Nat → Nat) (sc : Int32) (cn : Nat → Int32) (cf : Nat → Nat → Int32) (sn : Nat → Nat → Int32) (sf : Nat → Nat → Nat → Int32) (v1 : Int32) (v2 : Int32) (v3 : Int32) (res : Int32 × (Nat → Int32) × (Nat → Int32) × (Nat → Int32) × (Nat → Int32) × (Nat → Int32) × (Nat → Nat → Nat) × Int32 × (Nat → Int32) × (Nat → Nat → Int32) × (Nat → Nat → Int32) × (Nat → Nat → Nat → Int32)) (hq : F_L_acts_378 an af av ae aw bd sc cn cf sn sf v1 v2 v3 = some res) : ∀ (H : Heap) (locs : List Loc), va_P G vwCl ((qn, .inl (g 0, 2, .inl an)) :: (qf, .inl (g 0, 16, .inl af)) :: (qv, .inl (g 0, 16, .inl av)) :: (qe, .inl (g 0, 16, .inl ae)) :: (qw, .inl (g 0, 16, .inl aw)) :: (wX g ad bd sc tl tat tb cn cf sn sf tn tf vv ov)) H → va_D A ((qn, .inl (g 0, 2, .inl an)) :: (qf, .inl (g 0, 16, .inl af)) :: (qv, .inl (g 0, 16, .inl av)) :: (qe, .inl (g 0, 16, .inl ae)) :: (qw, .inl (g 0, 16, .inl aw)) :: (wX g ad bd sc tl tat tb cn cf sn sf tn tf vv ov)) → va_S A s.heap H locs → ∀ (ls : Array Slot), lv_has ls 29 [(0, .ref (ad 0)), (1, .ref qn), (2, .ref qf), (3, .ref qv), (4, .ref qe), (5, .ref qw), (7, .int v1), (9, .int v2), (11, .int v3)] → W p l e (rmX 10 183) s m args below meth c H locs 0 0 (lxM G A below (some (.int res.1)) (fun w => w = ((qn, .inl (g 0, 2, .inl res.2.1)) :: (qf, .inl (g 0, 16, .inl res.2.2.1)) :: (qv, .inl (g 0, 16, .inl res.2.2.2.1)) :: (qe, .inl (g 0, 16, .inl res.2.2.2.2.1)) :: (qw, .inl (g 0, 16, .inl res.2.2.2.2.2.1)) :: (wX g ad res.2.2.2.2.2.2.1 res.2.2.2.2.2.2.2.1 tl tat tb res.2.2.2.2.2.2.2.2.1 res.2.2.2.2.2.2.2.2.2.1 res.2.2.2.2.2.2.2.2.2.2.1 res.2.2.2.2.2.2.2.2.2.2.2 tn tf vv ov))) args s) (F0 m 378 ls []) := by
  obtain ⟨hx, hb, hml, hr, hown, hts, hk⟩ := id X
  intro H locs hP hD hS ls hl
  unfold F_L_acts_378 at hq
  refine lv_aload_n hx hb dL_acts_378 rfl (lv_at hl 1 rfl) ?_
  refine lv_iload hx hb dL_acts_379 (lv_at hl 6 rfl) ?_
  obtain ⟨hh4, hq⟩ := q_gd hq
  refine va_iald hx hb K.1 hP 0 0 rfl rfl (vp_in_iff.mpr hh4) dL_acts_381 ?_
  refine lv_if_eq (tgt := 390) hx hb dL_acts_382 (by decide) (fun c5 => ?_) (fun c5 => ?_)
  · have hq := q_if_t hq c5
    exact w_L_acts_390 X K hA hs hnc hf0 ad qn qf qv qe qw tl tat tb tn tf vv ov an af av ae aw bd sc cn cf sn sf v1 v2 _ hq _ _ hP hD hS ls (lv_sub hl [0, 1, 6, 7] rfl)
  · have hq := q_if_f hq c5
    refine lv_iload hx hb dL_acts_385 (lv_at hl 8 rfl) ?_
    refine lv_if_eq (tgt := 421) hx hb dL_acts_387 (by decide) (fun c6 => ?_) (fun c6 => ?_)
    · have hq := q_if_t hq c6
      refine lv_aload_n hx hb dL_acts_421 rfl (lv_at hl 1 rfl) ?_
      refine lv_aload_n hx hb dL_acts_422 rfl (lv_at hl 2 rfl) ?_
      refine lv_aload_n hx hb dL_acts_423 rfl (lv_at hl 3 rfl) ?_
      refine lv_aload hx hb dL_acts_424 (lv_at hl 4 rfl) ?_
      refine lv_aload hx hb dL_acts_426 (lv_at hl 5 rfl) ?_
      refine lv_iload hx hb dL_acts_428 (lv_at hl 6 rfl) ?_
      refine lv_iload hx hb dL_acts_430 (lv_at hl 7 rfl) ?_
      obtain ⟨⟨y7, y8, y9, y10, y11⟩, hh12, hq⟩ := q_bd hq
      refine rwSf (As := [.ref qn, .ref qf, .ref qv, .ref qe, .ref qw, .int v1, .int v2]) (rest := []) X K (k_L_drop l G g qn qf qv qe qw an af av ae aw v1 v2 _ hh12) hd_L_drop gL_acts_L_drop hP hD hS hA foc5 hl.1 dL_acts_432 rfl rfl ⟨Nat.le_of_ble_eq_true rfl, Nat.le_of_ble_eq_true rfl⟩ rfl (Nat.le_of_ble_eq_true rfl) ⟨Nat.le_of_ble_eq_true rfl, Nat.le_of_ble_eq_true rfl⟩ (fun H locs hP hD hS => ?_)
      have hP : va_P G vwCl ((qn, .inl (g 0, 2, .inl y7)) :: (qf, .inl (g 0, 16, .inl y8)) :: (qv, .inl (g 0, 16, .inl y9)) :: (qe, .inl (g 0, 16, .inl y10)) :: (qw, .inl (g 0, 16, .inl y11)) :: (wX g ad bd sc tl tat tb cn cf sn sf tn tf vv ov)) H := hP
      have hD : va_D A ((qn, .inl (g 0, 2, .inl y7)) :: (qf, .inl (g 0, 16, .inl y8)) :: (qv, .inl (g 0, 16, .inl y9)) :: (qe, .inl (g 0, 16, .inl y10)) :: (qw, .inl (g 0, 16, .inl y11)) :: (wX g ad bd sc tl tat tb cn cf sn sf tn tf vv ov)) := hD
      refine lv_aload_n hx hb dL_acts_435 rfl (lv_at hl 0 rfl) ?_
      refine lv_iload hx hb dL_acts_436 (lv_at hl 6 rfl) ?_
      refine lv_iload hx hb dL_acts_438 (lv_at hl 7 rfl) ?_
      obtain ⟨⟨r14, y15, y16, y17, y18, y19, y20⟩, hh21, hq⟩ := q_bd hq
      refine lxS (As := [.ref (ad 0), .int v1, .int v2]) (rest := []) (wr := [(qn, .inl (g 0, 2, .inl y7)), (qf, .inl (g 0, 16, .inl y8)), (qv, .inl (g 0, 16, .inl y9)), (qe, .inl (g 0, 16, .inl y10)), (qw, .inl (g 0, 16, .inl y11))]) X K hs hnc (k_L_drops l hf0 G g ad bd sc tl tat tb cn cf sn sf tn tf vv ov v1 v2 _ hh21) hd_L_drops gL_acts_L_drops hP hD hS hA hl.1 dL_acts_440 rfl rfl ⟨Nat.le_of_ble_eq_true rfl, Nat.le_of_ble_eq_true rfl⟩ rfl (Nat.le_of_ble_eq_true rfl) ⟨Nat.le_of_ble_eq_true rfl, Nat.le_of_ble_eq_true rfl⟩ (fun w1 H locs hp hP hD hS => ?_)
      have hp : w1 = (wX g ad y15 y16 tl tat tb y17 y18 y19 y20 tn tf vv ov) := hp
      subst hp
      have hP : va_P G vwCl ((qn, .inl (g 0, 2, .inl y7)) :: (qf, .inl (g 0, 16, .inl y8)) :: (qv, .inl (g 0, 16, .inl y9)) :: (qe, .inl (g 0, 16, .inl y10)) :: (qw, .inl (g 0, 16, .inl y11)) :: (wX g ad y15 y16 tl tat tb y17 y18 y19 y20 tn tf vv ov)) H := hP
      have hD : va_D A ((qn, .inl (g 0, 2, .inl y7)) :: (qf, .inl (g 0, 16, .inl y8)) :: (qv, .inl (g 0, 16, .inl y9)) :: (qe, .inl (g 0, 16, .inl y10)) :: (qw, .inl (g 0, 16, .inl y11)) :: (wX g ad y15 y16 tl tat tb y17 y18 y19 y20 tn tf vv ov)) := hD
      refine lv_aload_n hx hb dL_acts_443 rfl (lv_at hl 1 rfl) ?_
      refine lv_iload hx hb dL_acts_444 (lv_at hl 6 rfl) ?_
      obtain ⟨hh23, hq⟩ := q_gd hq
      refine va_iald hx hb K.1 hP 0 0 rfl rfl (vp_in_iff.mpr hh23) dL_acts_446 ?_
      refine lv_icmp_ne (tgt := 454) hx hb dL_acts_447 (by decide) (fun c24 => ?_) (fun c24 => ?_)
      · have hq := q_if_f hq c24
        refine lv_iconst (v := 0) hx hb dL_acts_454 (by decide) ?_
        obtain rfl := q_rt hq
        exact lx_zret hx hb hr nz_0 hk rfl hP hD hS dL_acts_455
      · have hq := q_if_t hq c24
        refine lv_iconst (v := 1) hx hb dL_acts_450 (by decide) ?_
        refine lv_goto (tgt := 455) hx hb dL_acts_451 (by decide) ?_
        obtain rfl := q_rt hq
        exact lx_zret hx hb hr nz_1 hk rfl hP hD hS dL_acts_455
    · have hq := q_if_f hq c6
      exact w_L_acts_390 X K hA hs hnc hf0 ad qn qf qv qe qw tl tat tb tn tf vv ov an af av ae aw bd sc cn cf sn sf v1 v2 _ hq _ _ hP hD hS ls (lv_sub hl [0, 1, 6, 7] rfl)
def F_L_acts_468 (an : Nat → Int32) (af : Nat → Int32) (av : Nat → Int32) (ae : Nat → Int32) (aw : Nat → Int32) (bd : Nat → Nat → Nat) (sc : Int32) (cn : Nat → Int32) (cf : Nat → Nat → Int32) (sn : Nat → Nat → Int32) (sf : Nat → Nat → Nat → Int32) (v1 : Int32) (v2 : Int32) (v3 : Int32) (v4 : Int32) : Option (Int32 × (Nat → Int32) × (Nat → Int32) × (Nat → Int32) × (Nat → Int32) × (Nat → Int32) × (Nat → Nat → Nat) × Int32 × (Nat → Int32) × (Nat → Nat → Int32) × (Nat → Nat → Int32) × (Nat → Nat → Nat → Int32)) := (F_L_sets bd sc cn cf sn sf v1 v3 v4 (v2 - v2 / 6 * 6)).bind fun o12 => vgd (ix (v1) 2) <| if (an v1.toNatClampNeg) = 0 then (if o12.1 = (-10000001) then (some (1, an, af, av, ae, aw, o12.2.1, o12.2.2.1, cn, o12.2.2.2.1, o12.2.2.2.2.1, o12.2.2.2.2.2)) else (some (0, an, af, av, ae, aw, o12.2.1, o12.2.2.1, cn, o12.2.2.2.1, o12.2.2.2.2.1, o12.2.2.2.2.2))) else (if o12.1 = (-10000003) then (some (1, an, af, av, ae, aw, o12.2.1, o12.2.2.1, cn, o12.2.2.2.1, o12.2.2.2.2.1, o12.2.2.2.2.2)) else (some (0, an, af, av, ae, aw, o12.2.1, o12.2.2.1, cn, o12.2.2.2.1, o12.2.2.2.2.1, o12.2.2.2.2.2)))
set_option maxHeartbeats 4000000 in
set_option maxRecDepth 100000 in
theorem w_L_acts_468 {p : Program} {l : Launch} {e : Env} {s : State} {m : MethodId} {args : Array Value} {below : List Frame} {meth : Method} {c : Code} {G : va_G} {g : Nat → ClassId} (X : cx p s m args meth c cL_acts 29 (some .boolean) RL wsL_acts) (K : amb G g s) {A : Nat → Prop} (hA : ∀ q : Nat, s.heap.size ≤ q → A q) (hs : exS A s s.heap) (hnc : ncs s) (hf0 : l.stackTraces = false) (ad : Nat → Nat) (qn qf qv qe qw : Nat) (tl : Int32) (tat : Int32) (tb : Nat → Int32) (tn : Int32) (tf : Nat → Int32) (vv : Nat → Int32) (ov : Nat → Int32) (an : Nat → Int32) (af : Nat → Int32) (av : Nat → Int32) (ae : Nat → Int32) (aw : Nat → Int32) (bd : Nat → Nat → Nat) (sc : Int32) (cn : Nat → Int32) (cf : Nat → Nat → Int32) (sn : Nat → Nat → Int32) (sf : Nat → Nat → Nat → Int32) (v1 : Int32) (v2 : Int32) (v3 : Int32) (v4 : Int32) (res : Int32 × (Nat → Int32) × (Nat → Int32) × (Nat → Int32) × (Nat → Int32) × (Nat → Int32) × (Nat → Nat → Nat) × Int32 × (Nat → Int32) × (Nat → Nat → Int32) × (Nat → Nat → Int32) × (Nat → Nat → Nat → Int32)) (hq : F_L_acts_468 an af av ae aw bd sc cn cf sn sf v1 v2 v3 v4 = some res) : ∀ (H : Heap) (locs : List Loc), va_P G vwCl ((qn, .inl (g 0, 2, .inl an)) :: (qf, .inl (g 0, 16, .inl af)) :: (qv, .inl (g 0, 16, .inl av)) :: (qe, .inl (g 0, 16, .inl ae)) :: (qw, .inl (g 0, 16, .inl aw)) :: (wX g ad bd sc tl tat tb cn cf sn sf tn tf vv ov)) H → va_D A ((qn, .inl (g 0, 2, .inl an)) :: (qf, .inl (g 0, 16, .inl af)) :: (qv, .inl (g 0, 16, .inl av)) :: (qe, .inl (g 0, 16, .inl ae)) :: (qw, .inl (g 0, 16, .inl aw)) :: (wX g ad bd sc tl tat tb cn cf sn sf tn tf vv ov)) → va_S A s.heap H locs → ∀ (ls : Array Slot), lv_has ls 29 [(0, .ref (ad 0)), (1, .ref qn), (7, .int v1), (8, .int v2), (9, .int v3), (12, .int v4)] → W p l e (rmX 10 183) s m args below meth c H locs 0 0 (lxM G A below (some (.int res.1)) (fun w => w = ((qn, .inl (g 0, 2, .inl res.2.1)) :: (qf, .inl (g 0, 16, .inl res.2.2.1)) :: (qv, .inl (g 0, 16, .inl res.2.2.2.1)) :: (qe, .inl (g 0, 16, .inl res.2.2.2.2.1)) :: (qw, .inl (g 0, 16, .inl res.2.2.2.2.2.1)) :: (wX g ad res.2.2.2.2.2.2.1 res.2.2.2.2.2.2.2.1 tl tat tb res.2.2.2.2.2.2.2.2.1 res.2.2.2.2.2.2.2.2.2.1 res.2.2.2.2.2.2.2.2.2.2.1 res.2.2.2.2.2.2.2.2.2.2.2 tn tf vv ov))) args s) (F0 m 468 ls []) := by
  obtain ⟨hx, hb, hml, hr, hown, hts, hk⟩ := id X
  intro H locs hP hD hS ls hl
  unfold F_L_acts_468 at hq
  refine lv_aload_n hx hb dL_acts_468 rfl (lv_at hl 0 rfl) ?_
  refine lv_iload hx hb dL_acts_469 (lv_at hl 2 rfl) ?_
  refine lv_iload hx hb dL_acts_471 (lv_at hl 4 rfl) ?_
  refine lv_iload hx hb dL_acts_473 (lv_at hl 5 rfl) ?_
  refine lv_iload hx hb dL_acts_475 (lv_at hl 3 rfl) ?_
  refine lv_bipush (v := 6) hx hb dL_acts_477 (by decide) ?_
  refine lv_irem hx hb dL_acts_479 (by decide) ?_
  obtain ⟨⟨r5, y6, y7, y8, y9, y10⟩, hh11, hq⟩ := q_bd hq
  refine lxS (As := [.ref (ad 0), .int v1, .int v3, .int v4, .int (v2 - v2 / 6 * 6)]) (rest := []) (wr := [(qn, .inl (g 0, 2, .inl an)), (qf, .inl (g 0, 16, .inl af)), (qv, .inl (g 0, 16, .inl av)), (qe, .inl (g 0, 16, .inl ae)), (qw, .inl (g 0, 16, .inl aw))]) X K hs hnc (k_L_sets l hf0 G g ad bd sc tl tat tb cn cf sn sf tn tf vv ov v1 v3 v4 (v2 - v2 / 6 * 6) _ hh11) hd_L_sets gL_acts_L_sets hP hD hS hA hl.1 dL_acts_480 rfl rfl ⟨Nat.le_of_ble_eq_true rfl, Nat.le_of_ble_eq_true rfl⟩ rfl (Nat.le_of_ble_eq_true rfl) ⟨Nat.le_of_ble_eq_true rfl, Nat.le_of_ble_eq_true rfl⟩ (fun w1 H locs hp hP hD hS => ?_)
  have hp : w1 = (wX g ad y6 y7 tl tat tb cn y8 y9 y10 tn tf vv ov) := hp
  subst hp
  have hP : va_P G vwCl ((qn, .inl (g 0, 2, .inl an)) :: (qf, .inl (g 0, 16, .inl af)) :: (qv, .inl (g 0, 16, .inl av)) :: (qe, .inl (g 0, 16, .inl ae)) :: (qw, .inl (g 0, 16, .inl aw)) :: (wX g ad y6 y7 tl tat tb cn y8 y9 y10 tn tf vv ov)) H := hP
  have hD : va_D A ((qn, .inl (g 0, 2, .inl an)) :: (qf, .inl (g 0, 16, .inl af)) :: (qv, .inl (g 0, 16, .inl av)) :: (qe, .inl (g 0, 16, .inl ae)) :: (qw, .inl (g 0, 16, .inl aw)) :: (wX g ad y6 y7 tl tat tb cn y8 y9 y10 tn tf vv ov)) := hD
  refine lv_aload_n hx hb dL_acts_483 rfl (lv_at hl 1 rfl) ?_
  refine lv_iload hx hb dL_acts_484 (lv_at hl 2 rfl) ?_
  obtain ⟨hh13, hq⟩ := q_gd hq
  refine va_iald hx hb K.1 hP 0 0 rfl rfl (vp_in_iff.mpr hh13) dL_acts_486 ?_
  refine lv_if_ne (tgt := 495) hx hb dL_acts_487 (by decide) (fun c14 => ?_) (fun c14 => ?_)
  · have hq := q_if_f hq c14
    refine lv_ldc (v := (-10000003)) hx hb hown (hts _ (List.mem_of_getElem? (i := 3) rfl)) dL_acts_495 ?_
    refine lv_icmp_ne (tgt := 504) hx hb dL_acts_497 (by decide) (fun c15 => ?_) (fun c15 => ?_)
    · have hq := q_if_f hq c15
      refine lv_iconst (v := 0) hx hb dL_acts_504 (by decide) ?_
      obtain rfl := q_rt hq
      exact lx_zret hx hb hr nz_0 hk rfl hP hD hS dL_acts_505
    · have hq := q_if_t hq c15
      refine lv_iconst (v := 1) hx hb dL_acts_500 (by decide) ?_
      refine lv_goto (tgt := 505) hx hb dL_acts_501 (by decide) ?_
      obtain rfl := q_rt hq
      exact lx_zret hx hb hr nz_1 hk rfl hP hD hS dL_acts_505
  · have hq := q_if_t hq c14
    refine lv_ldc (v := (-10000001)) hx hb hown (hts _ (List.mem_of_getElem? (i := 4) rfl)) dL_acts_490 ?_
    refine lv_goto (tgt := 497) hx hb dL_acts_492 (by decide) ?_
    refine lv_icmp_ne (tgt := 504) hx hb dL_acts_497 (by decide) (fun c16 => ?_) (fun c16 => ?_)
    · have hq := q_if_f hq c16
      refine lv_iconst (v := 0) hx hb dL_acts_504 (by decide) ?_
      obtain rfl := q_rt hq
      exact lx_zret hx hb hr nz_0 hk rfl hP hD hS dL_acts_505
    · have hq := q_if_t hq c16
      refine lv_iconst (v := 1) hx hb dL_acts_500 (by decide) ?_
      refine lv_goto (tgt := 505) hx hb dL_acts_501 (by decide) ?_
      obtain rfl := q_rt hq
      exact lx_zret hx hb hr nz_1 hk rfl hP hD hS dL_acts_505
def F_L_acts_456 (an : Nat → Int32) (af : Nat → Int32) (av : Nat → Int32) (ae : Nat → Int32) (aw : Nat → Int32) (bd : Nat → Nat → Nat) (sc : Int32) (cn : Nat → Int32) (cf : Nat → Nat → Int32) (sn : Nat → Nat → Int32) (sf : Nat → Nat → Nat → Int32) (v1 : Int32) (v2 : Int32) (v3 : Int32) (v4 : Int32) (v5 : Int32) (v6 : Int32) : Option (Int32 × (Nat → Int32) × (Nat → Int32) × (Nat → Int32) × (Nat → Int32) × (Nat → Int32) × (Nat → Nat → Nat) × Int32 × (Nat → Int32) × (Nat → Nat → Int32) × (Nat → Nat → Int32) × (Nat → Nat → Nat → Int32)) := vgd (ix (v1) 2) <| if (an v1.toNatClampNeg) = 0 then (F_L_acts_468 an af av ae aw bd sc cn cf sn sf v1 v2 v3 v6) else (if v5 = 0 then (vgd (ix (v4) 16) <| vlet (av v4.toNatClampNeg) fun x11 => vgd (ix (v4) 16) <| vlet (upd av v4.toNatClampNeg v6) fun f13 => vgd (ix (v4) 16) <| vgd (ix (v4) 16) <| vlet (upd ae v4.toNatClampNeg (((ae v4.toNatClampNeg) - (ae v4.toNatClampNeg) / 100 * 100) + ((100 : Int32) * (v2 - v2 / 6 * 6)))) fun f16 => (F_L_sets bd sc cn cf sn sf v1 v3 v6 (v2 - v2 / 6 * 6)).bind fun o24 => if o24.1 = x11 then (some (1, an, af, f13, f16, aw, o24.2.1, o24.2.2.1, cn, o24.2.2.2.1, o24.2.2.2.2.1, o24.2.2.2.2.2)) else (some (0, an, af, f13, f16, aw, o24.2.1, o24.2.2.1, cn, o24.2.2.2.1, o24.2.2.2.2.1, o24.2.2.2.2.2))) else (F_L_acts_468 an af av ae aw bd sc cn cf sn sf v1 v2 v3 v6))
set_option maxHeartbeats 4000000 in
set_option maxRecDepth 100000 in
theorem w_L_acts_456 {p : Program} {l : Launch} {e : Env} {s : State} {m : MethodId} {args : Array Value} {below : List Frame} {meth : Method} {c : Code} {G : va_G} {g : Nat → ClassId} (X : cx p s m args meth c cL_acts 29 (some .boolean) RL wsL_acts) (K : amb G g s) {A : Nat → Prop} (hA : ∀ q : Nat, s.heap.size ≤ q → A q) (hs : exS A s s.heap) (hnc : ncs s) (hf0 : l.stackTraces = false) (ad : Nat → Nat) (qn qf qv qe qw : Nat) (tl : Int32) (tat : Int32) (tb : Nat → Int32) (tn : Int32) (tf : Nat → Int32) (vv : Nat → Int32) (ov : Nat → Int32) (an : Nat → Int32) (af : Nat → Int32) (av : Nat → Int32) (ae : Nat → Int32) (aw : Nat → Int32) (bd : Nat → Nat → Nat) (sc : Int32) (cn : Nat → Int32) (cf : Nat → Nat → Int32) (sn : Nat → Nat → Int32) (sf : Nat → Nat → Nat → Int32) (v1 : Int32) (v2 : Int32) (v3 : Int32) (v4 : Int32) (v5 : Int32) (v6 : Int32) (res : Int32 × (Nat → Int32) × (Nat → Int32) × (Nat → Int32) × (Nat → Int32) × (Nat → Int32) × (Nat → Nat → Nat) × Int32 × (Nat → Int32) × (Nat → Nat → Int32) × (Nat → Nat → Int32) × (Nat → Nat → Nat → Int32)) (hq : F_L_acts_456 an af av ae aw bd sc cn cf sn sf v1 v2 v3 v4 v5 v6 = some res) : ∀ (H : Heap) (locs : List Loc), va_P G vwCl ((qn, .inl (g 0, 2, .inl an)) :: (qf, .inl (g 0, 16, .inl af)) :: (qv, .inl (g 0, 16, .inl av)) :: (qe, .inl (g 0, 16, .inl ae)) :: (qw, .inl (g 0, 16, .inl aw)) :: (wX g ad bd sc tl tat tb cn cf sn sf tn tf vv ov)) H → va_D A ((qn, .inl (g 0, 2, .inl an)) :: (qf, .inl (g 0, 16, .inl af)) :: (qv, .inl (g 0, 16, .inl av)) :: (qe, .inl (g 0, 16, .inl ae)) :: (qw, .inl (g 0, 16, .inl aw)) :: (wX g ad bd sc tl tat tb cn cf sn sf tn tf vv ov)) → va_S A s.heap H locs → ∀ (ls : Array Slot), lv_has ls 29 [(0, .ref (ad 0)), (1, .ref qn), (3, .ref qv), (4, .ref qe), (7, .int v1), (8, .int v2), (9, .int v3), (10, .int v4), (11, .int v5), (12, .int v6)] → W p l e (rmX 10 183) s m args below meth c H locs 0 0 (lxM G A below (some (.int res.1)) (fun w => w = ((qn, .inl (g 0, 2, .inl res.2.1)) :: (qf, .inl (g 0, 16, .inl res.2.2.1)) :: (qv, .inl (g 0, 16, .inl res.2.2.2.1)) :: (qe, .inl (g 0, 16, .inl res.2.2.2.2.1)) :: (qw, .inl (g 0, 16, .inl res.2.2.2.2.2.1)) :: (wX g ad res.2.2.2.2.2.2.1 res.2.2.2.2.2.2.2.1 tl tat tb res.2.2.2.2.2.2.2.2.1 res.2.2.2.2.2.2.2.2.2.1 res.2.2.2.2.2.2.2.2.2.2.1 res.2.2.2.2.2.2.2.2.2.2.2 tn tf vv ov))) args s) (F0 m 456 ls []) := by
  obtain ⟨hx, hb, hml, hr, hown, hts, hk⟩ := id X
  intro H locs hP hD hS ls hl
  unfold F_L_acts_456 at hq
  refine lv_aload_n hx hb dL_acts_456 rfl (lv_at hl 1 rfl) ?_
  refine lv_iload hx hb dL_acts_457 (lv_at hl 4 rfl) ?_
  obtain ⟨hh7, hq⟩ := q_gd hq
  refine va_iald hx hb K.1 hP 0 0 rfl rfl (vp_in_iff.mpr hh7) dL_acts_459 ?_
  refine lv_if_eq (tgt := 468) hx hb dL_acts_460 (by decide) (fun c8 => ?_) (fun c8 => ?_)
  · have hq := q_if_t hq c8
    exact w_L_acts_468 X K hA hs hnc hf0 ad qn qf qv qe qw tl tat tb tn tf vv ov an af av ae aw bd sc cn cf sn sf v1 v2 v3 v6 _ hq _ _ hP hD hS ls (lv_sub hl [0, 1, 4, 5, 6, 9] rfl)
  · have hq := q_if_f hq c8
    refine lv_iload hx hb dL_acts_463 (lv_at hl 8 rfl) ?_
    refine lv_if_eq (tgt := 506) hx hb dL_acts_465 (by decide) (fun c9 => ?_) (fun c9 => ?_)
    · have hq := q_if_t hq c9
      refine lv_aload_n hx hb dL_acts_506 rfl (lv_at hl 2 rfl) ?_
      refine lv_iload hx hb dL_acts_507 (lv_at hl 7 rfl) ?_
      obtain ⟨hh10, hq⟩ := q_gd hq
      refine va_iald hx hb K.1 hP 2 0 rfl rfl (vp_in_iff.mpr hh10) dL_acts_509 ?_
      refine lv_topi (fun x11 ex11 => ?_)
      have hq := q_let hq ex11
      refine lv_istore (lv' := [(15, .int x11), (0, .ref (ad 0)), (1, .ref qn), (3, .ref qv), (4, .ref qe), (7, .int v1), (8, .int v2), (9, .int v3), (10, .int v4), (11, .int v5), (12, .int v6)]) hx hb dL_acts_510 hl (by decide) rfl (fun ls hl => ?_)
      refine lv_aload_n hx hb dL_acts_512 rfl (lv_at hl 3 rfl) ?_
      refine lv_iload hx hb dL_acts_513 (lv_at hl 8 rfl) ?_
      refine lv_iload hx hb dL_acts_515 (lv_at hl 10 rfl) ?_
      obtain ⟨hh12, hq⟩ := q_gd hq
      refine va_iast hx hb K.1 hP hD hS 2 0 rfl rfl (vp_in_iff.mpr hh12) dL_acts_517 (fun H locs hP hD hS => ?_)
      obtain ⟨f13, ef13⟩ : ∃ y, y = upd av v4.toNatClampNeg v6 := ⟨_, rfl⟩
      have hq := q_let hq ef13
      have hP : va_P G vwCl ((qn, .inl (g 0, 2, .inl an)) :: (qf, .inl (g 0, 16, .inl af)) :: (qv, .inl (g 0, 16, .inl f13)) :: (qe, .inl (g 0, 16, .inl ae)) :: (qw, .inl (g 0, 16, .inl aw)) :: (wX g ad bd sc tl tat tb cn cf sn sf tn tf vv ov)) H := by rw [ef13]; exact hP
      have hD : va_D A ((qn, .inl (g 0, 2, .inl an)) :: (qf, .inl (g 0, 16, .inl af)) :: (qv, .inl (g 0, 16, .inl f13)) :: (qe, .inl (g 0, 16, .inl ae)) :: (qw, .inl (g 0, 16, .inl aw)) :: (wX g ad bd sc tl tat tb cn cf sn sf tn tf vv ov)) := by rw [ef13]; exact hD
      refine lv_aload hx hb dL_acts_518 (lv_at hl 4 rfl) ?_
      refine lv_iload hx hb dL_acts_520 (lv_at hl 8 rfl) ?_
      refine lv_aload hx hb dL_acts_522 (lv_at hl 4 rfl) ?_
      refine lv_iload hx hb dL_acts_524 (lv_at hl 8 rfl) ?_
      obtain ⟨hh14, hq⟩ := q_gd hq
      refine va_iald hx hb K.1 hP 3 0 rfl rfl (vp_in_iff.mpr hh14) dL_acts_526 ?_
      refine lv_bipush (v := 100) hx hb dL_acts_527 (by decide) ?_
      refine lv_irem hx hb dL_acts_529 (by decide) ?_
      refine lv_bipush (v := 100) hx hb dL_acts_530 (by decide) ?_
      refine lv_iload hx hb dL_acts_532 (lv_at hl 6 rfl) ?_
      refine lv_bipush (v := 6) hx hb dL_acts_534 (by decide) ?_
      refine lv_irem hx hb dL_acts_536 (by decide) ?_
      refine lv_imul hx hb dL_acts_537 ?_
      refine lv_iadd hx hb dL_acts_538 ?_
      obtain ⟨hh15, hq⟩ := q_gd hq
      refine va_iast hx hb K.1 hP hD hS 3 0 rfl rfl (vp_in_iff.mpr hh15) dL_acts_539 (fun H locs hP hD hS => ?_)
      obtain ⟨f16, ef16⟩ : ∃ y, y = upd ae v4.toNatClampNeg (((ae v4.toNatClampNeg) - (ae v4.toNatClampNeg) / 100 * 100) + ((100 : Int32) * (v2 - v2 / 6 * 6))) := ⟨_, rfl⟩
      have hq := q_let hq ef16
      have hP : va_P G vwCl ((qn, .inl (g 0, 2, .inl an)) :: (qf, .inl (g 0, 16, .inl af)) :: (qv, .inl (g 0, 16, .inl f13)) :: (qe, .inl (g 0, 16, .inl f16)) :: (qw, .inl (g 0, 16, .inl aw)) :: (wX g ad bd sc tl tat tb cn cf sn sf tn tf vv ov)) H := by rw [ef16]; exact hP
      have hD : va_D A ((qn, .inl (g 0, 2, .inl an)) :: (qf, .inl (g 0, 16, .inl af)) :: (qv, .inl (g 0, 16, .inl f13)) :: (qe, .inl (g 0, 16, .inl f16)) :: (qw, .inl (g 0, 16, .inl aw)) :: (wX g ad bd sc tl tat tb cn cf sn sf tn tf vv ov)) := by rw [ef16]; exact hD
      refine lv_aload_n hx hb dL_acts_540 rfl (lv_at hl 1 rfl) ?_
      refine lv_iload hx hb dL_acts_541 (lv_at hl 5 rfl) ?_
      refine lv_iload hx hb dL_acts_543 (lv_at hl 7 rfl) ?_
      refine lv_iload hx hb dL_acts_545 (lv_at hl 10 rfl) ?_
      refine lv_iload hx hb dL_acts_547 (lv_at hl 6 rfl) ?_
      refine lv_bipush (v := 6) hx hb dL_acts_549 (by decide) ?_
      refine lv_irem hx hb dL_acts_551 (by decide) ?_
      obtain ⟨⟨r17, y18, y19, y20, y21, y22⟩, hh23, hq⟩ := q_bd hq
      refine lxS (As := [.ref (ad 0), .int v1, .int v3, .int v6, .int (v2 - v2 / 6 * 6)]) (rest := []) (wr := [(qn, .inl (g 0, 2, .inl an)), (qf, .inl (g 0, 16, .inl af)), (qv, .inl (g 0, 16, .inl f13)), (qe, .inl (g 0, 16, .inl f16)), (qw, .inl (g 0, 16, .inl aw))]) X K hs hnc (k_L_sets l hf0 G g ad bd sc tl tat tb cn cf sn sf tn tf vv ov v1 v3 v6 (v2 - v2 / 6 * 6) _ hh23) hd_L_sets gL_acts_L_sets hP hD hS hA hl.1 dL_acts_552 rfl rfl ⟨Nat.le_of_ble_eq_true rfl, Nat.le_of_ble_eq_true rfl⟩ rfl (Nat.le_of_ble_eq_true rfl) ⟨Nat.le_of_ble_eq_true rfl, Nat.le_of_ble_eq_true rfl⟩ (fun w1 H locs hp hP hD hS => ?_)
      have hp : w1 = (wX g ad y18 y19 tl tat tb cn y20 y21 y22 tn tf vv ov) := hp
      subst hp
      have hP : va_P G vwCl ((qn, .inl (g 0, 2, .inl an)) :: (qf, .inl (g 0, 16, .inl af)) :: (qv, .inl (g 0, 16, .inl f13)) :: (qe, .inl (g 0, 16, .inl f16)) :: (qw, .inl (g 0, 16, .inl aw)) :: (wX g ad y18 y19 tl tat tb cn y20 y21 y22 tn tf vv ov)) H := hP
      have hD : va_D A ((qn, .inl (g 0, 2, .inl an)) :: (qf, .inl (g 0, 16, .inl af)) :: (qv, .inl (g 0, 16, .inl f13)) :: (qe, .inl (g 0, 16, .inl f16)) :: (qw, .inl (g 0, 16, .inl aw)) :: (wX g ad y18 y19 tl tat tb cn y20 y21 y22 tn tf vv ov)) := hD
      refine lv_iload hx hb dL_acts_555 (lv_at hl 0 rfl) ?_
      refine lv_icmp_ne (tgt := 564) hx hb dL_acts_557 (by decide) (fun c25 => ?_) (fun c25 => ?_)
      · have hq := q_if_f hq c25
        refine lv_iconst (v := 0) hx hb dL_acts_564 (by decide) ?_
        obtain rfl := q_rt hq
        exact lx_zret hx hb hr nz_0 hk rfl hP hD hS dL_acts_565
      · have hq := q_if_t hq c25
        refine lv_iconst (v := 1) hx hb dL_acts_560 (by decide) ?_
        refine lv_goto (tgt := 565) hx hb dL_acts_561 (by decide) ?_
        obtain rfl := q_rt hq
        exact lx_zret hx hb hr nz_1 hk rfl hP hD hS dL_acts_565
    · have hq := q_if_f hq c9
      exact w_L_acts_468 X K hA hs hnc hf0 ad qn qf qv qe qw tl tat tb tn tf vv ov an af av ae aw bd sc cn cf sn sf v1 v2 v3 v6 _ hq _ _ hP hD hS ls (lv_sub hl [0, 1, 4, 5, 6, 9] rfl)
def F_L_acts_653 (an : Nat → Int32) (af : Nat → Int32) (av : Nat → Int32) (ae : Nat → Int32) (aw : Nat → Int32) (bd : Nat → Nat → Nat) (sc : Int32) (cn : Nat → Int32) (cf : Nat → Nat → Int32) (sn : Nat → Nat → Int32) (sf : Nat → Nat → Nat → Int32) (v1 : Int32) (v2 : Int32) (v3 : Int32) (v4 : Int32) : Option (Int32 × (Nat → Int32) × (Nat → Int32) × (Nat → Int32) × (Nat → Int32) × (Nat → Int32) × (Nat → Nat → Nat) × Int32 × (Nat → Int32) × (Nat → Nat → Int32) × (Nat → Nat → Int32) × (Nat → Nat → Nat → Int32)) := vgd (ix (v3) 16) <| vlet (upd af v3.toNatClampNeg v4) fun f6 => (F_L_moves bd sc cn cf sn sf v1 v2 v4).bind fun o15 => (F_L_sinks an f6 av ae aw v1 v2).bind fun o22 => if o15.1 = o22.1 then (some (1, an, o22.2.1, o22.2.2.1, o22.2.2.2.1, o22.2.2.2.2, o15.2.1, o15.2.2.1, o15.2.2.2.1, o15.2.2.2.2.1, o15.2.2.2.2.2.1, o15.2.2.2.2.2.2)) else (some (0, an, o22.2.1, o22.2.2.1, o22.2.2.2.1, o22.2.2.2.2, o15.2.1, o15.2.2.1, o15.2.2.2.1, o15.2.2.2.2.1, o15.2.2.2.2.2.1, o15.2.2.2.2.2.2))
set_option maxHeartbeats 4000000 in
set_option maxRecDepth 100000 in
theorem w_L_acts_653 {p : Program} {l : Launch} {e : Env} {s : State} {m : MethodId} {args : Array Value} {below : List Frame} {meth : Method} {c : Code} {G : va_G} {g : Nat → ClassId} (X : cx p s m args meth c cL_acts 29 (some .boolean) RL wsL_acts) (K : amb G g s) {A : Nat → Prop} (hA : ∀ q : Nat, s.heap.size ≤ q → A q) (hs : exS A s s.heap) (hnc : ncs s) (hf0 : l.stackTraces = false) (ad : Nat → Nat) (qn qf qv qe qw : Nat) (tl : Int32) (tat : Int32) (tb : Nat → Int32) (tn : Int32) (tf : Nat → Int32) (vv : Nat → Int32) (ov : Nat → Int32) (an : Nat → Int32) (af : Nat → Int32) (av : Nat → Int32) (ae : Nat → Int32) (aw : Nat → Int32) (bd : Nat → Nat → Nat) (sc : Int32) (cn : Nat → Int32) (cf : Nat → Nat → Int32) (sn : Nat → Nat → Int32) (sf : Nat → Nat → Nat → Int32) (v1 : Int32) (v2 : Int32) (v3 : Int32) (v4 : Int32) (res : Int32 × (Nat → Int32) × (Nat → Int32) × (Nat → Int32) × (Nat → Int32) × (Nat → Int32) × (Nat → Nat → Nat) × Int32 × (Nat → Int32) × (Nat → Nat → Int32) × (Nat → Nat → Int32) × (Nat → Nat → Nat → Int32)) (hq : F_L_acts_653 an af av ae aw bd sc cn cf sn sf v1 v2 v3 v4 = some res) : ∀ (H : Heap) (locs : List Loc), va_P G vwCl ((qn, .inl (g 0, 2, .inl an)) :: (qf, .inl (g 0, 16, .inl af)) :: (qv, .inl (g 0, 16, .inl av)) :: (qe, .inl (g 0, 16, .inl ae)) :: (qw, .inl (g 0, 16, .inl aw)) :: (wX g ad bd sc tl tat tb cn cf sn sf tn tf vv ov)) H → va_D A ((qn, .inl (g 0, 2, .inl an)) :: (qf, .inl (g 0, 16, .inl af)) :: (qv, .inl (g 0, 16, .inl av)) :: (qe, .inl (g 0, 16, .inl ae)) :: (qw, .inl (g 0, 16, .inl aw)) :: (wX g ad bd sc tl tat tb cn cf sn sf tn tf vv ov)) → va_S A s.heap H locs → ∀ (ls : Array Slot), lv_has ls 29 [(0, .ref (ad 0)), (1, .ref qn), (2, .ref qf), (3, .ref qv), (4, .ref qe), (5, .ref qw), (7, .int v1), (9, .int v2), (10, .int v3), (16, .int v4)] → W p l e (rmX 10 183) s m args below meth c H locs 0 0 (lxM G A below (some (.int res.1)) (fun w => w = ((qn, .inl (g 0, 2, .inl res.2.1)) :: (qf, .inl (g 0, 16, .inl res.2.2.1)) :: (qv, .inl (g 0, 16, .inl res.2.2.2.1)) :: (qe, .inl (g 0, 16, .inl res.2.2.2.2.1)) :: (qw, .inl (g 0, 16, .inl res.2.2.2.2.2.1)) :: (wX g ad res.2.2.2.2.2.2.1 res.2.2.2.2.2.2.2.1 tl tat tb res.2.2.2.2.2.2.2.2.1 res.2.2.2.2.2.2.2.2.2.1 res.2.2.2.2.2.2.2.2.2.2.1 res.2.2.2.2.2.2.2.2.2.2.2 tn tf vv ov))) args s) (F0 m 653 ls []) := by
  obtain ⟨hx, hb, hml, hr, hown, hts, hk⟩ := id X
  intro H locs hP hD hS ls hl
  unfold F_L_acts_653 at hq
  refine lv_aload_n hx hb dL_acts_653 rfl (lv_at hl 2 rfl) ?_
  refine lv_iload hx hb dL_acts_654 (lv_at hl 8 rfl) ?_
  refine lv_iload hx hb dL_acts_656 (lv_at hl 9 rfl) ?_
  obtain ⟨hh5, hq⟩ := q_gd hq
  refine va_iast hx hb K.1 hP hD hS 1 0 rfl rfl (vp_in_iff.mpr hh5) dL_acts_658 (fun H locs hP hD hS => ?_)
  obtain ⟨f6, ef6⟩ : ∃ y, y = upd af v3.toNatClampNeg v4 := ⟨_, rfl⟩
  have hq := q_let hq ef6
  have hP : va_P G vwCl ((qn, .inl (g 0, 2, .inl an)) :: (qf, .inl (g 0, 16, .inl f6)) :: (qv, .inl (g 0, 16, .inl av)) :: (qe, .inl (g 0, 16, .inl ae)) :: (qw, .inl (g 0, 16, .inl aw)) :: (wX g ad bd sc tl tat tb cn cf sn sf tn tf vv ov)) H := by rw [ef6]; exact hP
  have hD : va_D A ((qn, .inl (g 0, 2, .inl an)) :: (qf, .inl (g 0, 16, .inl f6)) :: (qv, .inl (g 0, 16, .inl av)) :: (qe, .inl (g 0, 16, .inl ae)) :: (qw, .inl (g 0, 16, .inl aw)) :: (wX g ad bd sc tl tat tb cn cf sn sf tn tf vv ov)) := by rw [ef6]; exact hD
  refine lv_aload_n hx hb dL_acts_659 rfl (lv_at hl 0 rfl) ?_
  refine lv_iload hx hb dL_acts_660 (lv_at hl 6 rfl) ?_
  refine lv_iload hx hb dL_acts_662 (lv_at hl 7 rfl) ?_
  refine lv_iload hx hb dL_acts_664 (lv_at hl 9 rfl) ?_
  obtain ⟨⟨r7, y8, y9, y10, y11, y12, y13⟩, hh14, hq⟩ := q_bd hq
  refine lxS (As := [.ref (ad 0), .int v1, .int v2, .int v4]) (rest := []) (wr := [(qn, .inl (g 0, 2, .inl an)), (qf, .inl (g 0, 16, .inl f6)), (qv, .inl (g 0, 16, .inl av)), (qe, .inl (g 0, 16, .inl ae)), (qw, .inl (g 0, 16, .inl aw))]) X K hs hnc (k_L_moves l hf0 G g ad bd sc tl tat tb cn cf sn sf tn tf vv ov v1 v2 v4 _ hh14) hd_L_moves gL_acts_L_moves hP hD hS hA hl.1 dL_acts_666 rfl rfl ⟨Nat.le_of_ble_eq_true rfl, Nat.le_of_ble_eq_true rfl⟩ rfl (Nat.le_of_ble_eq_true rfl) ⟨Nat.le_of_ble_eq_true rfl, Nat.le_of_ble_eq_true rfl⟩ (fun w1 H locs hp hP hD hS => ?_)
  have hp : w1 = (wX g ad y8 y9 tl tat tb y10 y11 y12 y13 tn tf vv ov) := hp
  subst hp
  have hP : va_P G vwCl ((qn, .inl (g 0, 2, .inl an)) :: (qf, .inl (g 0, 16, .inl f6)) :: (qv, .inl (g 0, 16, .inl av)) :: (qe, .inl (g 0, 16, .inl ae)) :: (qw, .inl (g 0, 16, .inl aw)) :: (wX g ad y8 y9 tl tat tb y10 y11 y12 y13 tn tf vv ov)) H := hP
  have hD : va_D A ((qn, .inl (g 0, 2, .inl an)) :: (qf, .inl (g 0, 16, .inl f6)) :: (qv, .inl (g 0, 16, .inl av)) :: (qe, .inl (g 0, 16, .inl ae)) :: (qw, .inl (g 0, 16, .inl aw)) :: (wX g ad y8 y9 tl tat tb y10 y11 y12 y13 tn tf vv ov)) := hD
  refine lv_aload_n hx hb dL_acts_669 rfl (lv_at hl 1 rfl) ?_
  refine lv_aload_n hx hb dL_acts_670 rfl (lv_at hl 2 rfl) ?_
  refine lv_aload_n hx hb dL_acts_671 rfl (lv_at hl 3 rfl) ?_
  refine lv_aload hx hb dL_acts_672 (lv_at hl 4 rfl) ?_
  refine lv_aload hx hb dL_acts_674 (lv_at hl 5 rfl) ?_
  refine lv_iload hx hb dL_acts_676 (lv_at hl 6 rfl) ?_
  refine lv_iload hx hb dL_acts_678 (lv_at hl 7 rfl) ?_
  obtain ⟨⟨r16, y17, y18, y19, y20⟩, hh21, hq⟩ := q_bd hq
  refine rwSf (As := [.ref qn, .ref qf, .ref qv, .ref qe, .ref qw, .int v1, .int v2]) (rest := [.int r7]) X K (k_L_sinks l G g qn qf qv qe qw an f6 av ae aw v1 v2 _ hh21) hd_L_sinks gL_acts_L_sinks hP hD hS hA foc5 hl.1 dL_acts_680 rfl rfl ⟨Nat.le_of_ble_eq_true rfl, Nat.le_of_ble_eq_true rfl⟩ rfl (Nat.le_of_ble_eq_true rfl) ⟨Nat.le_of_ble_eq_true rfl, Nat.le_of_ble_eq_true rfl⟩ (fun H locs hP hD hS => ?_)
  have hP : va_P G vwCl ((qn, .inl (g 0, 2, .inl an)) :: (qf, .inl (g 0, 16, .inl y17)) :: (qv, .inl (g 0, 16, .inl y18)) :: (qe, .inl (g 0, 16, .inl y19)) :: (qw, .inl (g 0, 16, .inl y20)) :: (wX g ad y8 y9 tl tat tb y10 y11 y12 y13 tn tf vv ov)) H := hP
  have hD : va_D A ((qn, .inl (g 0, 2, .inl an)) :: (qf, .inl (g 0, 16, .inl y17)) :: (qv, .inl (g 0, 16, .inl y18)) :: (qe, .inl (g 0, 16, .inl y19)) :: (qw, .inl (g 0, 16, .inl y20)) :: (wX g ad y8 y9 tl tat tb y10 y11 y12 y13 tn tf vv ov)) := hD
  refine lv_icmp_ne (tgt := 690) hx hb dL_acts_683 (by decide) (fun c23 => ?_) (fun c23 => ?_)
  · have hq := q_if_f hq c23
    refine lv_iconst (v := 0) hx hb dL_acts_690 (by decide) ?_
    obtain rfl := q_rt hq
    exact lx_zret hx hb hr nz_0 hk rfl hP hD hS dL_acts_691
  · have hq := q_if_t hq c23
    refine lv_iconst (v := 1) hx hb dL_acts_686 (by decide) ?_
    refine lv_goto (tgt := 691) hx hb dL_acts_687 (by decide) ?_
    obtain rfl := q_rt hq
    exact lx_zret hx hb hr nz_1 hk rfl hP hD hS dL_acts_691
def F_L_acts_566 (an : Nat → Int32) (af : Nat → Int32) (av : Nat → Int32) (ae : Nat → Int32) (aw : Nat → Int32) (bd : Nat → Nat → Nat) (sc : Int32) (cn : Nat → Int32) (cf : Nat → Nat → Int32) (sn : Nat → Nat → Int32) (sf : Nat → Nat → Nat → Int32) (v1 : Int32) (v2 : Int32) (v3 : Int32) (v4 : Int32) (v5 : Int32) : Option (Int32 × (Nat → Int32) × (Nat → Int32) × (Nat → Int32) × (Nat → Int32) × (Nat → Int32) × (Nat → Nat → Nat) × Int32 × (Nat → Int32) × (Nat → Nat → Int32) × (Nat → Nat → Int32) × (Nat → Nat → Nat → Int32)) := vlet ((v2 / 8) - (v2 / 8) / 1000 * 1000) fun x6 => vgd (ix (v1) 2) <| if (an v1.toNatClampNeg) = 0 then ((F_L_moves bd sc cn cf sn sf v1 0 x6).bind fun o42 => if o42.1 = (-10000001) then (some (1, an, af, av, ae, aw, o42.2.1, o42.2.2.1, o42.2.2.2.1, o42.2.2.2.2.1, o42.2.2.2.2.2.1, o42.2.2.2.2.2.2)) else (some (0, an, af, av, ae, aw, o42.2.1, o42.2.2.1, o42.2.2.2.1, o42.2.2.2.2.1, o42.2.2.2.2.2.1, o42.2.2.2.2.2.2))) else ((F_L_keyAt an af v1 x6).bind fun r9 => if v5 = 0 then (if r9 < 0 then (F_L_acts_653 an af av ae aw bd sc cn cf sn sf v1 v3 v4 x6) else (if r9 = v3 then (F_L_acts_653 an af av ae aw bd sc cn cf sn sf v1 v3 v4 x6) else ((F_L_moves bd sc cn cf sn sf v1 v3 x6).bind fun o32 => if o32.1 = (-10000003) then (some (1, an, af, av, ae, aw, o32.2.1, o32.2.2.1, o32.2.2.2.1, o32.2.2.2.2.1, o32.2.2.2.2.2.1, o32.2.2.2.2.2.2)) else (some (0, an, af, av, ae, aw, o32.2.1, o32.2.2.1, o32.2.2.2.1, o32.2.2.2.2.1, o32.2.2.2.2.2.1, o32.2.2.2.2.2.2))))) else ((F_L_moves bd sc cn cf sn sf v1 v3 x6).bind fun o20 => if o20.1 = (-10000003) then (some (1, an, af, av, ae, aw, o20.2.1, o20.2.2.1, o20.2.2.2.1, o20.2.2.2.2.1, o20.2.2.2.2.2.1, o20.2.2.2.2.2.2)) else (some (0, an, af, av, ae, aw, o20.2.1, o20.2.2.1, o20.2.2.2.1, o20.2.2.2.2.1, o20.2.2.2.2.2.1, o20.2.2.2.2.2.2))))
set_option maxHeartbeats 4000000 in
set_option maxRecDepth 100000 in
theorem w_L_acts_566 {p : Program} {l : Launch} {e : Env} {s : State} {m : MethodId} {args : Array Value} {below : List Frame} {meth : Method} {c : Code} {G : va_G} {g : Nat → ClassId} (X : cx p s m args meth c cL_acts 29 (some .boolean) RL wsL_acts) (K : amb G g s) {A : Nat → Prop} (hA : ∀ q : Nat, s.heap.size ≤ q → A q) (hs : exS A s s.heap) (hnc : ncs s) (hf0 : l.stackTraces = false) (ad : Nat → Nat) (qn qf qv qe qw : Nat) (tl : Int32) (tat : Int32) (tb : Nat → Int32) (tn : Int32) (tf : Nat → Int32) (vv : Nat → Int32) (ov : Nat → Int32) (an : Nat → Int32) (af : Nat → Int32) (av : Nat → Int32) (ae : Nat → Int32) (aw : Nat → Int32) (bd : Nat → Nat → Nat) (sc : Int32) (cn : Nat → Int32) (cf : Nat → Nat → Int32) (sn : Nat → Nat → Int32) (sf : Nat → Nat → Nat → Int32) (v1 : Int32) (v2 : Int32) (v3 : Int32) (v4 : Int32) (v5 : Int32) (res : Int32 × (Nat → Int32) × (Nat → Int32) × (Nat → Int32) × (Nat → Int32) × (Nat → Int32) × (Nat → Nat → Nat) × Int32 × (Nat → Int32) × (Nat → Nat → Int32) × (Nat → Nat → Int32) × (Nat → Nat → Nat → Int32)) (hq : F_L_acts_566 an af av ae aw bd sc cn cf sn sf v1 v2 v3 v4 v5 = some res) : ∀ (H : Heap) (locs : List Loc), va_P G vwCl ((qn, .inl (g 0, 2, .inl an)) :: (qf, .inl (g 0, 16, .inl af)) :: (qv, .inl (g 0, 16, .inl av)) :: (qe, .inl (g 0, 16, .inl ae)) :: (qw, .inl (g 0, 16, .inl aw)) :: (wX g ad bd sc tl tat tb cn cf sn sf tn tf vv ov)) H → va_D A ((qn, .inl (g 0, 2, .inl an)) :: (qf, .inl (g 0, 16, .inl af)) :: (qv, .inl (g 0, 16, .inl av)) :: (qe, .inl (g 0, 16, .inl ae)) :: (qw, .inl (g 0, 16, .inl aw)) :: (wX g ad bd sc tl tat tb cn cf sn sf tn tf vv ov)) → va_S A s.heap H locs → ∀ (ls : Array Slot), lv_has ls 29 [(0, .ref (ad 0)), (1, .ref qn), (2, .ref qf), (3, .ref qv), (4, .ref qe), (5, .ref qw), (7, .int v1), (8, .int v2), (9, .int v3), (10, .int v4), (11, .int v5)] → W p l e (rmX 10 183) s m args below meth c H locs 0 0 (lxM G A below (some (.int res.1)) (fun w => w = ((qn, .inl (g 0, 2, .inl res.2.1)) :: (qf, .inl (g 0, 16, .inl res.2.2.1)) :: (qv, .inl (g 0, 16, .inl res.2.2.2.1)) :: (qe, .inl (g 0, 16, .inl res.2.2.2.2.1)) :: (qw, .inl (g 0, 16, .inl res.2.2.2.2.2.1)) :: (wX g ad res.2.2.2.2.2.2.1 res.2.2.2.2.2.2.2.1 tl tat tb res.2.2.2.2.2.2.2.2.1 res.2.2.2.2.2.2.2.2.2.1 res.2.2.2.2.2.2.2.2.2.2.1 res.2.2.2.2.2.2.2.2.2.2.2 tn tf vv ov))) args s) (F0 m 566 ls []) := by
  obtain ⟨hx, hb, hml, hr, hown, hts, hk⟩ := id X
  intro H locs hP hD hS ls hl
  unfold F_L_acts_566 at hq
  refine lv_iload hx hb dL_acts_566 (lv_at hl 7 rfl) ?_
  refine lv_bipush (v := 8) hx hb dL_acts_568 (by decide) ?_
  refine lv_idiv hx hb dL_acts_570 (by decide) ?_
  refine lv_sipush (v := 1000) hx hb dL_acts_571 (by decide) ?_
  refine lv_irem hx hb dL_acts_574 (by decide) ?_
  refine lv_topi (fun x6 ex6 => ?_)
  have hq := q_let hq ex6
  refine lv_istore (lv' := [(16, .int x6), (0, .ref (ad 0)), (1, .ref qn), (2, .ref qf), (3, .ref qv), (4, .ref qe), (5, .ref qw), (7, .int v1), (8, .int v2), (9, .int v3), (10, .int v4), (11, .int v5)]) hx hb dL_acts_575 hl (by decide) rfl (fun ls hl => ?_)
  refine lv_aload_n hx hb dL_acts_577 rfl (lv_at hl 2 rfl) ?_
  refine lv_iload hx hb dL_acts_578 (lv_at hl 7 rfl) ?_
  obtain ⟨hh7, hq⟩ := q_gd hq
  refine va_iald hx hb K.1 hP 0 0 rfl rfl (vp_in_iff.mpr hh7) dL_acts_580 ?_
  refine lv_if_ne (tgt := 604) hx hb dL_acts_581 (by decide) (fun c8 => ?_) (fun c8 => ?_)
  · have hq := q_if_f hq c8
    refine lv_aload_n hx hb dL_acts_604 rfl (lv_at hl 2 rfl) ?_
    refine lv_aload_n hx hb dL_acts_605 rfl (lv_at hl 3 rfl) ?_
    refine lv_iload hx hb dL_acts_606 (lv_at hl 7 rfl) ?_
    refine lv_iload hx hb dL_acts_608 (lv_at hl 0 rfl) ?_
    obtain ⟨r9, hh10, hq⟩ := q_bd hq
    refine roS (As := [.ref qn, .ref qf, .int v1, .int x6]) (rest := []) X K (k_L_keyAt l G g qn qf an af v1 x6 _ hh10) hd_L_keyAt gL_acts_L_keyAt (hP.sub [0, 1] rfl) hl.1 dL_acts_610 rfl rfl ⟨Nat.le_of_ble_eq_true rfl, Nat.le_of_ble_eq_true rfl⟩ rfl (Nat.le_of_ble_eq_true rfl) ⟨Nat.le_of_ble_eq_true rfl, Nat.le_of_ble_eq_true rfl⟩ ?_
    refine lv_istore (lv' := [(17, .int r9), (16, .int x6), (0, .ref (ad 0)), (1, .ref qn), (2, .ref qf), (3, .ref qv), (4, .ref qe), (5, .ref qw), (7, .int v1), (8, .int v2), (9, .int v3), (10, .int v4), (11, .int v5)]) hx hb dL_acts_613 hl (by decide) rfl (fun ls hl => ?_)
    refine lv_iload hx hb dL_acts_615 (lv_at hl 12 rfl) ?_
    refine lv_if_ne (tgt := 632) hx hb dL_acts_617 (by decide) (fun c11 => ?_) (fun c11 => ?_)
    · have hq := q_if_f hq c11
      refine lv_aload_n hx hb dL_acts_632 rfl (lv_at hl 2 rfl) ?_
      refine lv_iload hx hb dL_acts_633 (lv_at hl 8 rfl) ?_
      refine lv_iload hx hb dL_acts_635 (lv_at hl 10 rfl) ?_
      refine lv_iload hx hb dL_acts_637 (lv_at hl 1 rfl) ?_
      obtain ⟨⟨r12, y13, y14, y15, y16, y17, y18⟩, hh19, hq⟩ := q_bd hq
      refine lxS (As := [.ref (ad 0), .int v1, .int v3, .int x6]) (rest := []) (wr := [(qn, .inl (g 0, 2, .inl an)), (qf, .inl (g 0, 16, .inl af)), (qv, .inl (g 0, 16, .inl av)), (qe, .inl (g 0, 16, .inl ae)), (qw, .inl (g 0, 16, .inl aw))]) X K hs hnc (k_L_moves l hf0 G g ad bd sc tl tat tb cn cf sn sf tn tf vv ov v1 v3 x6 _ hh19) hd_L_moves gL_acts_L_moves hP hD hS hA hl.1 dL_acts_639 rfl rfl ⟨Nat.le_of_ble_eq_true rfl, Nat.le_of_ble_eq_true rfl⟩ rfl (Nat.le_of_ble_eq_true rfl) ⟨Nat.le_of_ble_eq_true rfl, Nat.le_of_ble_eq_true rfl⟩ (fun w1 H locs hp hP hD hS => ?_)
      have hp : w1 = (wX g ad y13 y14 tl tat tb y15 y16 y17 y18 tn tf vv ov) := hp
      subst hp
      have hP : va_P G vwCl ((qn, .inl (g 0, 2, .inl an)) :: (qf, .inl (g 0, 16, .inl af)) :: (qv, .inl (g 0, 16, .inl av)) :: (qe, .inl (g 0, 16, .inl ae)) :: (qw, .inl (g 0, 16, .inl aw)) :: (wX g ad y13 y14 tl tat tb y15 y16 y17 y18 tn tf vv ov)) H := hP
      have hD : va_D A ((qn, .inl (g 0, 2, .inl an)) :: (qf, .inl (g 0, 16, .inl af)) :: (qv, .inl (g 0, 16, .inl av)) :: (qe, .inl (g 0, 16, .inl ae)) :: (qw, .inl (g 0, 16, .inl aw)) :: (wX g ad y13 y14 tl tat tb y15 y16 y17 y18 tn tf vv ov)) := hD
      refine lv_ldc (v := (-10000003)) hx hb hown (hts _ (List.mem_of_getElem? (i := 3) rfl)) dL_acts_642 ?_
      refine lv_icmp_ne (tgt := 651) hx hb dL_acts_644 (by decide) (fun c21 => ?_) (fun c21 => ?_)
      · have hq := q_if_f hq c21
        refine lv_iconst (v := 0) hx hb dL_acts_651 (by decide) ?_
        obtain rfl := q_rt hq
        exact lx_zret hx hb hr nz_0 hk rfl hP hD hS dL_acts_652
      · have hq := q_if_t hq c21
        refine lv_iconst (v := 1) hx hb dL_acts_647 (by decide) ?_
        refine lv_goto (tgt := 652) hx hb dL_acts_648 (by decide) ?_
        obtain rfl := q_rt hq
        exact lx_zret hx hb hr nz_1 hk rfl hP hD hS dL_acts_652
    · have hq := q_if_t hq c11
      refine lv_iload hx hb dL_acts_620 (lv_at hl 0 rfl) ?_
      refine lv_if_lt (tgt := 653) hx hb dL_acts_622 (by decide) (fun c22 => ?_) (fun c22 => ?_)
      · have hq := q_if_t hq c22
        exact w_L_acts_653 X K hA hs hnc hf0 ad qn qf qv qe qw tl tat tb tn tf vv ov an af av ae aw bd sc cn cf sn sf v1 v3 v4 x6 _ hq _ _ hP hD hS ls (lv_sub hl [2, 3, 4, 5, 6, 7, 8, 10, 11, 1] rfl)
      · have hq := q_if_f hq c22
        refine lv_iload hx hb dL_acts_625 (lv_at hl 0 rfl) ?_
        refine lv_iload hx hb dL_acts_627 (lv_at hl 10 rfl) ?_
        refine lv_icmp_eq (tgt := 653) hx hb dL_acts_629 (by decide) (fun c23 => ?_) (fun c23 => ?_)
        · have hq := q_if_t hq c23
          exact w_L_acts_653 X K hA hs hnc hf0 ad qn qf qv qe qw tl tat tb tn tf vv ov an af av ae aw bd sc cn cf sn sf v1 v3 v4 x6 _ hq _ _ hP hD hS ls (lv_sub hl [2, 3, 4, 5, 6, 7, 8, 10, 11, 1] rfl)
        · have hq := q_if_f hq c23
          refine lv_aload_n hx hb dL_acts_632 rfl (lv_at hl 2 rfl) ?_
          refine lv_iload hx hb dL_acts_633 (lv_at hl 8 rfl) ?_
          refine lv_iload hx hb dL_acts_635 (lv_at hl 10 rfl) ?_
          refine lv_iload hx hb dL_acts_637 (lv_at hl 1 rfl) ?_
          obtain ⟨⟨r24, y25, y26, y27, y28, y29, y30⟩, hh31, hq⟩ := q_bd hq
          refine lxS (As := [.ref (ad 0), .int v1, .int v3, .int x6]) (rest := []) (wr := [(qn, .inl (g 0, 2, .inl an)), (qf, .inl (g 0, 16, .inl af)), (qv, .inl (g 0, 16, .inl av)), (qe, .inl (g 0, 16, .inl ae)), (qw, .inl (g 0, 16, .inl aw))]) X K hs hnc (k_L_moves l hf0 G g ad bd sc tl tat tb cn cf sn sf tn tf vv ov v1 v3 x6 _ hh31) hd_L_moves gL_acts_L_moves hP hD hS hA hl.1 dL_acts_639 rfl rfl ⟨Nat.le_of_ble_eq_true rfl, Nat.le_of_ble_eq_true rfl⟩ rfl (Nat.le_of_ble_eq_true rfl) ⟨Nat.le_of_ble_eq_true rfl, Nat.le_of_ble_eq_true rfl⟩ (fun w1 H locs hp hP hD hS => ?_)
          have hp : w1 = (wX g ad y25 y26 tl tat tb y27 y28 y29 y30 tn tf vv ov) := hp
          subst hp
          have hP : va_P G vwCl ((qn, .inl (g 0, 2, .inl an)) :: (qf, .inl (g 0, 16, .inl af)) :: (qv, .inl (g 0, 16, .inl av)) :: (qe, .inl (g 0, 16, .inl ae)) :: (qw, .inl (g 0, 16, .inl aw)) :: (wX g ad y25 y26 tl tat tb y27 y28 y29 y30 tn tf vv ov)) H := hP
          have hD : va_D A ((qn, .inl (g 0, 2, .inl an)) :: (qf, .inl (g 0, 16, .inl af)) :: (qv, .inl (g 0, 16, .inl av)) :: (qe, .inl (g 0, 16, .inl ae)) :: (qw, .inl (g 0, 16, .inl aw)) :: (wX g ad y25 y26 tl tat tb y27 y28 y29 y30 tn tf vv ov)) := hD
          refine lv_ldc (v := (-10000003)) hx hb hown (hts _ (List.mem_of_getElem? (i := 3) rfl)) dL_acts_642 ?_
          refine lv_icmp_ne (tgt := 651) hx hb dL_acts_644 (by decide) (fun c33 => ?_) (fun c33 => ?_)
          · have hq := q_if_f hq c33
            refine lv_iconst (v := 0) hx hb dL_acts_651 (by decide) ?_
            obtain rfl := q_rt hq
            exact lx_zret hx hb hr nz_0 hk rfl hP hD hS dL_acts_652
          · have hq := q_if_t hq c33
            refine lv_iconst (v := 1) hx hb dL_acts_647 (by decide) ?_
            refine lv_goto (tgt := 652) hx hb dL_acts_648 (by decide) ?_
            obtain rfl := q_rt hq
            exact lx_zret hx hb hr nz_1 hk rfl hP hD hS dL_acts_652
  · have hq := q_if_t hq c8
    refine lv_aload_n hx hb dL_acts_584 rfl (lv_at hl 1 rfl) ?_
    refine lv_iload hx hb dL_acts_585 (lv_at hl 7 rfl) ?_
    refine lv_iconst (v := 0) hx hb dL_acts_587 (by decide) ?_
    refine lv_iload hx hb dL_acts_588 (lv_at hl 0 rfl) ?_
    obtain ⟨⟨r34, y35, y36, y37, y38, y39, y40⟩, hh41, hq⟩ := q_bd hq
    refine lxS (As := [.ref (ad 0), .int v1, .int 0, .int x6]) (rest := []) (wr := [(qn, .inl (g 0, 2, .inl an)), (qf, .inl (g 0, 16, .inl af)), (qv, .inl (g 0, 16, .inl av)), (qe, .inl (g 0, 16, .inl ae)), (qw, .inl (g 0, 16, .inl aw))]) X K hs hnc (k_L_moves l hf0 G g ad bd sc tl tat tb cn cf sn sf tn tf vv ov v1 0 x6 _ hh41) hd_L_moves gL_acts_L_moves hP hD hS hA hl.1 dL_acts_590 rfl rfl ⟨Nat.le_of_ble_eq_true rfl, Nat.le_of_ble_eq_true rfl⟩ rfl (Nat.le_of_ble_eq_true rfl) ⟨Nat.le_of_ble_eq_true rfl, Nat.le_of_ble_eq_true rfl⟩ (fun w1 H locs hp hP hD hS => ?_)
    have hp : w1 = (wX g ad y35 y36 tl tat tb y37 y38 y39 y40 tn tf vv ov) := hp
    subst hp
    have hP : va_P G vwCl ((qn, .inl (g 0, 2, .inl an)) :: (qf, .inl (g 0, 16, .inl af)) :: (qv, .inl (g 0, 16, .inl av)) :: (qe, .inl (g 0, 16, .inl ae)) :: (qw, .inl (g 0, 16, .inl aw)) :: (wX g ad y35 y36 tl tat tb y37 y38 y39 y40 tn tf vv ov)) H := hP
    have hD : va_D A ((qn, .inl (g 0, 2, .inl an)) :: (qf, .inl (g 0, 16, .inl af)) :: (qv, .inl (g 0, 16, .inl av)) :: (qe, .inl (g 0, 16, .inl ae)) :: (qw, .inl (g 0, 16, .inl aw)) :: (wX g ad y35 y36 tl tat tb y37 y38 y39 y40 tn tf vv ov)) := hD
    refine lv_ldc (v := (-10000001)) hx hb hown (hts _ (List.mem_of_getElem? (i := 4) rfl)) dL_acts_593 ?_
    refine lv_icmp_ne (tgt := 602) hx hb dL_acts_595 (by decide) (fun c43 => ?_) (fun c43 => ?_)
    · have hq := q_if_f hq c43
      refine lv_iconst (v := 0) hx hb dL_acts_602 (by decide) ?_
      obtain rfl := q_rt hq
      exact lx_zret hx hb hr nz_0 hk rfl hP hD hS dL_acts_603
    · have hq := q_if_t hq c43
      refine lv_iconst (v := 1) hx hb dL_acts_598 (by decide) ?_
      refine lv_goto (tgt := 603) hx hb dL_acts_599 (by decide) ?_
      obtain rfl := q_rt hq
      exact lx_zret hx hb hr nz_1 hk rfl hP hD hS dL_acts_603
def F_L_acts_733 (an : Nat → Int32) (af : Nat → Int32) (av : Nat → Int32) (ae : Nat → Int32) (aw : Nat → Int32) (bd : Nat → Nat → Nat) (sc : Int32) (cn : Nat → Int32) (cf : Nat → Nat → Int32) (sn : Nat → Nat → Int32) (sf : Nat → Nat → Nat → Int32) (v1 : Int32) (v2 : Int32) (v3 : Int32) (v4 : Int32) : Option (Int32 × (Nat → Int32) × (Nat → Int32) × (Nat → Int32) × (Nat → Int32) × (Nat → Int32) × (Nat → Nat → Nat) × Int32 × (Nat → Int32) × (Nat → Nat → Int32) × (Nat → Nat → Int32) × (Nat → Nat → Nat → Int32)) := (F_L_leans bd sc cn cf sn sf v1 v3 (v2 - v2 / 3 * 3) v4).bind fun o12 => vgd (ix (v1) 2) <| if (an v1.toNatClampNeg) = 0 then (if o12.1 = (-10000001) then (some (1, an, af, av, ae, aw, o12.2.1, o12.2.2.1, cn, o12.2.2.2.1, o12.2.2.2.2.1, o12.2.2.2.2.2)) else (some (0, an, af, av, ae, aw, o12.2.1, o12.2.2.1, cn, o12.2.2.2.1, o12.2.2.2.2.1, o12.2.2.2.2.2))) else (if o12.1 = (-10000003) then (some (1, an, af, av, ae, aw, o12.2.1, o12.2.2.1, cn, o12.2.2.2.1, o12.2.2.2.2.1, o12.2.2.2.2.2)) else (some (0, an, af, av, ae, aw, o12.2.1, o12.2.2.1, cn, o12.2.2.2.1, o12.2.2.2.2.1, o12.2.2.2.2.2)))
set_option maxHeartbeats 4000000 in
set_option maxRecDepth 100000 in
theorem w_L_acts_733 {p : Program} {l : Launch} {e : Env} {s : State} {m : MethodId} {args : Array Value} {below : List Frame} {meth : Method} {c : Code} {G : va_G} {g : Nat → ClassId} (X : cx p s m args meth c cL_acts 29 (some .boolean) RL wsL_acts) (K : amb G g s) {A : Nat → Prop} (hA : ∀ q : Nat, s.heap.size ≤ q → A q) (hs : exS A s s.heap) (hnc : ncs s) (hf0 : l.stackTraces = false) (ad : Nat → Nat) (qn qf qv qe qw : Nat) (tl : Int32) (tat : Int32) (tb : Nat → Int32) (tn : Int32) (tf : Nat → Int32) (vv : Nat → Int32) (ov : Nat → Int32) (an : Nat → Int32) (af : Nat → Int32) (av : Nat → Int32) (ae : Nat → Int32) (aw : Nat → Int32) (bd : Nat → Nat → Nat) (sc : Int32) (cn : Nat → Int32) (cf : Nat → Nat → Int32) (sn : Nat → Nat → Int32) (sf : Nat → Nat → Nat → Int32) (v1 : Int32) (v2 : Int32) (v3 : Int32) (v4 : Int32) (res : Int32 × (Nat → Int32) × (Nat → Int32) × (Nat → Int32) × (Nat → Int32) × (Nat → Int32) × (Nat → Nat → Nat) × Int32 × (Nat → Int32) × (Nat → Nat → Int32) × (Nat → Nat → Int32) × (Nat → Nat → Nat → Int32)) (hq : F_L_acts_733 an af av ae aw bd sc cn cf sn sf v1 v2 v3 v4 = some res) : ∀ (H : Heap) (locs : List Loc), va_P G vwCl ((qn, .inl (g 0, 2, .inl an)) :: (qf, .inl (g 0, 16, .inl af)) :: (qv, .inl (g 0, 16, .inl av)) :: (qe, .inl (g 0, 16, .inl ae)) :: (qw, .inl (g 0, 16, .inl aw)) :: (wX g ad bd sc tl tat tb cn cf sn sf tn tf vv ov)) H → va_D A ((qn, .inl (g 0, 2, .inl an)) :: (qf, .inl (g 0, 16, .inl af)) :: (qv, .inl (g 0, 16, .inl av)) :: (qe, .inl (g 0, 16, .inl ae)) :: (qw, .inl (g 0, 16, .inl aw)) :: (wX g ad bd sc tl tat tb cn cf sn sf tn tf vv ov)) → va_S A s.heap H locs → ∀ (ls : Array Slot), lv_has ls 29 [(0, .ref (ad 0)), (1, .ref qn), (7, .int v1), (8, .int v2), (9, .int v3), (18, .int v4)] → W p l e (rmX 10 183) s m args below meth c H locs 0 0 (lxM G A below (some (.int res.1)) (fun w => w = ((qn, .inl (g 0, 2, .inl res.2.1)) :: (qf, .inl (g 0, 16, .inl res.2.2.1)) :: (qv, .inl (g 0, 16, .inl res.2.2.2.1)) :: (qe, .inl (g 0, 16, .inl res.2.2.2.2.1)) :: (qw, .inl (g 0, 16, .inl res.2.2.2.2.2.1)) :: (wX g ad res.2.2.2.2.2.2.1 res.2.2.2.2.2.2.2.1 tl tat tb res.2.2.2.2.2.2.2.2.1 res.2.2.2.2.2.2.2.2.2.1 res.2.2.2.2.2.2.2.2.2.2.1 res.2.2.2.2.2.2.2.2.2.2.2 tn tf vv ov))) args s) (F0 m 733 ls []) := by
  obtain ⟨hx, hb, hml, hr, hown, hts, hk⟩ := id X
  intro H locs hP hD hS ls hl
  unfold F_L_acts_733 at hq
  refine lv_aload_n hx hb dL_acts_733 rfl (lv_at hl 0 rfl) ?_
  refine lv_iload hx hb dL_acts_734 (lv_at hl 2 rfl) ?_
  refine lv_iload hx hb dL_acts_736 (lv_at hl 4 rfl) ?_
  refine lv_iload hx hb dL_acts_738 (lv_at hl 3 rfl) ?_
  refine lv_iconst (v := 3) hx hb dL_acts_740 (by decide) ?_
  refine lv_irem hx hb dL_acts_741 (by decide) ?_
  refine lv_iload hx hb dL_acts_742 (lv_at hl 5 rfl) ?_
  obtain ⟨⟨r5, y6, y7, y8, y9, y10⟩, hh11, hq⟩ := q_bd hq
  refine lxS (As := [.ref (ad 0), .int v1, .int v3, .int (v2 - v2 / 3 * 3), .int v4]) (rest := []) (wr := [(qn, .inl (g 0, 2, .inl an)), (qf, .inl (g 0, 16, .inl af)), (qv, .inl (g 0, 16, .inl av)), (qe, .inl (g 0, 16, .inl ae)), (qw, .inl (g 0, 16, .inl aw))]) X K hs hnc (k_L_leans l hf0 G g ad bd sc tl tat tb cn cf sn sf tn tf vv ov v1 v3 (v2 - v2 / 3 * 3) v4 _ hh11) hd_L_leans gL_acts_L_leans hP hD hS hA hl.1 dL_acts_744 rfl rfl ⟨Nat.le_of_ble_eq_true rfl, Nat.le_of_ble_eq_true rfl⟩ rfl (Nat.le_of_ble_eq_true rfl) ⟨Nat.le_of_ble_eq_true rfl, Nat.le_of_ble_eq_true rfl⟩ (fun w1 H locs hp hP hD hS => ?_)
  have hp : w1 = (wX g ad y6 y7 tl tat tb cn y8 y9 y10 tn tf vv ov) := hp
  subst hp
  have hP : va_P G vwCl ((qn, .inl (g 0, 2, .inl an)) :: (qf, .inl (g 0, 16, .inl af)) :: (qv, .inl (g 0, 16, .inl av)) :: (qe, .inl (g 0, 16, .inl ae)) :: (qw, .inl (g 0, 16, .inl aw)) :: (wX g ad y6 y7 tl tat tb cn y8 y9 y10 tn tf vv ov)) H := hP
  have hD : va_D A ((qn, .inl (g 0, 2, .inl an)) :: (qf, .inl (g 0, 16, .inl af)) :: (qv, .inl (g 0, 16, .inl av)) :: (qe, .inl (g 0, 16, .inl ae)) :: (qw, .inl (g 0, 16, .inl aw)) :: (wX g ad y6 y7 tl tat tb cn y8 y9 y10 tn tf vv ov)) := hD
  refine lv_aload_n hx hb dL_acts_747 rfl (lv_at hl 1 rfl) ?_
  refine lv_iload hx hb dL_acts_748 (lv_at hl 2 rfl) ?_
  obtain ⟨hh13, hq⟩ := q_gd hq
  refine va_iald hx hb K.1 hP 0 0 rfl rfl (vp_in_iff.mpr hh13) dL_acts_750 ?_
  refine lv_if_ne (tgt := 759) hx hb dL_acts_751 (by decide) (fun c14 => ?_) (fun c14 => ?_)
  · have hq := q_if_f hq c14
    refine lv_ldc (v := (-10000003)) hx hb hown (hts _ (List.mem_of_getElem? (i := 3) rfl)) dL_acts_759 ?_
    refine lv_icmp_ne (tgt := 768) hx hb dL_acts_761 (by decide) (fun c15 => ?_) (fun c15 => ?_)
    · have hq := q_if_f hq c15
      refine lv_iconst (v := 0) hx hb dL_acts_768 (by decide) ?_
      obtain rfl := q_rt hq
      exact lx_zret hx hb hr nz_0 hk rfl hP hD hS dL_acts_769
    · have hq := q_if_t hq c15
      refine lv_iconst (v := 1) hx hb dL_acts_764 (by decide) ?_
      refine lv_goto (tgt := 769) hx hb dL_acts_765 (by decide) ?_
      obtain rfl := q_rt hq
      exact lx_zret hx hb hr nz_1 hk rfl hP hD hS dL_acts_769
  · have hq := q_if_t hq c14
    refine lv_ldc (v := (-10000001)) hx hb hown (hts _ (List.mem_of_getElem? (i := 4) rfl)) dL_acts_754 ?_
    refine lv_goto (tgt := 761) hx hb dL_acts_756 (by decide) ?_
    refine lv_icmp_ne (tgt := 768) hx hb dL_acts_761 (by decide) (fun c16 => ?_) (fun c16 => ?_)
    · have hq := q_if_f hq c16
      refine lv_iconst (v := 0) hx hb dL_acts_768 (by decide) ?_
      obtain rfl := q_rt hq
      exact lx_zret hx hb hr nz_0 hk rfl hP hD hS dL_acts_769
    · have hq := q_if_t hq c16
      refine lv_iconst (v := 1) hx hb dL_acts_764 (by decide) ?_
      refine lv_goto (tgt := 769) hx hb dL_acts_765 (by decide) ?_
      obtain rfl := q_rt hq
      exact lx_zret hx hb hr nz_1 hk rfl hP hD hS dL_acts_769
def F_L_acts_719 (an : Nat → Int32) (af : Nat → Int32) (av : Nat → Int32) (ae : Nat → Int32) (aw : Nat → Int32) (bd : Nat → Nat → Nat) (sc : Int32) (cn : Nat → Int32) (cf : Nat → Nat → Int32) (sn : Nat → Nat → Int32) (sf : Nat → Nat → Nat → Int32) (v1 : Int32) (v2 : Int32) (v3 : Int32) (v4 : Int32) (v5 : Int32) (v6 : Int32) : Option (Int32 × (Nat → Int32) × (Nat → Int32) × (Nat → Int32) × (Nat → Int32) × (Nat → Int32) × (Nat → Nat → Nat) × Int32 × (Nat → Int32) × (Nat → Nat → Int32) × (Nat → Nat → Int32) × (Nat → Nat → Nat → Int32)) := vgd (ix (v1) 2) <| if (an v1.toNatClampNeg) = 0 then (F_L_acts_733 an af av ae aw bd sc cn cf sn sf v1 v2 v3 v6) else (if v5 = 0 then ((F_L_tangent an af av ae aw v1 v3).bind fun r10 => vgd (ix (v4) 16) <| vgd (ix (v4) 16) <| vlet (upd ae v4.toNatClampNeg ((((ae v4.toNatClampNeg) / 100) * 100) + ((10 : Int32) * (v2 - v2 / 3 * 3)))) fun f14 => vgd (ix (v4) 16) <| vlet (upd aw v4.toNatClampNeg v6) fun f16 => (F_L_leans bd sc cn cf sn sf v1 v3 (v2 - v2 / 3 * 3) v6).bind fun o24 => if o24.1 = r10 then (some (1, an, af, av, f14, f16, o24.2.1, o24.2.2.1, cn, o24.2.2.2.1, o24.2.2.2.2.1, o24.2.2.2.2.2)) else (some (0, an, af, av, f14, f16, o24.2.1, o24.2.2.1, cn, o24.2.2.2.1, o24.2.2.2.2.1, o24.2.2.2.2.2))) else (F_L_acts_733 an af av ae aw bd sc cn cf sn sf v1 v2 v3 v6))
set_option maxHeartbeats 4000000 in
set_option maxRecDepth 100000 in
theorem w_L_acts_719 {p : Program} {l : Launch} {e : Env} {s : State} {m : MethodId} {args : Array Value} {below : List Frame} {meth : Method} {c : Code} {G : va_G} {g : Nat → ClassId} (X : cx p s m args meth c cL_acts 29 (some .boolean) RL wsL_acts) (K : amb G g s) {A : Nat → Prop} (hA : ∀ q : Nat, s.heap.size ≤ q → A q) (hs : exS A s s.heap) (hnc : ncs s) (hf0 : l.stackTraces = false) (ad : Nat → Nat) (qn qf qv qe qw : Nat) (tl : Int32) (tat : Int32) (tb : Nat → Int32) (tn : Int32) (tf : Nat → Int32) (vv : Nat → Int32) (ov : Nat → Int32) (an : Nat → Int32) (af : Nat → Int32) (av : Nat → Int32) (ae : Nat → Int32) (aw : Nat → Int32) (bd : Nat → Nat → Nat) (sc : Int32) (cn : Nat → Int32) (cf : Nat → Nat → Int32) (sn : Nat → Nat → Int32) (sf : Nat → Nat → Nat → Int32) (v1 : Int32) (v2 : Int32) (v3 : Int32) (v4 : Int32) (v5 : Int32) (v6 : Int32) (res : Int32 × (Nat → Int32) × (Nat → Int32) × (Nat → Int32) × (Nat → Int32) × (Nat → Int32) × (Nat → Nat → Nat) × Int32 × (Nat → Int32) × (Nat → Nat → Int32) × (Nat → Nat → Int32) × (Nat → Nat → Nat → Int32)) (hq : F_L_acts_719 an af av ae aw bd sc cn cf sn sf v1 v2 v3 v4 v5 v6 = some res) : ∀ (H : Heap) (locs : List Loc), va_P G vwCl ((qn, .inl (g 0, 2, .inl an)) :: (qf, .inl (g 0, 16, .inl af)) :: (qv, .inl (g 0, 16, .inl av)) :: (qe, .inl (g 0, 16, .inl ae)) :: (qw, .inl (g 0, 16, .inl aw)) :: (wX g ad bd sc tl tat tb cn cf sn sf tn tf vv ov)) H → va_D A ((qn, .inl (g 0, 2, .inl an)) :: (qf, .inl (g 0, 16, .inl af)) :: (qv, .inl (g 0, 16, .inl av)) :: (qe, .inl (g 0, 16, .inl ae)) :: (qw, .inl (g 0, 16, .inl aw)) :: (wX g ad bd sc tl tat tb cn cf sn sf tn tf vv ov)) → va_S A s.heap H locs → ∀ (ls : Array Slot), lv_has ls 29 [(0, .ref (ad 0)), (1, .ref qn), (2, .ref qf), (3, .ref qv), (4, .ref qe), (5, .ref qw), (7, .int v1), (8, .int v2), (9, .int v3), (10, .int v4), (11, .int v5)] → W p l e (rmX 10 183) s m args below meth c H locs 0 0 (lxM G A below (some (.int res.1)) (fun w => w = ((qn, .inl (g 0, 2, .inl res.2.1)) :: (qf, .inl (g 0, 16, .inl res.2.2.1)) :: (qv, .inl (g 0, 16, .inl res.2.2.2.1)) :: (qe, .inl (g 0, 16, .inl res.2.2.2.2.1)) :: (qw, .inl (g 0, 16, .inl res.2.2.2.2.2.1)) :: (wX g ad res.2.2.2.2.2.2.1 res.2.2.2.2.2.2.2.1 tl tat tb res.2.2.2.2.2.2.2.2.1 res.2.2.2.2.2.2.2.2.2.1 res.2.2.2.2.2.2.2.2.2.2.1 res.2.2.2.2.2.2.2.2.2.2.2 tn tf vv ov))) args s) (F0 m 719 ls [.int v6]) := by
  obtain ⟨hx, hb, hml, hr, hown, hts, hk⟩ := id X
  intro H locs hP hD hS ls hl
  unfold F_L_acts_719 at hq
  refine lv_istore (lv' := [(18, .int v6), (0, .ref (ad 0)), (1, .ref qn), (2, .ref qf), (3, .ref qv), (4, .ref qe), (5, .ref qw), (7, .int v1), (8, .int v2), (9, .int v3), (10, .int v4), (11, .int v5)]) hx hb dL_acts_719 hl (by decide) rfl (fun ls hl => ?_)
  refine lv_aload_n hx hb dL_acts_721 rfl (lv_at hl 2 rfl) ?_
  refine lv_iload hx hb dL_acts_722 (lv_at hl 7 rfl) ?_
  obtain ⟨hh7, hq⟩ := q_gd hq
  refine va_iald hx hb K.1 hP 0 0 rfl rfl (vp_in_iff.mpr hh7) dL_acts_724 ?_
  refine lv_if_eq (tgt := 733) hx hb dL_acts_725 (by decide) (fun c8 => ?_) (fun c8 => ?_)
  · have hq := q_if_t hq c8
    exact w_L_acts_733 X K hA hs hnc hf0 ad qn qf qv qe qw tl tat tb tn tf vv ov an af av ae aw bd sc cn cf sn sf v1 v2 v3 v6 _ hq _ _ hP hD hS ls (lv_sub hl [1, 2, 7, 8, 9, 0] rfl)
  · have hq := q_if_f hq c8
    refine lv_iload hx hb dL_acts_728 (lv_at hl 11 rfl) ?_
    refine lv_if_eq (tgt := 770) hx hb dL_acts_730 (by decide) (fun c9 => ?_) (fun c9 => ?_)
    · have hq := q_if_t hq c9
      refine lv_aload_n hx hb dL_acts_770 rfl (lv_at hl 2 rfl) ?_
      refine lv_aload_n hx hb dL_acts_771 rfl (lv_at hl 3 rfl) ?_
      refine lv_aload_n hx hb dL_acts_772 rfl (lv_at hl 4 rfl) ?_
      refine lv_aload hx hb dL_acts_773 (lv_at hl 5 rfl) ?_
      refine lv_aload hx hb dL_acts_775 (lv_at hl 6 rfl) ?_
      refine lv_iload hx hb dL_acts_777 (lv_at hl 7 rfl) ?_
      refine lv_iload hx hb dL_acts_779 (lv_at hl 9 rfl) ?_
      obtain ⟨r10, hh11, hq⟩ := q_bd hq
      refine roS (As := [.ref qn, .ref qf, .ref qv, .ref qe, .ref qw, .int v1, .int v3]) (rest := []) X K (k_L_tangent l G g qn qf qv qe qw an af av ae aw v1 v3 _ hh11) hd_L_tangent gL_acts_L_tangent (hP.sub [0, 1, 2, 3, 4] rfl) hl.1 dL_acts_781 rfl rfl ⟨Nat.le_of_ble_eq_true rfl, Nat.le_of_ble_eq_true rfl⟩ rfl (Nat.le_of_ble_eq_true rfl) ⟨Nat.le_of_ble_eq_true rfl, Nat.le_of_ble_eq_true rfl⟩ ?_
      refine lv_istore (lv' := [(19, .int r10), (18, .int v6), (0, .ref (ad 0)), (1, .ref qn), (2, .ref qf), (3, .ref qv), (4, .ref qe), (5, .ref qw), (7, .int v1), (8, .int v2), (9, .int v3), (10, .int v4), (11, .int v5)]) hx hb dL_acts_784 hl (by decide) rfl (fun ls hl => ?_)
      refine lv_aload hx hb dL_acts_786 (lv_at hl 6 rfl) ?_
      refine lv_iload hx hb dL_acts_788 (lv_at hl 11 rfl) ?_
      refine lv_aload hx hb dL_acts_790 (lv_at hl 6 rfl) ?_
      refine lv_iload hx hb dL_acts_792 (lv_at hl 11 rfl) ?_
      obtain ⟨hh12, hq⟩ := q_gd hq
      refine va_iald hx hb K.1 hP 3 0 rfl rfl (vp_in_iff.mpr hh12) dL_acts_794 ?_
      refine lv_bipush (v := 100) hx hb dL_acts_795 (by decide) ?_
      refine lv_idiv hx hb dL_acts_797 (by decide) ?_
      refine lv_bipush (v := 100) hx hb dL_acts_798 (by decide) ?_
      refine lv_imul hx hb dL_acts_800 ?_
      refine lv_bipush (v := 10) hx hb dL_acts_801 (by decide) ?_
      refine lv_iload hx hb dL_acts_803 (lv_at hl 9 rfl) ?_
      refine lv_iconst (v := 3) hx hb dL_acts_805 (by decide) ?_
      refine lv_irem hx hb dL_acts_806 (by decide) ?_
      refine lv_imul hx hb dL_acts_807 ?_
      refine lv_iadd hx hb dL_acts_808 ?_
      obtain ⟨hh13, hq⟩ := q_gd hq
      refine va_iast hx hb K.1 hP hD hS 3 0 rfl rfl (vp_in_iff.mpr hh13) dL_acts_809 (fun H locs hP hD hS => ?_)
      obtain ⟨f14, ef14⟩ : ∃ y, y = upd ae v4.toNatClampNeg ((((ae v4.toNatClampNeg) / 100) * 100) + ((10 : Int32) * (v2 - v2 / 3 * 3))) := ⟨_, rfl⟩
      have hq := q_let hq ef14
      have hP : va_P G vwCl ((qn, .inl (g 0, 2, .inl an)) :: (qf, .inl (g 0, 16, .inl af)) :: (qv, .inl (g 0, 16, .inl av)) :: (qe, .inl (g 0, 16, .inl f14)) :: (qw, .inl (g 0, 16, .inl aw)) :: (wX g ad bd sc tl tat tb cn cf sn sf tn tf vv ov)) H := by rw [ef14]; exact hP
      have hD : va_D A ((qn, .inl (g 0, 2, .inl an)) :: (qf, .inl (g 0, 16, .inl af)) :: (qv, .inl (g 0, 16, .inl av)) :: (qe, .inl (g 0, 16, .inl f14)) :: (qw, .inl (g 0, 16, .inl aw)) :: (wX g ad bd sc tl tat tb cn cf sn sf tn tf vv ov)) := by rw [ef14]; exact hD
      refine lv_aload hx hb dL_acts_810 (lv_at hl 7 rfl) ?_
      refine lv_iload hx hb dL_acts_812 (lv_at hl 11 rfl) ?_
      refine lv_iload hx hb dL_acts_814 (lv_at hl 1 rfl) ?_
      obtain ⟨hh15, hq⟩ := q_gd hq
      refine va_iast hx hb K.1 hP hD hS 4 0 rfl rfl (vp_in_iff.mpr hh15) dL_acts_816 (fun H locs hP hD hS => ?_)
      obtain ⟨f16, ef16⟩ : ∃ y, y = upd aw v4.toNatClampNeg v6 := ⟨_, rfl⟩
      have hq := q_let hq ef16
      have hP : va_P G vwCl ((qn, .inl (g 0, 2, .inl an)) :: (qf, .inl (g 0, 16, .inl af)) :: (qv, .inl (g 0, 16, .inl av)) :: (qe, .inl (g 0, 16, .inl f14)) :: (qw, .inl (g 0, 16, .inl f16)) :: (wX g ad bd sc tl tat tb cn cf sn sf tn tf vv ov)) H := by rw [ef16]; exact hP
      have hD : va_D A ((qn, .inl (g 0, 2, .inl an)) :: (qf, .inl (g 0, 16, .inl af)) :: (qv, .inl (g 0, 16, .inl av)) :: (qe, .inl (g 0, 16, .inl f14)) :: (qw, .inl (g 0, 16, .inl f16)) :: (wX g ad bd sc tl tat tb cn cf sn sf tn tf vv ov)) := by rw [ef16]; exact hD
      refine lv_aload_n hx hb dL_acts_817 rfl (lv_at hl 2 rfl) ?_
      refine lv_iload hx hb dL_acts_818 (lv_at hl 8 rfl) ?_
      refine lv_iload hx hb dL_acts_820 (lv_at hl 10 rfl) ?_
      refine lv_iload hx hb dL_acts_822 (lv_at hl 9 rfl) ?_
      refine lv_iconst (v := 3) hx hb dL_acts_824 (by decide) ?_
      refine lv_irem hx hb dL_acts_825 (by decide) ?_
      refine lv_iload hx hb dL_acts_826 (lv_at hl 1 rfl) ?_
      obtain ⟨⟨r17, y18, y19, y20, y21, y22⟩, hh23, hq⟩ := q_bd hq
      refine lxS (As := [.ref (ad 0), .int v1, .int v3, .int (v2 - v2 / 3 * 3), .int v6]) (rest := []) (wr := [(qn, .inl (g 0, 2, .inl an)), (qf, .inl (g 0, 16, .inl af)), (qv, .inl (g 0, 16, .inl av)), (qe, .inl (g 0, 16, .inl f14)), (qw, .inl (g 0, 16, .inl f16))]) X K hs hnc (k_L_leans l hf0 G g ad bd sc tl tat tb cn cf sn sf tn tf vv ov v1 v3 (v2 - v2 / 3 * 3) v6 _ hh23) hd_L_leans gL_acts_L_leans hP hD hS hA hl.1 dL_acts_828 rfl rfl ⟨Nat.le_of_ble_eq_true rfl, Nat.le_of_ble_eq_true rfl⟩ rfl (Nat.le_of_ble_eq_true rfl) ⟨Nat.le_of_ble_eq_true rfl, Nat.le_of_ble_eq_true rfl⟩ (fun w1 H locs hp hP hD hS => ?_)
      have hp : w1 = (wX g ad y18 y19 tl tat tb cn y20 y21 y22 tn tf vv ov) := hp
      subst hp
      have hP : va_P G vwCl ((qn, .inl (g 0, 2, .inl an)) :: (qf, .inl (g 0, 16, .inl af)) :: (qv, .inl (g 0, 16, .inl av)) :: (qe, .inl (g 0, 16, .inl f14)) :: (qw, .inl (g 0, 16, .inl f16)) :: (wX g ad y18 y19 tl tat tb cn y20 y21 y22 tn tf vv ov)) H := hP
      have hD : va_D A ((qn, .inl (g 0, 2, .inl an)) :: (qf, .inl (g 0, 16, .inl af)) :: (qv, .inl (g 0, 16, .inl av)) :: (qe, .inl (g 0, 16, .inl f14)) :: (qw, .inl (g 0, 16, .inl f16)) :: (wX g ad y18 y19 tl tat tb cn y20 y21 y22 tn tf vv ov)) := hD
      refine lv_iload hx hb dL_acts_831 (lv_at hl 0 rfl) ?_
      refine lv_icmp_ne (tgt := 840) hx hb dL_acts_833 (by decide) (fun c25 => ?_) (fun c25 => ?_)
      · have hq := q_if_f hq c25
        refine lv_iconst (v := 0) hx hb dL_acts_840 (by decide) ?_
        obtain rfl := q_rt hq
        exact lx_zret hx hb hr nz_0 hk rfl hP hD hS dL_acts_841
      · have hq := q_if_t hq c25
        refine lv_iconst (v := 1) hx hb dL_acts_836 (by decide) ?_
        refine lv_goto (tgt := 841) hx hb dL_acts_837 (by decide) ?_
        obtain rfl := q_rt hq
        exact lx_zret hx hb hr nz_1 hk rfl hP hD hS dL_acts_841
    · have hq := q_if_f hq c9
      exact w_L_acts_733 X K hA hs hnc hf0 ad qn qf qv qe qw tl tat tb tn tf vv ov an af av ae aw bd sc cn cf sn sf v1 v2 v3 v6 _ hq _ _ hP hD hS ls (lv_sub hl [1, 2, 7, 8, 9, 0] rfl)
def F_L_acts_692 (an : Nat → Int32) (af : Nat → Int32) (av : Nat → Int32) (ae : Nat → Int32) (aw : Nat → Int32) (bd : Nat → Nat → Nat) (sc : Int32) (cn : Nat → Int32) (cf : Nat → Nat → Int32) (sn : Nat → Nat → Int32) (sf : Nat → Nat → Nat → Int32) (v1 : Int32) (v2 : Int32) (v3 : Int32) (v4 : Int32) (v5 : Int32) : Option (Int32 × (Nat → Int32) × (Nat → Int32) × (Nat → Int32) × (Nat → Int32) × (Nat → Int32) × (Nat → Nat → Nat) × Int32 × (Nat → Int32) × (Nat → Nat → Int32) × (Nat → Nat → Int32) × (Nat → Nat → Nat → Int32)) := if (v2 - v2 / 5 * 5) = 0 then (F_L_acts_719 an af av ae aw bd sc cn cf sn sf v1 v2 v3 v4 v5 ((v2 * 2) - 99999)) else (F_L_acts_719 an af av ae aw bd sc cn cf sn sf v1 v2 v3 v4 v5 ((v2 - v2 / 4001 * 4001) - 2000))
set_option maxHeartbeats 4000000 in
set_option maxRecDepth 100000 in
theorem w_L_acts_692 {p : Program} {l : Launch} {e : Env} {s : State} {m : MethodId} {args : Array Value} {below : List Frame} {meth : Method} {c : Code} {G : va_G} {g : Nat → ClassId} (X : cx p s m args meth c cL_acts 29 (some .boolean) RL wsL_acts) (K : amb G g s) {A : Nat → Prop} (hA : ∀ q : Nat, s.heap.size ≤ q → A q) (hs : exS A s s.heap) (hnc : ncs s) (hf0 : l.stackTraces = false) (ad : Nat → Nat) (qn qf qv qe qw : Nat) (tl : Int32) (tat : Int32) (tb : Nat → Int32) (tn : Int32) (tf : Nat → Int32) (vv : Nat → Int32) (ov : Nat → Int32) (an : Nat → Int32) (af : Nat → Int32) (av : Nat → Int32) (ae : Nat → Int32) (aw : Nat → Int32) (bd : Nat → Nat → Nat) (sc : Int32) (cn : Nat → Int32) (cf : Nat → Nat → Int32) (sn : Nat → Nat → Int32) (sf : Nat → Nat → Nat → Int32) (v1 : Int32) (v2 : Int32) (v3 : Int32) (v4 : Int32) (v5 : Int32) (res : Int32 × (Nat → Int32) × (Nat → Int32) × (Nat → Int32) × (Nat → Int32) × (Nat → Int32) × (Nat → Nat → Nat) × Int32 × (Nat → Int32) × (Nat → Nat → Int32) × (Nat → Nat → Int32) × (Nat → Nat → Nat → Int32)) (hq : F_L_acts_692 an af av ae aw bd sc cn cf sn sf v1 v2 v3 v4 v5 = some res) : ∀ (H : Heap) (locs : List Loc), va_P G vwCl ((qn, .inl (g 0, 2, .inl an)) :: (qf, .inl (g 0, 16, .inl af)) :: (qv, .inl (g 0, 16, .inl av)) :: (qe, .inl (g 0, 16, .inl ae)) :: (qw, .inl (g 0, 16, .inl aw)) :: (wX g ad bd sc tl tat tb cn cf sn sf tn tf vv ov)) H → va_D A ((qn, .inl (g 0, 2, .inl an)) :: (qf, .inl (g 0, 16, .inl af)) :: (qv, .inl (g 0, 16, .inl av)) :: (qe, .inl (g 0, 16, .inl ae)) :: (qw, .inl (g 0, 16, .inl aw)) :: (wX g ad bd sc tl tat tb cn cf sn sf tn tf vv ov)) → va_S A s.heap H locs → ∀ (ls : Array Slot), lv_has ls 29 [(0, .ref (ad 0)), (1, .ref qn), (2, .ref qf), (3, .ref qv), (4, .ref qe), (5, .ref qw), (7, .int v1), (8, .int v2), (9, .int v3), (10, .int v4), (11, .int v5)] → W p l e (rmX 10 183) s m args below meth c H locs 0 0 (lxM G A below (some (.int res.1)) (fun w => w = ((qn, .inl (g 0, 2, .inl res.2.1)) :: (qf, .inl (g 0, 16, .inl res.2.2.1)) :: (qv, .inl (g 0, 16, .inl res.2.2.2.1)) :: (qe, .inl (g 0, 16, .inl res.2.2.2.2.1)) :: (qw, .inl (g 0, 16, .inl res.2.2.2.2.2.1)) :: (wX g ad res.2.2.2.2.2.2.1 res.2.2.2.2.2.2.2.1 tl tat tb res.2.2.2.2.2.2.2.2.1 res.2.2.2.2.2.2.2.2.2.1 res.2.2.2.2.2.2.2.2.2.2.1 res.2.2.2.2.2.2.2.2.2.2.2 tn tf vv ov))) args s) (F0 m 692 ls []) := by
  obtain ⟨hx, hb, hml, hr, hown, hts, hk⟩ := id X
  intro H locs hP hD hS ls hl
  unfold F_L_acts_692 at hq
  refine lv_iload hx hb dL_acts_692 (lv_at hl 7 rfl) ?_
  refine lv_iconst (v := 5) hx hb dL_acts_694 (by decide) ?_
  refine lv_irem hx hb dL_acts_695 (by decide) ?_
  refine lv_if_ne (tgt := 709) hx hb dL_acts_696 (by decide) (fun c6 => ?_) (fun c6 => ?_)
  · have hq := q_if_f hq c6
    refine lv_iload hx hb dL_acts_709 (lv_at hl 7 rfl) ?_
    refine lv_sipush (v := 4001) hx hb dL_acts_711 (by decide) ?_
    refine lv_irem hx hb dL_acts_714 (by decide) ?_
    refine lv_sipush (v := 2000) hx hb dL_acts_715 (by decide) ?_
    refine lv_isub hx hb dL_acts_718 ?_
    exact w_L_acts_719 X K hA hs hnc hf0 ad qn qf qv qe qw tl tat tb tn tf vv ov an af av ae aw bd sc cn cf sn sf v1 v2 v3 v4 v5 ((v2 - v2 / 4001 * 4001) - 2000) _ hq _ _ hP hD hS ls (lv_sub hl [0, 1, 2, 3, 4, 5, 6, 7, 8, 9, 10] rfl)
  · have hq := q_if_t hq c6
    refine lv_iload hx hb dL_acts_699 (lv_at hl 7 rfl) ?_
    refine lv_iconst (v := 2) hx hb dL_acts_701 (by decide) ?_
    refine lv_imul hx hb dL_acts_702 ?_
    refine lv_ldc (v := 99999) hx hb hown (hts _ (List.mem_of_getElem? (i := 5) rfl)) dL_acts_703 ?_
    refine lv_isub hx hb dL_acts_705 ?_
    refine lv_goto (tgt := 719) hx hb dL_acts_706 (by decide) ?_
    exact w_L_acts_719 X K hA hs hnc hf0 ad qn qf qv qe qw tl tat tb tn tf vv ov an af av ae aw bd sc cn cf sn sf v1 v2 v3 v4 v5 ((v2 * 2) - 99999) _ hq _ _ hP hD hS ls (lv_sub hl [0, 1, 2, 3, 4, 5, 6, 7, 8, 9, 10] rfl)
def F_L_acts_896 (an : Nat → Int32) (af : Nat → Int32) (av : Nat → Int32) (ae : Nat → Int32) (aw : Nat → Int32) (bd : Nat → Nat → Nat) (sc : Int32) (cn : Nat → Int32) (cf : Nat → Nat → Int32) (sn : Nat → Nat → Int32) (sf : Nat → Nat → Nat → Int32) (v1 : Int32) (v2 : Int32) (v3 : Int32) (v4 : Int32) (v5 : Int32) (v6 : Int32) (v7 : Int32) : Option (Int32 × (Nat → Int32) × (Nat → Int32) × (Nat → Int32) × (Nat → Int32) × (Nat → Int32) × (Nat → Nat → Nat) × Int32 × (Nat → Int32) × (Nat → Nat → Int32) × (Nat → Nat → Int32) × (Nat → Nat → Nat → Int32)) := vgd (ix (v5) 16) <| vlet (upd ae v5.toNatClampNeg (v6 + (v7 - v4))) fun f9 => if (v2 - v2 / 4 * 4) = 0 then ((F_L_locks bd sc cn cf sn sf v1 v3 1).bind fun o27 => if o27.1 = v4 then (some (1, an, af, av, f9, aw, o27.2.1, o27.2.2.1, cn, o27.2.2.2.1, o27.2.2.2.2.1, o27.2.2.2.2.2)) else (some (0, an, af, av, f9, aw, o27.2.1, o27.2.2.1, cn, o27.2.2.2.1, o27.2.2.2.2.1, o27.2.2.2.2.2))) else ((F_L_locks bd sc cn cf sn sf v1 v3 0).bind fun o18 => if o18.1 = v4 then (some (1, an, af, av, f9, aw, o18.2.1, o18.2.2.1, cn, o18.2.2.2.1, o18.2.2.2.2.1, o18.2.2.2.2.2)) else (some (0, an, af, av, f9, aw, o18.2.1, o18.2.2.1, cn, o18.2.2.2.1, o18.2.2.2.2.1, o18.2.2.2.2.2)))
set_option maxHeartbeats 4000000 in
set_option maxRecDepth 100000 in
theorem w_L_acts_896 {p : Program} {l : Launch} {e : Env} {s : State} {m : MethodId} {args : Array Value} {below : List Frame} {meth : Method} {c : Code} {G : va_G} {g : Nat → ClassId} (X : cx p s m args meth c cL_acts 29 (some .boolean) RL wsL_acts) (K : amb G g s) {A : Nat → Prop} (hA : ∀ q : Nat, s.heap.size ≤ q → A q) (hs : exS A s s.heap) (hnc : ncs s) (hf0 : l.stackTraces = false) (ad : Nat → Nat) (qn qf qv qe qw : Nat) (tl : Int32) (tat : Int32) (tb : Nat → Int32) (tn : Int32) (tf : Nat → Int32) (vv : Nat → Int32) (ov : Nat → Int32) (an : Nat → Int32) (af : Nat → Int32) (av : Nat → Int32) (ae : Nat → Int32) (aw : Nat → Int32) (bd : Nat → Nat → Nat) (sc : Int32) (cn : Nat → Int32) (cf : Nat → Nat → Int32) (sn : Nat → Nat → Int32) (sf : Nat → Nat → Nat → Int32) (v1 : Int32) (v2 : Int32) (v3 : Int32) (v4 : Int32) (v5 : Int32) (v6 : Int32) (v7 : Int32) (res : Int32 × (Nat → Int32) × (Nat → Int32) × (Nat → Int32) × (Nat → Int32) × (Nat → Int32) × (Nat → Nat → Nat) × Int32 × (Nat → Int32) × (Nat → Nat → Int32) × (Nat → Nat → Int32) × (Nat → Nat → Nat → Int32)) (hq : F_L_acts_896 an af av ae aw bd sc cn cf sn sf v1 v2 v3 v4 v5 v6 v7 = some res) : ∀ (H : Heap) (locs : List Loc), va_P G vwCl ((qn, .inl (g 0, 2, .inl an)) :: (qf, .inl (g 0, 16, .inl af)) :: (qv, .inl (g 0, 16, .inl av)) :: (qe, .inl (g 0, 16, .inl ae)) :: (qw, .inl (g 0, 16, .inl aw)) :: (wX g ad bd sc tl tat tb cn cf sn sf tn tf vv ov)) H → va_D A ((qn, .inl (g 0, 2, .inl an)) :: (qf, .inl (g 0, 16, .inl af)) :: (qv, .inl (g 0, 16, .inl av)) :: (qe, .inl (g 0, 16, .inl ae)) :: (qw, .inl (g 0, 16, .inl aw)) :: (wX g ad bd sc tl tat tb cn cf sn sf tn tf vv ov)) → va_S A s.heap H locs → ∀ (ls : Array Slot), lv_has ls 29 [(0, .ref (ad 0)), (7, .int v1), (8, .int v2), (9, .int v3), (20, .int v4)] → W p l e (rmX 10 183) s m args below meth c H locs 0 0 (lxM G A below (some (.int res.1)) (fun w => w = ((qn, .inl (g 0, 2, .inl res.2.1)) :: (qf, .inl (g 0, 16, .inl res.2.2.1)) :: (qv, .inl (g 0, 16, .inl res.2.2.2.1)) :: (qe, .inl (g 0, 16, .inl res.2.2.2.2.1)) :: (qw, .inl (g 0, 16, .inl res.2.2.2.2.2.1)) :: (wX g ad res.2.2.2.2.2.2.1 res.2.2.2.2.2.2.2.1 tl tat tb res.2.2.2.2.2.2.2.2.1 res.2.2.2.2.2.2.2.2.2.1 res.2.2.2.2.2.2.2.2.2.2.1 res.2.2.2.2.2.2.2.2.2.2.2 tn tf vv ov))) args s) (F0 m 896 ls [.int v7, .int v6, .int v5, .ref qe]) := by
  obtain ⟨hx, hb, hml, hr, hown, hts, hk⟩ := id X
  intro H locs hP hD hS ls hl
  unfold F_L_acts_896 at hq
  refine lv_iload hx hb dL_acts_896 (lv_at hl 4 rfl) ?_
  refine lv_isub hx hb dL_acts_898 ?_
  refine lv_iadd hx hb dL_acts_899 ?_
  obtain ⟨hh8, hq⟩ := q_gd hq
  refine va_iast hx hb K.1 hP hD hS 3 0 rfl rfl (vp_in_iff.mpr hh8) dL_acts_900 (fun H locs hP hD hS => ?_)
  obtain ⟨f9, ef9⟩ : ∃ y, y = upd ae v5.toNatClampNeg (v6 + (v7 - v4)) := ⟨_, rfl⟩
  have hq := q_let hq ef9
  have hP : va_P G vwCl ((qn, .inl (g 0, 2, .inl an)) :: (qf, .inl (g 0, 16, .inl af)) :: (qv, .inl (g 0, 16, .inl av)) :: (qe, .inl (g 0, 16, .inl f9)) :: (qw, .inl (g 0, 16, .inl aw)) :: (wX g ad bd sc tl tat tb cn cf sn sf tn tf vv ov)) H := by rw [ef9]; exact hP
  have hD : va_D A ((qn, .inl (g 0, 2, .inl an)) :: (qf, .inl (g 0, 16, .inl af)) :: (qv, .inl (g 0, 16, .inl av)) :: (qe, .inl (g 0, 16, .inl f9)) :: (qw, .inl (g 0, 16, .inl aw)) :: (wX g ad bd sc tl tat tb cn cf sn sf tn tf vv ov)) := by rw [ef9]; exact hD
  refine lv_aload_n hx hb dL_acts_901 rfl (lv_at hl 0 rfl) ?_
  refine lv_iload hx hb dL_acts_902 (lv_at hl 1 rfl) ?_
  refine lv_iload hx hb dL_acts_904 (lv_at hl 3 rfl) ?_
  refine lv_iload hx hb dL_acts_906 (lv_at hl 2 rfl) ?_
  refine lv_iconst (v := 4) hx hb dL_acts_908 (by decide) ?_
  refine lv_irem hx hb dL_acts_909 (by decide) ?_
  refine lv_if_ne (tgt := 917) hx hb dL_acts_910 (by decide) (fun c10 => ?_) (fun c10 => ?_)
  · have hq := q_if_f hq c10
    refine lv_iconst (v := 0) hx hb dL_acts_917 (by decide) ?_
    obtain ⟨⟨r11, y12, y13, y14, y15, y16⟩, hh17, hq⟩ := q_bd hq
    refine lxS (As := [.ref (ad 0), .int v1, .int v3, .int 0]) (rest := []) (wr := [(qn, .inl (g 0, 2, .inl an)), (qf, .inl (g 0, 16, .inl af)), (qv, .inl (g 0, 16, .inl av)), (qe, .inl (g 0, 16, .inl f9)), (qw, .inl (g 0, 16, .inl aw))]) X K hs hnc (k_L_locks l hf0 G g ad bd sc tl tat tb cn cf sn sf tn tf vv ov v1 v3 0 _ hh17) hd_L_locks gL_acts_L_locks hP hD hS hA hl.1 dL_acts_918 rfl rfl ⟨Nat.le_of_ble_eq_true rfl, Nat.le_of_ble_eq_true rfl⟩ rfl (Nat.le_of_ble_eq_true rfl) ⟨Nat.le_of_ble_eq_true rfl, Nat.le_of_ble_eq_true rfl⟩ (fun w1 H locs hp hP hD hS => ?_)
    have hp : w1 = (wX g ad y12 y13 tl tat tb cn y14 y15 y16 tn tf vv ov) := hp
    subst hp
    have hP : va_P G vwCl ((qn, .inl (g 0, 2, .inl an)) :: (qf, .inl (g 0, 16, .inl af)) :: (qv, .inl (g 0, 16, .inl av)) :: (qe, .inl (g 0, 16, .inl f9)) :: (qw, .inl (g 0, 16, .inl aw)) :: (wX g ad y12 y13 tl tat tb cn y14 y15 y16 tn tf vv ov)) H := hP
    have hD : va_D A ((qn, .inl (g 0, 2, .inl an)) :: (qf, .inl (g 0, 16, .inl af)) :: (qv, .inl (g 0, 16, .inl av)) :: (qe, .inl (g 0, 16, .inl f9)) :: (qw, .inl (g 0, 16, .inl aw)) :: (wX g ad y12 y13 tl tat tb cn y14 y15 y16 tn tf vv ov)) := hD
    refine lv_iload hx hb dL_acts_921 (lv_at hl 4 rfl) ?_
    refine lv_icmp_ne (tgt := 930) hx hb dL_acts_923 (by decide) (fun c19 => ?_) (fun c19 => ?_)
    · have hq := q_if_f hq c19
      refine lv_iconst (v := 0) hx hb dL_acts_930 (by decide) ?_
      obtain rfl := q_rt hq
      exact lx_zret hx hb hr nz_0 hk rfl hP hD hS dL_acts_931
    · have hq := q_if_t hq c19
      refine lv_iconst (v := 1) hx hb dL_acts_926 (by decide) ?_
      refine lv_goto (tgt := 931) hx hb dL_acts_927 (by decide) ?_
      obtain rfl := q_rt hq
      exact lx_zret hx hb hr nz_1 hk rfl hP hD hS dL_acts_931
  · have hq := q_if_t hq c10
    refine lv_iconst (v := 1) hx hb dL_acts_913 (by decide) ?_
    refine lv_goto (tgt := 918) hx hb dL_acts_914 (by decide) ?_
    obtain ⟨⟨r20, y21, y22, y23, y24, y25⟩, hh26, hq⟩ := q_bd hq
    refine lxS (As := [.ref (ad 0), .int v1, .int v3, .int 1]) (rest := []) (wr := [(qn, .inl (g 0, 2, .inl an)), (qf, .inl (g 0, 16, .inl af)), (qv, .inl (g 0, 16, .inl av)), (qe, .inl (g 0, 16, .inl f9)), (qw, .inl (g 0, 16, .inl aw))]) X K hs hnc (k_L_locks l hf0 G g ad bd sc tl tat tb cn cf sn sf tn tf vv ov v1 v3 1 _ hh26) hd_L_locks gL_acts_L_locks hP hD hS hA hl.1 dL_acts_918 rfl rfl ⟨Nat.le_of_ble_eq_true rfl, Nat.le_of_ble_eq_true rfl⟩ rfl (Nat.le_of_ble_eq_true rfl) ⟨Nat.le_of_ble_eq_true rfl, Nat.le_of_ble_eq_true rfl⟩ (fun w1 H locs hp hP hD hS => ?_)
    have hp : w1 = (wX g ad y21 y22 tl tat tb cn y23 y24 y25 tn tf vv ov) := hp
    subst hp
    have hP : va_P G vwCl ((qn, .inl (g 0, 2, .inl an)) :: (qf, .inl (g 0, 16, .inl af)) :: (qv, .inl (g 0, 16, .inl av)) :: (qe, .inl (g 0, 16, .inl f9)) :: (qw, .inl (g 0, 16, .inl aw)) :: (wX g ad y21 y22 tl tat tb cn y23 y24 y25 tn tf vv ov)) H := hP
    have hD : va_D A ((qn, .inl (g 0, 2, .inl an)) :: (qf, .inl (g 0, 16, .inl af)) :: (qv, .inl (g 0, 16, .inl av)) :: (qe, .inl (g 0, 16, .inl f9)) :: (qw, .inl (g 0, 16, .inl aw)) :: (wX g ad y21 y22 tl tat tb cn y23 y24 y25 tn tf vv ov)) := hD
    refine lv_iload hx hb dL_acts_921 (lv_at hl 4 rfl) ?_
    refine lv_icmp_ne (tgt := 930) hx hb dL_acts_923 (by decide) (fun c28 => ?_) (fun c28 => ?_)
    · have hq := q_if_f hq c28
      refine lv_iconst (v := 0) hx hb dL_acts_930 (by decide) ?_
      obtain rfl := q_rt hq
      exact lx_zret hx hb hr nz_0 hk rfl hP hD hS dL_acts_931
    · have hq := q_if_t hq c28
      refine lv_iconst (v := 1) hx hb dL_acts_926 (by decide) ?_
      refine lv_goto (tgt := 931) hx hb dL_acts_927 (by decide) ?_
      obtain rfl := q_rt hq
      exact lx_zret hx hb hr nz_1 hk rfl hP hD hS dL_acts_931
def F_L_acts_842 (an : Nat → Int32) (af : Nat → Int32) (av : Nat → Int32) (ae : Nat → Int32) (aw : Nat → Int32) (bd : Nat → Nat → Nat) (sc : Int32) (cn : Nat → Int32) (cf : Nat → Nat → Int32) (sn : Nat → Nat → Int32) (sf : Nat → Nat → Nat → Int32) (v1 : Int32) (v2 : Int32) (v3 : Int32) (v4 : Int32) : Option (Int32 × (Nat → Int32) × (Nat → Int32) × (Nat → Int32) × (Nat → Int32) × (Nat → Int32) × (Nat → Nat → Nat) × Int32 × (Nat → Int32) × (Nat → Nat → Int32) × (Nat → Nat → Int32) × (Nat → Nat → Nat → Int32)) := vgd (ix (v1) 2) <| if (an v1.toNatClampNeg) = 0 then ((F_L_locks bd sc cn cf sn sf v1 0 1).bind fun o18 => if o18.1 = (-10000001) then (some (1, an, af, av, ae, aw, o18.2.1, o18.2.2.1, cn, o18.2.2.2.1, o18.2.2.2.2.1, o18.2.2.2.2.2)) else (some (0, an, af, av, ae, aw, o18.2.1, o18.2.2.1, cn, o18.2.2.2.1, o18.2.2.2.2.1, o18.2.2.2.2.2))) else (vgd (ix (v4) 16) <| vlet ((ae v4.toNatClampNeg) - (ae v4.toNatClampNeg) / 10 * 10) fun x8 => vgd (ix (v4) 16) <| if (v2 - v2 / 4 * 4) = 0 then (F_L_acts_896 an af av ae aw bd sc cn cf sn sf v1 v2 v3 x8 v4 (ae v4.toNatClampNeg) 1) else (F_L_acts_896 an af av ae aw bd sc cn cf sn sf v1 v2 v3 x8 v4 (ae v4.toNatClampNeg) 0))
set_option maxHeartbeats 4000000 in
set_option maxRecDepth 100000 in
theorem w_L_acts_842 {p : Program} {l : Launch} {e : Env} {s : State} {m : MethodId} {args : Array Value} {below : List Frame} {meth : Method} {c : Code} {G : va_G} {g : Nat → ClassId} (X : cx p s m args meth c cL_acts 29 (some .boolean) RL wsL_acts) (K : amb G g s) {A : Nat → Prop} (hA : ∀ q : Nat, s.heap.size ≤ q → A q) (hs : exS A s s.heap) (hnc : ncs s) (hf0 : l.stackTraces = false) (ad : Nat → Nat) (qn qf qv qe qw : Nat) (tl : Int32) (tat : Int32) (tb : Nat → Int32) (tn : Int32) (tf : Nat → Int32) (vv : Nat → Int32) (ov : Nat → Int32) (an : Nat → Int32) (af : Nat → Int32) (av : Nat → Int32) (ae : Nat → Int32) (aw : Nat → Int32) (bd : Nat → Nat → Nat) (sc : Int32) (cn : Nat → Int32) (cf : Nat → Nat → Int32) (sn : Nat → Nat → Int32) (sf : Nat → Nat → Nat → Int32) (v1 : Int32) (v2 : Int32) (v3 : Int32) (v4 : Int32) (res : Int32 × (Nat → Int32) × (Nat → Int32) × (Nat → Int32) × (Nat → Int32) × (Nat → Int32) × (Nat → Nat → Nat) × Int32 × (Nat → Int32) × (Nat → Nat → Int32) × (Nat → Nat → Int32) × (Nat → Nat → Nat → Int32)) (hq : F_L_acts_842 an af av ae aw bd sc cn cf sn sf v1 v2 v3 v4 = some res) : ∀ (H : Heap) (locs : List Loc), va_P G vwCl ((qn, .inl (g 0, 2, .inl an)) :: (qf, .inl (g 0, 16, .inl af)) :: (qv, .inl (g 0, 16, .inl av)) :: (qe, .inl (g 0, 16, .inl ae)) :: (qw, .inl (g 0, 16, .inl aw)) :: (wX g ad bd sc tl tat tb cn cf sn sf tn tf vv ov)) H → va_D A ((qn, .inl (g 0, 2, .inl an)) :: (qf, .inl (g 0, 16, .inl af)) :: (qv, .inl (g 0, 16, .inl av)) :: (qe, .inl (g 0, 16, .inl ae)) :: (qw, .inl (g 0, 16, .inl aw)) :: (wX g ad bd sc tl tat tb cn cf sn sf tn tf vv ov)) → va_S A s.heap H locs → ∀ (ls : Array Slot), lv_has ls 29 [(0, .ref (ad 0)), (1, .ref qn), (4, .ref qe), (7, .int v1), (8, .int v2), (9, .int v3), (10, .int v4)] → W p l e (rmX 10 183) s m args below meth c H locs 0 0 (lxM G A below (some (.int res.1)) (fun w => w = ((qn, .inl (g 0, 2, .inl res.2.1)) :: (qf, .inl (g 0, 16, .inl res.2.2.1)) :: (qv, .inl (g 0, 16, .inl res.2.2.2.1)) :: (qe, .inl (g 0, 16, .inl res.2.2.2.2.1)) :: (qw, .inl (g 0, 16, .inl res.2.2.2.2.2.1)) :: (wX g ad res.2.2.2.2.2.2.1 res.2.2.2.2.2.2.2.1 tl tat tb res.2.2.2.2.2.2.2.2.1 res.2.2.2.2.2.2.2.2.2.1 res.2.2.2.2.2.2.2.2.2.2.1 res.2.2.2.2.2.2.2.2.2.2.2 tn tf vv ov))) args s) (F0 m 842 ls []) := by
  obtain ⟨hx, hb, hml, hr, hown, hts, hk⟩ := id X
  intro H locs hP hD hS ls hl
  unfold F_L_acts_842 at hq
  refine lv_aload_n hx hb dL_acts_842 rfl (lv_at hl 1 rfl) ?_
  refine lv_iload hx hb dL_acts_843 (lv_at hl 3 rfl) ?_
  obtain ⟨hh5, hq⟩ := q_gd hq
  refine va_iald hx hb K.1 hP 0 0 rfl rfl (vp_in_iff.mpr hh5) dL_acts_845 ?_
  refine lv_if_ne (tgt := 868) hx hb dL_acts_846 (by decide) (fun c6 => ?_) (fun c6 => ?_)
  · have hq := q_if_f hq c6
    refine lv_aload hx hb dL_acts_868 (lv_at hl 2 rfl) ?_
    refine lv_iload hx hb dL_acts_870 (lv_at hl 6 rfl) ?_
    obtain ⟨hh7, hq⟩ := q_gd hq
    refine va_iald hx hb K.1 hP 3 0 rfl rfl (vp_in_iff.mpr hh7) dL_acts_872 ?_
    refine lv_bipush (v := 10) hx hb dL_acts_873 (by decide) ?_
    refine lv_irem hx hb dL_acts_875 (by decide) ?_
    refine lv_topi (fun x8 ex8 => ?_)
    have hq := q_let hq ex8
    refine lv_istore (lv' := [(20, .int x8), (0, .ref (ad 0)), (1, .ref qn), (4, .ref qe), (7, .int v1), (8, .int v2), (9, .int v3), (10, .int v4)]) hx hb dL_acts_876 hl (by decide) rfl (fun ls hl => ?_)
    refine lv_aload hx hb dL_acts_878 (lv_at hl 3 rfl) ?_
    refine lv_iload hx hb dL_acts_880 (lv_at hl 7 rfl) ?_
    refine lv_dup2_11 hx hb dL_acts_882 rfl rfl ?_
    obtain ⟨hh9, hq⟩ := q_gd hq
    refine va_iald hx hb K.1 hP 3 0 rfl rfl (vp_in_iff.mpr hh9) dL_acts_883 ?_
    refine lv_iload hx hb dL_acts_884 (lv_at hl 5 rfl) ?_
    refine lv_iconst (v := 4) hx hb dL_acts_886 (by decide) ?_
    refine lv_irem hx hb dL_acts_887 (by decide) ?_
    refine lv_if_ne (tgt := 895) hx hb dL_acts_888 (by decide) (fun c10 => ?_) (fun c10 => ?_)
    · have hq := q_if_f hq c10
      refine lv_iconst (v := 0) hx hb dL_acts_895 (by decide) ?_
      exact w_L_acts_896 X K hA hs hnc hf0 ad qn qf qv qe qw tl tat tb tn tf vv ov an af av ae aw bd sc cn cf sn sf v1 v2 v3 x8 v4 (ae v4.toNatClampNeg) 0 _ hq _ _ hP hD hS ls (lv_sub hl [1, 4, 5, 6, 0] rfl)
    · have hq := q_if_t hq c10
      refine lv_iconst (v := 1) hx hb dL_acts_891 (by decide) ?_
      refine lv_goto (tgt := 896) hx hb dL_acts_892 (by decide) ?_
      exact w_L_acts_896 X K hA hs hnc hf0 ad qn qf qv qe qw tl tat tb tn tf vv ov an af av ae aw bd sc cn cf sn sf v1 v2 v3 x8 v4 (ae v4.toNatClampNeg) 1 _ hq _ _ hP hD hS ls (lv_sub hl [1, 4, 5, 6, 0] rfl)
  · have hq := q_if_t hq c6
    refine lv_aload_n hx hb dL_acts_849 rfl (lv_at hl 0 rfl) ?_
    refine lv_iload hx hb dL_acts_850 (lv_at hl 3 rfl) ?_
    refine lv_iconst (v := 0) hx hb dL_acts_852 (by decide) ?_
    refine lv_iconst (v := 1) hx hb dL_acts_853 (by decide) ?_
    obtain ⟨⟨r11, y12, y13, y14, y15, y16⟩, hh17, hq⟩ := q_bd hq
    refine lxS (As := [.ref (ad 0), .int v1, .int 0, .int 1]) (rest := []) (wr := [(qn, .inl (g 0, 2, .inl an)), (qf, .inl (g 0, 16, .inl af)), (qv, .inl (g 0, 16, .inl av)), (qe, .inl (g 0, 16, .inl ae)), (qw, .inl (g 0, 16, .inl aw))]) X K hs hnc (k_L_locks l hf0 G g ad bd sc tl tat tb cn cf sn sf tn tf vv ov v1 0 1 _ hh17) hd_L_locks gL_acts_L_locks hP hD hS hA hl.1 dL_acts_854 rfl rfl ⟨Nat.le_of_ble_eq_true rfl, Nat.le_of_ble_eq_true rfl⟩ rfl (Nat.le_of_ble_eq_true rfl) ⟨Nat.le_of_ble_eq_true rfl, Nat.le_of_ble_eq_true rfl⟩ (fun w1 H locs hp hP hD hS => ?_)
    have hp : w1 = (wX g ad y12 y13 tl tat tb cn y14 y15 y16 tn tf vv ov) := hp
    subst hp
    have hP : va_P G vwCl ((qn, .inl (g 0, 2, .inl an)) :: (qf, .inl (g 0, 16, .inl af)) :: (qv, .inl (g 0, 16, .inl av)) :: (qe, .inl (g 0, 16, .inl ae)) :: (qw, .inl (g 0, 16, .inl aw)) :: (wX g ad y12 y13 tl tat tb cn y14 y15 y16 tn tf vv ov)) H := hP
    have hD : va_D A ((qn, .inl (g 0, 2, .inl an)) :: (qf, .inl (g 0, 16, .inl af)) :: (qv, .inl (g 0, 16, .inl av)) :: (qe, .inl (g 0, 16, .inl ae)) :: (qw, .inl (g 0, 16, .inl aw)) :: (wX g ad y12 y13 tl tat tb cn y14 y15 y16 tn tf vv ov)) := hD
    refine lv_ldc (v := (-10000001)) hx hb hown (hts _ (List.mem_of_getElem? (i := 4) rfl)) dL_acts_857 ?_
    refine lv_icmp_ne (tgt := 866) hx hb dL_acts_859 (by decide) (fun c19 => ?_) (fun c19 => ?_)
    · have hq := q_if_f hq c19
      refine lv_iconst (v := 0) hx hb dL_acts_866 (by decide) ?_
      obtain rfl := q_rt hq
      exact lx_zret hx hb hr nz_0 hk rfl hP hD hS dL_acts_867
    · have hq := q_if_t hq c19
      refine lv_iconst (v := 1) hx hb dL_acts_862 (by decide) ?_
      refine lv_goto (tgt := 867) hx hb dL_acts_863 (by decide) ?_
      obtain rfl := q_rt hq
      exact lx_zret hx hb hr nz_1 hk rfl hP hD hS dL_acts_867
def F_L_acts_1045 (an : Nat → Int32) (av : Nat → Int32) (ae : Nat → Int32) (aw : Nat → Int32) (bd : Nat → Nat → Nat) (sc : Int32) (cn : Nat → Int32) (cf : Nat → Nat → Int32) (sn : Nat → Nat → Int32) (sf : Nat → Nat → Nat → Int32) (v1 : Int32) (v2 : Int32) (v3 : Int32) (v4 : Int32) : Nat → (Nat → Int32) → Int32 → Int32 → Option (Int32 × (Nat → Int32) × (Nat → Int32) × (Nat → Int32) × (Nat → Int32) × (Nat → Int32) × (Nat → Nat → Nat) × Int32 × (Nat → Int32) × (Nat → Nat → Int32) × (Nat → Nat → Int32) × (Nat → Nat → Nat → Int32))
  | 0, _, _, _ => none
  | n + 1, af, v5, v6 => vgd (ix (v1) 2) <| if (((8 : Int32) * v1) + (an v1.toNatClampNeg)) ≤ v6 then ((F_L_stretches bd sc cn cf sn sf v1 v2 v3 v4).bind fun o16 => if o16.1 = v5 then (some (1, an, af, av, ae, aw, o16.2.1, o16.2.2.1, cn, o16.2.2.2.1, o16.2.2.2.2.1, o16.2.2.2.2.2)) else (some (0, an, af, av, ae, aw, o16.2.1, o16.2.2.1, cn, o16.2.2.2.1, o16.2.2.2.2.1, o16.2.2.2.2.2))) else (vgd (ix (v6) 16) <| (F_L_then (af v6.toNatClampNeg) v2 v3 v4).bind fun r19 => vgd (ix (v6) 16) <| if r19 = (af v6.toNatClampNeg) then (vlet (v5 + 0) fun x27 => vgd (ix (v6) 16) <| vlet (upd af v6.toNatClampNeg r19) fun f29 => vlet ((v6 : Int32) + 1) fun x30 => F_L_acts_1045 an av ae aw bd sc cn cf sn sf v1 v2 v3 v4 n f29 x27 x30) else (vlet (v5 + 1) fun x23 => vgd (ix (v6) 16) <| vlet (upd af v6.toNatClampNeg r19) fun f25 => vlet ((v6 : Int32) + 1) fun x26 => F_L_acts_1045 an av ae aw bd sc cn cf sn sf v1 v2 v3 v4 n f25 x23 x26))
set_option maxHeartbeats 4000000 in
set_option maxRecDepth 100000 in
theorem w_L_acts_1045 {p : Program} {l : Launch} {e : Env} {s : State} {m : MethodId} {args : Array Value} {below : List Frame} {meth : Method} {c : Code} {G : va_G} {g : Nat → ClassId} (X : cx p s m args meth c cL_acts 29 (some .boolean) RL wsL_acts) (K : amb G g s) {A : Nat → Prop} (hA : ∀ q : Nat, s.heap.size ≤ q → A q) (hs : exS A s s.heap) (hnc : ncs s) (hf0 : l.stackTraces = false) (ad : Nat → Nat) (qn qf qv qe qw : Nat) (tl : Int32) (tat : Int32) (tb : Nat → Int32) (tn : Int32) (tf : Nat → Int32) (vv : Nat → Int32) (ov : Nat → Int32) (an : Nat → Int32) (av : Nat → Int32) (ae : Nat → Int32) (aw : Nat → Int32) (bd : Nat → Nat → Nat) (sc : Int32) (cn : Nat → Int32) (cf : Nat → Nat → Int32) (sn : Nat → Nat → Int32) (sf : Nat → Nat → Nat → Int32) (v1 : Int32) (v2 : Int32) (v3 : Int32) (v4 : Int32) (res : Int32 × (Nat → Int32) × (Nat → Int32) × (Nat → Int32) × (Nat → Int32) × (Nat → Int32) × (Nat → Nat → Nat) × Int32 × (Nat → Int32) × (Nat → Nat → Int32) × (Nat → Nat → Int32) × (Nat → Nat → Nat → Int32)) : ∀ (n : Nat) (af : Nat → Int32) (v5 : Int32) (v6 : Int32), F_L_acts_1045 an av ae aw bd sc cn cf sn sf v1 v2 v3 v4 n af v5 v6 = some res → ∀ (H : Heap) (locs : List Loc), va_P G vwCl ((qn, .inl (g 0, 2, .inl an)) :: (qf, .inl (g 0, 16, .inl af)) :: (qv, .inl (g 0, 16, .inl av)) :: (qe, .inl (g 0, 16, .inl ae)) :: (qw, .inl (g 0, 16, .inl aw)) :: (wX g ad bd sc tl tat tb cn cf sn sf tn tf vv ov)) H → va_D A ((qn, .inl (g 0, 2, .inl an)) :: (qf, .inl (g 0, 16, .inl af)) :: (qv, .inl (g 0, 16, .inl av)) :: (qe, .inl (g 0, 16, .inl ae)) :: (qw, .inl (g 0, 16, .inl aw)) :: (wX g ad bd sc tl tat tb cn cf sn sf tn tf vv ov)) → va_S A s.heap H locs → ∀ (ls : Array Slot), lv_has ls 29 [(0, .ref (ad 0)), (1, .ref qn), (2, .ref qf), (7, .int v1), (21, .int v2), (22, .int v3), (23, .int v4), (24, .int v5), (25, .int v6)] → W p l e (rmX 10 183) s m args below meth c H locs 0 0 (lxM G A below (some (.int res.1)) (fun w => w = ((qn, .inl (g 0, 2, .inl res.2.1)) :: (qf, .inl (g 0, 16, .inl res.2.2.1)) :: (qv, .inl (g 0, 16, .inl res.2.2.2.1)) :: (qe, .inl (g 0, 16, .inl res.2.2.2.2.1)) :: (qw, .inl (g 0, 16, .inl res.2.2.2.2.2.1)) :: (wX g ad res.2.2.2.2.2.2.1 res.2.2.2.2.2.2.2.1 tl tat tb res.2.2.2.2.2.2.2.2.1 res.2.2.2.2.2.2.2.2.2.1 res.2.2.2.2.2.2.2.2.2.2.1 res.2.2.2.2.2.2.2.2.2.2.2 tn tf vv ov))) args s) (F0 m 1045 ls []) := by
  obtain ⟨hx, hb, hml, hr, hown, hts, hk⟩ := id X
  intro n
  induction n with
  | zero => intro af v5 v6 hq; exact q_no hq
  | succ n ih =>
    intro af v5 v6 hq H locs hP hD hS ls hl
    rw [F_L_acts_1045] at hq
    refine lv_iload hx hb dL_acts_1045 (lv_at hl 8 rfl) ?_
    refine lv_bipush (v := 8) hx hb dL_acts_1047 (by decide) ?_
    refine lv_iload hx hb dL_acts_1049 (lv_at hl 3 rfl) ?_
    refine lv_imul hx hb dL_acts_1051 ?_
    refine lv_aload_n hx hb dL_acts_1052 rfl (lv_at hl 1 rfl) ?_
    refine lv_iload hx hb dL_acts_1053 (lv_at hl 3 rfl) ?_
    obtain ⟨hh7, hq⟩ := q_gd hq
    refine va_iald hx hb K.1 hP 0 0 rfl rfl (vp_in_iff.mpr hh7) dL_acts_1055 ?_
    refine lv_iadd hx hb dL_acts_1056 ?_
    refine lv_icmp_ge (tgt := 1106) hx hb dL_acts_1057 (by decide) (fun c8 => ?_) (fun c8 => ?_)
    · have hq := q_if_t hq c8
      refine lv_aload_n hx hb dL_acts_1106 rfl (lv_at hl 0 rfl) ?_
      refine lv_iload hx hb dL_acts_1107 (lv_at hl 3 rfl) ?_
      refine lv_iload hx hb dL_acts_1109 (lv_at hl 4 rfl) ?_
      refine lv_iload hx hb dL_acts_1111 (lv_at hl 5 rfl) ?_
      refine lv_iload hx hb dL_acts_1113 (lv_at hl 6 rfl) ?_
      obtain ⟨⟨r9, y10, y11, y12, y13, y14⟩, hh15, hq⟩ := q_bd hq
      refine lxS (As := [.ref (ad 0), .int v1, .int v2, .int v3, .int v4]) (rest := []) (wr := [(qn, .inl (g 0, 2, .inl an)), (qf, .inl (g 0, 16, .inl af)), (qv, .inl (g 0, 16, .inl av)), (qe, .inl (g 0, 16, .inl ae)), (qw, .inl (g 0, 16, .inl aw))]) X K hs hnc (k_L_stretches l hf0 G g ad bd sc tl tat tb cn cf sn sf tn tf vv ov v1 v2 v3 v4 _ hh15) hd_L_stretches gL_acts_L_stretches hP hD hS hA hl.1 dL_acts_1115 rfl rfl ⟨Nat.le_of_ble_eq_true rfl, Nat.le_of_ble_eq_true rfl⟩ rfl (Nat.le_of_ble_eq_true rfl) ⟨Nat.le_of_ble_eq_true rfl, Nat.le_of_ble_eq_true rfl⟩ (fun w1 H locs hp hP hD hS => ?_)
      have hp : w1 = (wX g ad y10 y11 tl tat tb cn y12 y13 y14 tn tf vv ov) := hp
      subst hp
      have hP : va_P G vwCl ((qn, .inl (g 0, 2, .inl an)) :: (qf, .inl (g 0, 16, .inl af)) :: (qv, .inl (g 0, 16, .inl av)) :: (qe, .inl (g 0, 16, .inl ae)) :: (qw, .inl (g 0, 16, .inl aw)) :: (wX g ad y10 y11 tl tat tb cn y12 y13 y14 tn tf vv ov)) H := hP
      have hD : va_D A ((qn, .inl (g 0, 2, .inl an)) :: (qf, .inl (g 0, 16, .inl af)) :: (qv, .inl (g 0, 16, .inl av)) :: (qe, .inl (g 0, 16, .inl ae)) :: (qw, .inl (g 0, 16, .inl aw)) :: (wX g ad y10 y11 tl tat tb cn y12 y13 y14 tn tf vv ov)) := hD
      refine lv_iload hx hb dL_acts_1118 (lv_at hl 7 rfl) ?_
      refine lv_icmp_ne (tgt := 1127) hx hb dL_acts_1120 (by decide) (fun c17 => ?_) (fun c17 => ?_)
      · have hq := q_if_f hq c17
        refine lv_iconst (v := 0) hx hb dL_acts_1127 (by decide) ?_
        obtain rfl := q_rt hq
        exact lx_zret hx hb hr nz_0 hk rfl hP hD hS dL_acts_1128
      · have hq := q_if_t hq c17
        refine lv_iconst (v := 1) hx hb dL_acts_1123 (by decide) ?_
        refine lv_goto (tgt := 1128) hx hb dL_acts_1124 (by decide) ?_
        obtain rfl := q_rt hq
        exact lx_zret hx hb hr nz_1 hk rfl hP hD hS dL_acts_1128
    · have hq := q_if_f hq c8
      refine lv_aload_n hx hb dL_acts_1060 rfl (lv_at hl 2 rfl) ?_
      refine lv_iload hx hb dL_acts_1061 (lv_at hl 8 rfl) ?_
      obtain ⟨hh18, hq⟩ := q_gd hq
      refine va_iald hx hb K.1 hP 1 0 rfl rfl (vp_in_iff.mpr hh18) dL_acts_1063 ?_
      refine lv_iload hx hb dL_acts_1064 (lv_at hl 4 rfl) ?_
      refine lv_iload hx hb dL_acts_1066 (lv_at hl 5 rfl) ?_
      refine lv_iload hx hb dL_acts_1068 (lv_at hl 6 rfl) ?_
      obtain ⟨r19, hh20, hq⟩ := q_bd hq
      refine roS (As := [.int (af v6.toNatClampNeg), .int v2, .int v3, .int v4]) (rest := []) X K (k_L_then l G g (af v6.toNatClampNeg) v2 v3 v4 _ hh20) hd_L_then gL_acts_L_then (hP.sub [] rfl) hl.1 dL_acts_1070 rfl rfl ⟨Nat.le_of_ble_eq_true rfl, Nat.le_of_ble_eq_true rfl⟩ rfl (Nat.le_of_ble_eq_true rfl) ⟨Nat.le_of_ble_eq_true rfl, Nat.le_of_ble_eq_true rfl⟩ ?_
      refine lv_istore (lv' := [(26, .int r19), (0, .ref (ad 0)), (1, .ref qn), (2, .ref qf), (7, .int v1), (21, .int v2), (22, .int v3), (23, .int v4), (24, .int v5), (25, .int v6)]) hx hb dL_acts_1073 hl (by decide) rfl (fun ls hl => ?_)
      refine lv_iload hx hb dL_acts_1075 (lv_at hl 8 rfl) ?_
      refine lv_iload hx hb dL_acts_1077 (lv_at hl 0 rfl) ?_
      refine lv_aload_n hx hb dL_acts_1079 rfl (lv_at hl 3 rfl) ?_
      refine lv_iload hx hb dL_acts_1080 (lv_at hl 9 rfl) ?_
      obtain ⟨hh21, hq⟩ := q_gd hq
      refine va_iald hx hb K.1 hP 1 0 rfl rfl (vp_in_iff.mpr hh21) dL_acts_1082 ?_
      refine lv_icmp_ne (tgt := 1090) hx hb dL_acts_1083 (by decide) (fun c22 => ?_) (fun c22 => ?_)
      · have hq := q_if_f hq c22
        refine lv_iconst (v := 1) hx hb dL_acts_1090 (by decide) ?_
        refine lv_iadd hx hb dL_acts_1091 ?_
        refine lv_topi (fun x23 ex23 => ?_)
        have hq := q_let hq ex23
        refine lv_istore (lv' := [(24, .int x23), (26, .int r19), (0, .ref (ad 0)), (1, .ref qn), (2, .ref qf), (7, .int v1), (21, .int v2), (22, .int v3), (23, .int v4), (25, .int v6)]) hx hb dL_acts_1092 hl (by decide) rfl (fun ls hl => ?_)
        refine lv_aload_n hx hb dL_acts_1094 rfl (lv_at hl 4 rfl) ?_
        refine lv_iload hx hb dL_acts_1095 (lv_at hl 9 rfl) ?_
        refine lv_iload hx hb dL_acts_1097 (lv_at hl 1 rfl) ?_
        obtain ⟨hh24, hq⟩ := q_gd hq
        refine va_iast hx hb K.1 hP hD hS 1 0 rfl rfl (vp_in_iff.mpr hh24) dL_acts_1099 (fun H locs hP hD hS => ?_)
        obtain ⟨f25, ef25⟩ : ∃ y, y = upd af v6.toNatClampNeg r19 := ⟨_, rfl⟩
        have hq := q_let hq ef25
        have hP : va_P G vwCl ((qn, .inl (g 0, 2, .inl an)) :: (qf, .inl (g 0, 16, .inl f25)) :: (qv, .inl (g 0, 16, .inl av)) :: (qe, .inl (g 0, 16, .inl ae)) :: (qw, .inl (g 0, 16, .inl aw)) :: (wX g ad bd sc tl tat tb cn cf sn sf tn tf vv ov)) H := by rw [ef25]; exact hP
        have hD : va_D A ((qn, .inl (g 0, 2, .inl an)) :: (qf, .inl (g 0, 16, .inl f25)) :: (qv, .inl (g 0, 16, .inl av)) :: (qe, .inl (g 0, 16, .inl ae)) :: (qw, .inl (g 0, 16, .inl aw)) :: (wX g ad bd sc tl tat tb cn cf sn sf tn tf vv ov)) := by rw [ef25]; exact hD
        obtain ⟨x26, ex26⟩ : ∃ y : Int32, y = (v6 : Int32) + 1 := ⟨_, rfl⟩
        have hq := q_let hq ex26
        refine lv_iinc (v := x26) (lv' := [(25, .int x26), (24, .int x23), (26, .int r19), (0, .ref (ad 0)), (1, .ref qn), (2, .ref qf), (7, .int v1), (21, .int v2), (22, .int v3), (23, .int v4)]) hx hb dL_acts_1100 hl (k := 9) rfl (by rw [ex26]; rfl) (by decide) rfl (fun ls hl => ?_)
        refine lv_goto (tgt := 1045) hx hb dL_acts_1103 (by decide) ?_
        exact ih f25 x23 x26 hq _ _ hP hD hS ls (lv_sub hl [3, 4, 5, 6, 7, 8, 9, 1, 0] rfl)
      · have hq := q_if_t hq c22
        refine lv_iconst (v := 0) hx hb dL_acts_1086 (by decide) ?_
        refine lv_goto (tgt := 1091) hx hb dL_acts_1087 (by decide) ?_
        refine lv_iadd hx hb dL_acts_1091 ?_
        refine lv_topi (fun x27 ex27 => ?_)
        have hq := q_let hq ex27
        refine lv_istore (lv' := [(24, .int x27), (26, .int r19), (0, .ref (ad 0)), (1, .ref qn), (2, .ref qf), (7, .int v1), (21, .int v2), (22, .int v3), (23, .int v4), (25, .int v6)]) hx hb dL_acts_1092 hl (by decide) rfl (fun ls hl => ?_)
        refine lv_aload_n hx hb dL_acts_1094 rfl (lv_at hl 4 rfl) ?_
        refine lv_iload hx hb dL_acts_1095 (lv_at hl 9 rfl) ?_
        refine lv_iload hx hb dL_acts_1097 (lv_at hl 1 rfl) ?_
        obtain ⟨hh28, hq⟩ := q_gd hq
        refine va_iast hx hb K.1 hP hD hS 1 0 rfl rfl (vp_in_iff.mpr hh28) dL_acts_1099 (fun H locs hP hD hS => ?_)
        obtain ⟨f29, ef29⟩ : ∃ y, y = upd af v6.toNatClampNeg r19 := ⟨_, rfl⟩
        have hq := q_let hq ef29
        have hP : va_P G vwCl ((qn, .inl (g 0, 2, .inl an)) :: (qf, .inl (g 0, 16, .inl f29)) :: (qv, .inl (g 0, 16, .inl av)) :: (qe, .inl (g 0, 16, .inl ae)) :: (qw, .inl (g 0, 16, .inl aw)) :: (wX g ad bd sc tl tat tb cn cf sn sf tn tf vv ov)) H := by rw [ef29]; exact hP
        have hD : va_D A ((qn, .inl (g 0, 2, .inl an)) :: (qf, .inl (g 0, 16, .inl f29)) :: (qv, .inl (g 0, 16, .inl av)) :: (qe, .inl (g 0, 16, .inl ae)) :: (qw, .inl (g 0, 16, .inl aw)) :: (wX g ad bd sc tl tat tb cn cf sn sf tn tf vv ov)) := by rw [ef29]; exact hD
        obtain ⟨x30, ex30⟩ : ∃ y : Int32, y = (v6 : Int32) + 1 := ⟨_, rfl⟩
        have hq := q_let hq ex30
        refine lv_iinc (v := x30) (lv' := [(25, .int x30), (24, .int x27), (26, .int r19), (0, .ref (ad 0)), (1, .ref qn), (2, .ref qf), (7, .int v1), (21, .int v2), (22, .int v3), (23, .int v4)]) hx hb dL_acts_1100 hl (k := 9) rfl (by rw [ex30]; rfl) (by decide) rfl (fun ls hl => ?_)
        refine lv_goto (tgt := 1045) hx hb dL_acts_1103 (by decide) ?_
        exact ih f29 x27 x30 hq _ _ hP hD hS ls (lv_sub hl [3, 4, 5, 6, 7, 8, 9, 1, 0] rfl)
def F_L_acts_990 (an : Nat → Int32) (af : Nat → Int32) (av : Nat → Int32) (ae : Nat → Int32) (aw : Nat → Int32) (bd : Nat → Nat → Nat) (sc : Int32) (cn : Nat → Int32) (cf : Nat → Nat → Int32) (sn : Nat → Nat → Int32) (sf : Nat → Nat → Nat → Int32) (v1 : Int32) (v2 : Int32) (v3 : Int32) (v4 : Int32) (v5 : Int32) (v6 : Int32) : Option (Int32 × (Nat → Int32) × (Nat → Int32) × (Nat → Int32) × (Nat → Int32) × (Nat → Int32) × (Nat → Nat → Nat) × Int32 × (Nat → Int32) × (Nat → Nat → Int32) × (Nat → Nat → Int32) × (Nat → Nat → Nat → Int32)) := vgd (¬ v6 = 0) <| vlet (v4 + (v5 - v5 / v6 * v6)) fun x8 => (F_L_mayStretch an af ae v1 v2 v3 x8).bind fun r9 => if r9 = 0 then ((F_L_stretches bd sc cn cf sn sf v1 v2 v3 x8).bind fun o20 => if o20.1 = (-10000003) then (some (1, an, af, av, ae, aw, o20.2.1, o20.2.2.1, cn, o20.2.2.2.1, o20.2.2.2.2.1, o20.2.2.2.2.2)) else (some (0, an, af, av, ae, aw, o20.2.1, o20.2.2.1, cn, o20.2.2.2.1, o20.2.2.2.2.1, o20.2.2.2.2.2))) else (vlet ((8 : Int32) * v1) fun x12 => F_L_acts_1045 an av ae aw bd sc cn cf sn sf v1 v2 v3 x8 2000 af 0 x12)
set_option maxHeartbeats 4000000 in
set_option maxRecDepth 100000 in
theorem w_L_acts_990 {p : Program} {l : Launch} {e : Env} {s : State} {m : MethodId} {args : Array Value} {below : List Frame} {meth : Method} {c : Code} {G : va_G} {g : Nat → ClassId} (X : cx p s m args meth c cL_acts 29 (some .boolean) RL wsL_acts) (K : amb G g s) {A : Nat → Prop} (hA : ∀ q : Nat, s.heap.size ≤ q → A q) (hs : exS A s s.heap) (hnc : ncs s) (hf0 : l.stackTraces = false) (ad : Nat → Nat) (qn qf qv qe qw : Nat) (tl : Int32) (tat : Int32) (tb : Nat → Int32) (tn : Int32) (tf : Nat → Int32) (vv : Nat → Int32) (ov : Nat → Int32) (an : Nat → Int32) (af : Nat → Int32) (av : Nat → Int32) (ae : Nat → Int32) (aw : Nat → Int32) (bd : Nat → Nat → Nat) (sc : Int32) (cn : Nat → Int32) (cf : Nat → Nat → Int32) (sn : Nat → Nat → Int32) (sf : Nat → Nat → Nat → Int32) (v1 : Int32) (v2 : Int32) (v3 : Int32) (v4 : Int32) (v5 : Int32) (v6 : Int32) (res : Int32 × (Nat → Int32) × (Nat → Int32) × (Nat → Int32) × (Nat → Int32) × (Nat → Int32) × (Nat → Nat → Nat) × Int32 × (Nat → Int32) × (Nat → Nat → Int32) × (Nat → Nat → Int32) × (Nat → Nat → Nat → Int32)) (hq : F_L_acts_990 an af av ae aw bd sc cn cf sn sf v1 v2 v3 v4 v5 v6 = some res) : ∀ (H : Heap) (locs : List Loc), va_P G vwCl ((qn, .inl (g 0, 2, .inl an)) :: (qf, .inl (g 0, 16, .inl af)) :: (qv, .inl (g 0, 16, .inl av)) :: (qe, .inl (g 0, 16, .inl ae)) :: (qw, .inl (g 0, 16, .inl aw)) :: (wX g ad bd sc tl tat tb cn cf sn sf tn tf vv ov)) H → va_D A ((qn, .inl (g 0, 2, .inl an)) :: (qf, .inl (g 0, 16, .inl af)) :: (qv, .inl (g 0, 16, .inl av)) :: (qe, .inl (g 0, 16, .inl ae)) :: (qw, .inl (g 0, 16, .inl aw)) :: (wX g ad bd sc tl tat tb cn cf sn sf tn tf vv ov)) → va_S A s.heap H locs → ∀ (ls : Array Slot), lv_has ls 29 [(0, .ref (ad 0)), (1, .ref qn), (2, .ref qf), (4, .ref qe), (7, .int v1), (21, .int v2), (22, .int v3)] → W p l e (rmX 10 183) s m args below meth c H locs 0 0 (lxM G A below (some (.int res.1)) (fun w => w = ((qn, .inl (g 0, 2, .inl res.2.1)) :: (qf, .inl (g 0, 16, .inl res.2.2.1)) :: (qv, .inl (g 0, 16, .inl res.2.2.2.1)) :: (qe, .inl (g 0, 16, .inl res.2.2.2.2.1)) :: (qw, .inl (g 0, 16, .inl res.2.2.2.2.2.1)) :: (wX g ad res.2.2.2.2.2.2.1 res.2.2.2.2.2.2.2.1 tl tat tb res.2.2.2.2.2.2.2.2.1 res.2.2.2.2.2.2.2.2.2.1 res.2.2.2.2.2.2.2.2.2.2.1 res.2.2.2.2.2.2.2.2.2.2.2 tn tf vv ov))) args s) (F0 m 990 ls [.int v6, .int v5, .int v4]) := by
  obtain ⟨hx, hb, hml, hr, hown, hts, hk⟩ := id X
  intro H locs hP hD hS ls hl
  unfold F_L_acts_990 at hq
  obtain ⟨hh7, hq⟩ := q_gd hq
  refine lv_irem hx hb dL_acts_990 hh7 ?_
  refine lv_iadd hx hb dL_acts_991 ?_
  refine lv_topi (fun x8 ex8 => ?_)
  have hq := q_let hq ex8
  refine lv_istore (lv' := [(23, .int x8), (0, .ref (ad 0)), (1, .ref qn), (2, .ref qf), (4, .ref qe), (7, .int v1), (21, .int v2), (22, .int v3)]) hx hb dL_acts_992 hl (by decide) rfl (fun ls hl => ?_)
  refine lv_aload_n hx hb dL_acts_994 rfl (lv_at hl 2 rfl) ?_
  refine lv_aload_n hx hb dL_acts_995 rfl (lv_at hl 3 rfl) ?_
  refine lv_aload hx hb dL_acts_996 (lv_at hl 4 rfl) ?_
  refine lv_iload hx hb dL_acts_998 (lv_at hl 5 rfl) ?_
  refine lv_iload hx hb dL_acts_1000 (lv_at hl 6 rfl) ?_
  refine lv_iload hx hb dL_acts_1002 (lv_at hl 7 rfl) ?_
  refine lv_iload hx hb dL_acts_1004 (lv_at hl 0 rfl) ?_
  obtain ⟨r9, hh10, hq⟩ := q_bd hq
  refine roS (As := [.ref qn, .ref qf, .ref qe, .int v1, .int v2, .int v3, .int x8]) (rest := []) X K (k_L_mayStretch l G g qn qf qe an af ae v1 v2 v3 x8 _ hh10) hd_L_mayStretch gL_acts_L_mayStretch (hP.sub [0, 1, 3] rfl) hl.1 dL_acts_1006 rfl rfl ⟨Nat.le_of_ble_eq_true rfl, Nat.le_of_ble_eq_true rfl⟩ rfl (Nat.le_of_ble_eq_true rfl) ⟨Nat.le_of_ble_eq_true rfl, Nat.le_of_ble_eq_true rfl⟩ ?_
  refine lv_if_ne (tgt := 1035) hx hb dL_acts_1009 (by decide) (fun c11 => ?_) (fun c11 => ?_)
  · have hq := q_if_f hq c11
    refine lv_iconst (v := 0) hx hb dL_acts_1035 (by decide) ?_
    refine lv_istore (lv' := [(24, .int 0), (23, .int x8), (0, .ref (ad 0)), (1, .ref qn), (2, .ref qf), (4, .ref qe), (7, .int v1), (21, .int v2), (22, .int v3)]) hx hb dL_acts_1036 hl (by decide) rfl (fun ls hl => ?_)
    refine lv_bipush (v := 8) hx hb dL_acts_1038 (by decide) ?_
    refine lv_iload hx hb dL_acts_1040 (lv_at hl 6 rfl) ?_
    refine lv_imul hx hb dL_acts_1042 ?_
    refine lv_topi (fun x12 ex12 => ?_)
    have hq := q_let hq ex12
    refine lv_istore (lv' := [(25, .int x12), (24, .int 0), (23, .int x8), (0, .ref (ad 0)), (1, .ref qn), (2, .ref qf), (4, .ref qe), (7, .int v1), (21, .int v2), (22, .int v3)]) hx hb dL_acts_1043 hl (by decide) rfl (fun ls hl => ?_)
    exact w_L_acts_1045 X K hA hs hnc hf0 ad qn qf qv qe qw tl tat tb tn tf vv ov an av ae aw bd sc cn cf sn sf v1 v2 v3 x8 _ 2000 af 0 x12 hq _ _ hP hD hS ls (lv_sub hl [3, 4, 5, 7, 8, 9, 2, 1, 0] rfl)
  · have hq := q_if_t hq c11
    refine lv_aload_n hx hb dL_acts_1012 rfl (lv_at hl 1 rfl) ?_
    refine lv_iload hx hb dL_acts_1013 (lv_at hl 5 rfl) ?_
    refine lv_iload hx hb dL_acts_1015 (lv_at hl 6 rfl) ?_
    refine lv_iload hx hb dL_acts_1017 (lv_at hl 7 rfl) ?_
    refine lv_iload hx hb dL_acts_1019 (lv_at hl 0 rfl) ?_
    obtain ⟨⟨r13, y14, y15, y16, y17, y18⟩, hh19, hq⟩ := q_bd hq
    refine lxS (As := [.ref (ad 0), .int v1, .int v2, .int v3, .int x8]) (rest := []) (wr := [(qn, .inl (g 0, 2, .inl an)), (qf, .inl (g 0, 16, .inl af)), (qv, .inl (g 0, 16, .inl av)), (qe, .inl (g 0, 16, .inl ae)), (qw, .inl (g 0, 16, .inl aw))]) X K hs hnc (k_L_stretches l hf0 G g ad bd sc tl tat tb cn cf sn sf tn tf vv ov v1 v2 v3 x8 _ hh19) hd_L_stretches gL_acts_L_stretches hP hD hS hA hl.1 dL_acts_1021 rfl rfl ⟨Nat.le_of_ble_eq_true rfl, Nat.le_of_ble_eq_true rfl⟩ rfl (Nat.le_of_ble_eq_true rfl) ⟨Nat.le_of_ble_eq_true rfl, Nat.le_of_ble_eq_true rfl⟩ (fun w1 H locs hp hP hD hS => ?_)
    have hp : w1 = (wX g ad y14 y15 tl tat tb cn y16 y17 y18 tn tf vv ov) := hp
    subst hp
    have hP : va_P G vwCl ((qn, .inl (g 0, 2, .inl an)) :: (qf, .inl (g 0, 16, .inl af)) :: (qv, .inl (g 0, 16, .inl av)) :: (qe, .inl (g 0, 16, .inl ae)) :: (qw, .inl (g 0, 16, .inl aw)) :: (wX g ad y14 y15 tl tat tb cn y16 y17 y18 tn tf vv ov)) H := hP
    have hD : va_D A ((qn, .inl (g 0, 2, .inl an)) :: (qf, .inl (g 0, 16, .inl af)) :: (qv, .inl (g 0, 16, .inl av)) :: (qe, .inl (g 0, 16, .inl ae)) :: (qw, .inl (g 0, 16, .inl aw)) :: (wX g ad y14 y15 tl tat tb cn y16 y17 y18 tn tf vv ov)) := hD
    refine lv_ldc (v := (-10000003)) hx hb hown (hts _ (List.mem_of_getElem? (i := 3) rfl)) dL_acts_1024 ?_
    refine lv_icmp_ne (tgt := 1033) hx hb dL_acts_1026 (by decide) (fun c21 => ?_) (fun c21 => ?_)
    · have hq := q_if_f hq c21
      refine lv_iconst (v := 0) hx hb dL_acts_1033 (by decide) ?_
      obtain rfl := q_rt hq
      exact lx_zret hx hb hr nz_0 hk rfl hP hD hS dL_acts_1034
    · have hq := q_if_t hq c21
      refine lv_iconst (v := 1) hx hb dL_acts_1029 (by decide) ?_
      refine lv_goto (tgt := 1034) hx hb dL_acts_1030 (by decide) ?_
      obtain rfl := q_rt hq
      exact lx_zret hx hb hr nz_1 hk rfl hP hD hS dL_acts_1034
def F_L_acts_964 (an : Nat → Int32) (af : Nat → Int32) (av : Nat → Int32) (ae : Nat → Int32) (aw : Nat → Int32) (bd : Nat → Nat → Nat) (sc : Int32) (cn : Nat → Int32) (cf : Nat → Nat → Int32) (sn : Nat → Nat → Int32) (sf : Nat → Nat → Nat → Int32) (v1 : Int32) (v2 : Int32) (v3 : Int32) (v4 : Int32) (v5 : Int32) (v6 : Int32) : Option (Int32 × (Nat → Int32) × (Nat → Int32) × (Nat → Int32) × (Nat → Int32) × (Nat → Int32) × (Nat → Nat → Nat) × Int32 × (Nat → Int32) × (Nat → Nat → Int32) × (Nat → Nat → Int32) × (Nat → Nat → Nat → Int32)) := vgd (¬ v6 = 0) <| vlet (v4 + (v5 - v5 / v6 * v6)) fun x8 => if (v2 - v2 / 2 * 2) = 0 then (F_L_acts_990 an af av ae aw bd sc cn cf sn sf v1 v3 x8 10 (v2 / 11) 491) else (F_L_acts_990 an af av ae aw bd sc cn cf sn sf v1 v3 x8 10 (v2 / 11) 110)
set_option maxHeartbeats 4000000 in
set_option maxRecDepth 100000 in
theorem w_L_acts_964 {p : Program} {l : Launch} {e : Env} {s : State} {m : MethodId} {args : Array Value} {below : List Frame} {meth : Method} {c : Code} {G : va_G} {g : Nat → ClassId} (X : cx p s m args meth c cL_acts 29 (some .boolean) RL wsL_acts) (K : amb G g s) {A : Nat → Prop} (hA : ∀ q : Nat, s.heap.size ≤ q → A q) (hs : exS A s s.heap) (hnc : ncs s) (hf0 : l.stackTraces = false) (ad : Nat → Nat) (qn qf qv qe qw : Nat) (tl : Int32) (tat : Int32) (tb : Nat → Int32) (tn : Int32) (tf : Nat → Int32) (vv : Nat → Int32) (ov : Nat → Int32) (an : Nat → Int32) (af : Nat → Int32) (av : Nat → Int32) (ae : Nat → Int32) (aw : Nat → Int32) (bd : Nat → Nat → Nat) (sc : Int32) (cn : Nat → Int32) (cf : Nat → Nat → Int32) (sn : Nat → Nat → Int32) (sf : Nat → Nat → Nat → Int32) (v1 : Int32) (v2 : Int32) (v3 : Int32) (v4 : Int32) (v5 : Int32) (v6 : Int32) (res : Int32 × (Nat → Int32) × (Nat → Int32) × (Nat → Int32) × (Nat → Int32) × (Nat → Int32) × (Nat → Nat → Nat) × Int32 × (Nat → Int32) × (Nat → Nat → Int32) × (Nat → Nat → Int32) × (Nat → Nat → Nat → Int32)) (hq : F_L_acts_964 an af av ae aw bd sc cn cf sn sf v1 v2 v3 v4 v5 v6 = some res) : ∀ (H : Heap) (locs : List Loc), va_P G vwCl ((qn, .inl (g 0, 2, .inl an)) :: (qf, .inl (g 0, 16, .inl af)) :: (qv, .inl (g 0, 16, .inl av)) :: (qe, .inl (g 0, 16, .inl ae)) :: (qw, .inl (g 0, 16, .inl aw)) :: (wX g ad bd sc tl tat tb cn cf sn sf tn tf vv ov)) H → va_D A ((qn, .inl (g 0, 2, .inl an)) :: (qf, .inl (g 0, 16, .inl af)) :: (qv, .inl (g 0, 16, .inl av)) :: (qe, .inl (g 0, 16, .inl ae)) :: (qw, .inl (g 0, 16, .inl aw)) :: (wX g ad bd sc tl tat tb cn cf sn sf tn tf vv ov)) → va_S A s.heap H locs → ∀ (ls : Array Slot), lv_has ls 29 [(0, .ref (ad 0)), (1, .ref qn), (2, .ref qf), (4, .ref qe), (7, .int v1), (8, .int v2), (21, .int v3)] → W p l e (rmX 10 183) s m args below meth c H locs 0 0 (lxM G A below (some (.int res.1)) (fun w => w = ((qn, .inl (g 0, 2, .inl res.2.1)) :: (qf, .inl (g 0, 16, .inl res.2.2.1)) :: (qv, .inl (g 0, 16, .inl res.2.2.2.1)) :: (qe, .inl (g 0, 16, .inl res.2.2.2.2.1)) :: (qw, .inl (g 0, 16, .inl res.2.2.2.2.2.1)) :: (wX g ad res.2.2.2.2.2.2.1 res.2.2.2.2.2.2.2.1 tl tat tb res.2.2.2.2.2.2.2.2.1 res.2.2.2.2.2.2.2.2.2.1 res.2.2.2.2.2.2.2.2.2.2.1 res.2.2.2.2.2.2.2.2.2.2.2 tn tf vv ov))) args s) (F0 m 964 ls [.int v6, .int v5, .int v4]) := by
  obtain ⟨hx, hb, hml, hr, hown, hts, hk⟩ := id X
  intro H locs hP hD hS ls hl
  unfold F_L_acts_964 at hq
  obtain ⟨hh7, hq⟩ := q_gd hq
  refine lv_irem hx hb dL_acts_964 hh7 ?_
  refine lv_iadd hx hb dL_acts_965 ?_
  refine lv_topi (fun x8 ex8 => ?_)
  have hq := q_let hq ex8
  refine lv_istore (lv' := [(22, .int x8), (0, .ref (ad 0)), (1, .ref qn), (2, .ref qf), (4, .ref qe), (7, .int v1), (8, .int v2), (21, .int v3)]) hx hb dL_acts_966 hl (by decide) rfl (fun ls hl => ?_)
  refine lv_bipush (v := 10) hx hb dL_acts_968 (by decide) ?_
  refine lv_iload hx hb dL_acts_970 (lv_at hl 6 rfl) ?_
  refine lv_bipush (v := 11) hx hb dL_acts_972 (by decide) ?_
  refine lv_idiv hx hb dL_acts_974 (by decide) ?_
  refine lv_iload hx hb dL_acts_975 (lv_at hl 6 rfl) ?_
  refine lv_iconst (v := 2) hx hb dL_acts_977 (by decide) ?_
  refine lv_irem hx hb dL_acts_978 (by decide) ?_
  refine lv_if_ne (tgt := 988) hx hb dL_acts_979 (by decide) (fun c9 => ?_) (fun c9 => ?_)
  · have hq := q_if_f hq c9
    refine lv_bipush (v := 110) hx hb dL_acts_988 (by decide) ?_
    exact w_L_acts_990 X K hA hs hnc hf0 ad qn qf qv qe qw tl tat tb tn tf vv ov an af av ae aw bd sc cn cf sn sf v1 v3 x8 10 (v2 / 11) 110 _ hq _ _ hP hD hS ls (lv_sub hl [1, 2, 3, 4, 5, 7, 0] rfl)
  · have hq := q_if_t hq c9
    refine lv_sipush (v := 491) hx hb dL_acts_982 (by decide) ?_
    refine lv_goto (tgt := 990) hx hb dL_acts_985 (by decide) ?_
    exact w_L_acts_990 X K hA hs hnc hf0 ad qn qf qv qe qw tl tat tb tn tf vv ov an af av ae aw bd sc cn cf sn sf v1 v3 x8 10 (v2 / 11) 491 _ hq _ _ hP hD hS ls (lv_sub hl [1, 2, 3, 4, 5, 7, 0] rfl)
def F_L_acts_932 (an : Nat → Int32) (af : Nat → Int32) (av : Nat → Int32) (ae : Nat → Int32) (aw : Nat → Int32) (bd : Nat → Nat → Nat) (sc : Int32) (cn : Nat → Int32) (cf : Nat → Nat → Int32) (sn : Nat → Nat → Int32) (sf : Nat → Nat → Nat → Int32) (v1 : Int32) (v2 : Int32) : Option (Int32 × (Nat → Int32) × (Nat → Int32) × (Nat → Int32) × (Nat → Int32) × (Nat → Int32) × (Nat → Nat → Nat) × Int32 × (Nat → Int32) × (Nat → Nat → Int32) × (Nat → Nat → Int32) × (Nat → Nat → Nat → Int32)) := vlet (v2 - v2 / 700 * 700) fun x3 => if (v2 - v2 / 3 * 3) = 0 then (F_L_acts_964 an af av ae aw bd sc cn cf sn sf v1 v2 x3 (x3 + 1) (v2 / 7) 299) else (F_L_acts_964 an af av ae aw bd sc cn cf sn sf v1 v2 x3 (x3 + 1) (v2 / 7) 40)
set_option maxHeartbeats 4000000 in
set_option maxRecDepth 100000 in
theorem w_L_acts_932 {p : Program} {l : Launch} {e : Env} {s : State} {m : MethodId} {args : Array Value} {below : List Frame} {meth : Method} {c : Code} {G : va_G} {g : Nat → ClassId} (X : cx p s m args meth c cL_acts 29 (some .boolean) RL wsL_acts) (K : amb G g s) {A : Nat → Prop} (hA : ∀ q : Nat, s.heap.size ≤ q → A q) (hs : exS A s s.heap) (hnc : ncs s) (hf0 : l.stackTraces = false) (ad : Nat → Nat) (qn qf qv qe qw : Nat) (tl : Int32) (tat : Int32) (tb : Nat → Int32) (tn : Int32) (tf : Nat → Int32) (vv : Nat → Int32) (ov : Nat → Int32) (an : Nat → Int32) (af : Nat → Int32) (av : Nat → Int32) (ae : Nat → Int32) (aw : Nat → Int32) (bd : Nat → Nat → Nat) (sc : Int32) (cn : Nat → Int32) (cf : Nat → Nat → Int32) (sn : Nat → Nat → Int32) (sf : Nat → Nat → Nat → Int32) (v1 : Int32) (v2 : Int32) (res : Int32 × (Nat → Int32) × (Nat → Int32) × (Nat → Int32) × (Nat → Int32) × (Nat → Int32) × (Nat → Nat → Nat) × Int32 × (Nat → Int32) × (Nat → Nat → Int32) × (Nat → Nat → Int32) × (Nat → Nat → Nat → Int32)) (hq : F_L_acts_932 an af av ae aw bd sc cn cf sn sf v1 v2 = some res) : ∀ (H : Heap) (locs : List Loc), va_P G vwCl ((qn, .inl (g 0, 2, .inl an)) :: (qf, .inl (g 0, 16, .inl af)) :: (qv, .inl (g 0, 16, .inl av)) :: (qe, .inl (g 0, 16, .inl ae)) :: (qw, .inl (g 0, 16, .inl aw)) :: (wX g ad bd sc tl tat tb cn cf sn sf tn tf vv ov)) H → va_D A ((qn, .inl (g 0, 2, .inl an)) :: (qf, .inl (g 0, 16, .inl af)) :: (qv, .inl (g 0, 16, .inl av)) :: (qe, .inl (g 0, 16, .inl ae)) :: (qw, .inl (g 0, 16, .inl aw)) :: (wX g ad bd sc tl tat tb cn cf sn sf tn tf vv ov)) → va_S A s.heap H locs → ∀ (ls : Array Slot), lv_has ls 29 [(0, .ref (ad 0)), (1, .ref qn), (2, .ref qf), (4, .ref qe), (7, .int v1), (8, .int v2)] → W p l e (rmX 10 183) s m args below meth c H locs 0 0 (lxM G A below (some (.int res.1)) (fun w => w = ((qn, .inl (g 0, 2, .inl res.2.1)) :: (qf, .inl (g 0, 16, .inl res.2.2.1)) :: (qv, .inl (g 0, 16, .inl res.2.2.2.1)) :: (qe, .inl (g 0, 16, .inl res.2.2.2.2.1)) :: (qw, .inl (g 0, 16, .inl res.2.2.2.2.2.1)) :: (wX g ad res.2.2.2.2.2.2.1 res.2.2.2.2.2.2.2.1 tl tat tb res.2.2.2.2.2.2.2.2.1 res.2.2.2.2.2.2.2.2.2.1 res.2.2.2.2.2.2.2.2.2.2.1 res.2.2.2.2.2.2.2.2.2.2.2 tn tf vv ov))) args s) (F0 m 932 ls []) := by
  obtain ⟨hx, hb, hml, hr, hown, hts, hk⟩ := id X
  intro H locs hP hD hS ls hl
  unfold F_L_acts_932 at hq
  refine lv_iload hx hb dL_acts_932 (lv_at hl 5 rfl) ?_
  refine lv_sipush (v := 700) hx hb dL_acts_934 (by decide) ?_
  refine lv_irem hx hb dL_acts_937 (by decide) ?_
  refine lv_topi (fun x3 ex3 => ?_)
  have hq := q_let hq ex3
  refine lv_istore (lv' := [(21, .int x3), (0, .ref (ad 0)), (1, .ref qn), (2, .ref qf), (4, .ref qe), (7, .int v1), (8, .int v2)]) hx hb dL_acts_938 hl (by decide) rfl (fun ls hl => ?_)
  refine lv_iload hx hb dL_acts_940 (lv_at hl 0 rfl) ?_
  refine lv_iconst (v := 1) hx hb dL_acts_942 (by decide) ?_
  refine lv_iadd hx hb dL_acts_943 ?_
  refine lv_iload hx hb dL_acts_944 (lv_at hl 6 rfl) ?_
  refine lv_bipush (v := 7) hx hb dL_acts_946 (by decide) ?_
  refine lv_idiv hx hb dL_acts_948 (by decide) ?_
  refine lv_iload hx hb dL_acts_949 (lv_at hl 6 rfl) ?_
  refine lv_iconst (v := 3) hx hb dL_acts_951 (by decide) ?_
  refine lv_irem hx hb dL_acts_952 (by decide) ?_
  refine lv_if_ne (tgt := 962) hx hb dL_acts_953 (by decide) (fun c4 => ?_) (fun c4 => ?_)
  · have hq := q_if_f hq c4
    refine lv_bipush (v := 40) hx hb dL_acts_962 (by decide) ?_
    exact w_L_acts_964 X K hA hs hnc hf0 ad qn qf qv qe qw tl tat tb tn tf vv ov an af av ae aw bd sc cn cf sn sf v1 v2 x3 (x3 + 1) (v2 / 7) 40 _ hq _ _ hP hD hS ls (lv_sub hl [1, 2, 3, 4, 5, 6, 0] rfl)
  · have hq := q_if_t hq c4
    refine lv_sipush (v := 299) hx hb dL_acts_956 (by decide) ?_
    refine lv_goto (tgt := 964) hx hb dL_acts_959 (by decide) ?_
    exact w_L_acts_964 X K hA hs hnc hf0 ad qn qf qv qe qw tl tat tb tn tf vv ov an af av ae aw bd sc cn cf sn sf v1 v2 x3 (x3 + 1) (v2 / 7) 299 _ hq _ _ hP hD hS ls (lv_sub hl [1, 2, 3, 4, 5, 6, 0] rfl)
def F_L_acts_1254 (an : Nat → Int32) (af : Nat → Int32) (av : Nat → Int32) (ae : Nat → Int32) (aw : Nat → Int32) (bd : Nat → Nat → Nat) (sc : Int32) (cn : Nat → Int32) (cf : Nat → Nat → Int32) (sn : Nat → Nat → Int32) (sf : Nat → Nat → Nat → Int32) (v1 : Int32) (v2 : Int32) (v3 : Int32) (v4 : Int32) : Option (Int32 × (Nat → Int32) × (Nat → Int32) × (Nat → Int32) × (Nat → Int32) × (Nat → Int32) × (Nat → Nat → Nat) × Int32 × (Nat → Int32) × (Nat → Nat → Int32) × (Nat → Nat → Int32) × (Nat → Nat → Nat → Int32)) := if v4 = 0 then ((F_L_copies bd sc cn cf sn sf v1 v3 v2).bind fun o14 => if o14.1 = (-10000003) then (some (1, an, af, av, ae, aw, o14.2.1, o14.2.2.1, o14.2.2.2.1, o14.2.2.2.2.1, o14.2.2.2.2.2.1, o14.2.2.2.2.2.2)) else (some (0, an, af, av, ae, aw, o14.2.1, o14.2.2.1, o14.2.2.2.1, o14.2.2.2.2.1, o14.2.2.2.2.2.1, o14.2.2.2.2.2.2))) else ((F_L_copies bd sc cn cf sn sf v1 4 v2).bind fun o24 => if o24.1 = (-10000001) then (some (1, an, af, av, ae, aw, o24.2.1, o24.2.2.1, o24.2.2.2.1, o24.2.2.2.2.1, o24.2.2.2.2.2.1, o24.2.2.2.2.2.2)) else (some (0, an, af, av, ae, aw, o24.2.1, o24.2.2.1, o24.2.2.2.1, o24.2.2.2.2.1, o24.2.2.2.2.2.1, o24.2.2.2.2.2.2)))
set_option maxHeartbeats 4000000 in
set_option maxRecDepth 100000 in
theorem w_L_acts_1254 {p : Program} {l : Launch} {e : Env} {s : State} {m : MethodId} {args : Array Value} {below : List Frame} {meth : Method} {c : Code} {G : va_G} {g : Nat → ClassId} (X : cx p s m args meth c cL_acts 29 (some .boolean) RL wsL_acts) (K : amb G g s) {A : Nat → Prop} (hA : ∀ q : Nat, s.heap.size ≤ q → A q) (hs : exS A s s.heap) (hnc : ncs s) (hf0 : l.stackTraces = false) (ad : Nat → Nat) (qn qf qv qe qw : Nat) (tl : Int32) (tat : Int32) (tb : Nat → Int32) (tn : Int32) (tf : Nat → Int32) (vv : Nat → Int32) (ov : Nat → Int32) (an : Nat → Int32) (af : Nat → Int32) (av : Nat → Int32) (ae : Nat → Int32) (aw : Nat → Int32) (bd : Nat → Nat → Nat) (sc : Int32) (cn : Nat → Int32) (cf : Nat → Nat → Int32) (sn : Nat → Nat → Int32) (sf : Nat → Nat → Nat → Int32) (v1 : Int32) (v2 : Int32) (v3 : Int32) (v4 : Int32) (res : Int32 × (Nat → Int32) × (Nat → Int32) × (Nat → Int32) × (Nat → Int32) × (Nat → Int32) × (Nat → Nat → Nat) × Int32 × (Nat → Int32) × (Nat → Nat → Int32) × (Nat → Nat → Int32) × (Nat → Nat → Nat → Int32)) (hq : F_L_acts_1254 an af av ae aw bd sc cn cf sn sf v1 v2 v3 v4 = some res) : ∀ (H : Heap) (locs : List Loc), va_P G vwCl ((qn, .inl (g 0, 2, .inl an)) :: (qf, .inl (g 0, 16, .inl af)) :: (qv, .inl (g 0, 16, .inl av)) :: (qe, .inl (g 0, 16, .inl ae)) :: (qw, .inl (g 0, 16, .inl aw)) :: (wX g ad bd sc tl tat tb cn cf sn sf tn tf vv ov)) H → va_D A ((qn, .inl (g 0, 2, .inl an)) :: (qf, .inl (g 0, 16, .inl af)) :: (qv, .inl (g 0, 16, .inl av)) :: (qe, .inl (g 0, 16, .inl ae)) :: (qw, .inl (g 0, 16, .inl aw)) :: (wX g ad bd sc tl tat tb cn cf sn sf tn tf vv ov)) → va_S A s.heap H locs → ∀ (ls : Array Slot), lv_has ls 29 [(0, .ref (ad 0)), (7, .int v1), (25, .int v2), (26, .int v3), (27, .int v4)] → W p l e (rmX 10 183) s m args below meth c H locs 0 0 (lxM G A below (some (.int res.1)) (fun w => w = ((qn, .inl (g 0, 2, .inl res.2.1)) :: (qf, .inl (g 0, 16, .inl res.2.2.1)) :: (qv, .inl (g 0, 16, .inl res.2.2.2.1)) :: (qe, .inl (g 0, 16, .inl res.2.2.2.2.1)) :: (qw, .inl (g 0, 16, .inl res.2.2.2.2.2.1)) :: (wX g ad res.2.2.2.2.2.2.1 res.2.2.2.2.2.2.2.1 tl tat tb res.2.2.2.2.2.2.2.2.1 res.2.2.2.2.2.2.2.2.2.1 res.2.2.2.2.2.2.2.2.2.2.1 res.2.2.2.2.2.2.2.2.2.2.2 tn tf vv ov))) args s) (F0 m 1254 ls []) := by
  obtain ⟨hx, hb, hml, hr, hown, hts, hk⟩ := id X
  intro H locs hP hD hS ls hl
  unfold F_L_acts_1254 at hq
  refine lv_iload hx hb dL_acts_1254 (lv_at hl 4 rfl) ?_
  refine lv_if_eq (tgt := 1281) hx hb dL_acts_1256 (by decide) (fun c5 => ?_) (fun c5 => ?_)
  · have hq := q_if_t hq c5
    refine lv_aload_n hx hb dL_acts_1281 rfl (lv_at hl 0 rfl) ?_
    refine lv_iload hx hb dL_acts_1282 (lv_at hl 1 rfl) ?_
    refine lv_iload hx hb dL_acts_1284 (lv_at hl 3 rfl) ?_
    refine lv_iload hx hb dL_acts_1286 (lv_at hl 2 rfl) ?_
    obtain ⟨⟨r6, y7, y8, y9, y10, y11, y12⟩, hh13, hq⟩ := q_bd hq
    refine lxS (As := [.ref (ad 0), .int v1, .int v3, .int v2]) (rest := []) (wr := [(qn, .inl (g 0, 2, .inl an)), (qf, .inl (g 0, 16, .inl af)), (qv, .inl (g 0, 16, .inl av)), (qe, .inl (g 0, 16, .inl ae)), (qw, .inl (g 0, 16, .inl aw))]) X K hs hnc (k_L_copies l hf0 G g ad bd sc tl tat tb cn cf sn sf tn tf vv ov v1 v3 v2 _ hh13) hd_L_copies gL_acts_L_copies hP hD hS hA hl.1 dL_acts_1288 rfl rfl ⟨Nat.le_of_ble_eq_true rfl, Nat.le_of_ble_eq_true rfl⟩ rfl (Nat.le_of_ble_eq_true rfl) ⟨Nat.le_of_ble_eq_true rfl, Nat.le_of_ble_eq_true rfl⟩ (fun w1 H locs hp hP hD hS => ?_)
    have hp : w1 = (wX g ad y7 y8 tl tat tb y9 y10 y11 y12 tn tf vv ov) := hp
    subst hp
    have hP : va_P G vwCl ((qn, .inl (g 0, 2, .inl an)) :: (qf, .inl (g 0, 16, .inl af)) :: (qv, .inl (g 0, 16, .inl av)) :: (qe, .inl (g 0, 16, .inl ae)) :: (qw, .inl (g 0, 16, .inl aw)) :: (wX g ad y7 y8 tl tat tb y9 y10 y11 y12 tn tf vv ov)) H := hP
    have hD : va_D A ((qn, .inl (g 0, 2, .inl an)) :: (qf, .inl (g 0, 16, .inl af)) :: (qv, .inl (g 0, 16, .inl av)) :: (qe, .inl (g 0, 16, .inl ae)) :: (qw, .inl (g 0, 16, .inl aw)) :: (wX g ad y7 y8 tl tat tb y9 y10 y11 y12 tn tf vv ov)) := hD
    refine lv_ldc (v := (-10000003)) hx hb hown (hts _ (List.mem_of_getElem? (i := 3) rfl)) dL_acts_1291 ?_
    refine lv_icmp_ne (tgt := 1300) hx hb dL_acts_1293 (by decide) (fun c15 => ?_) (fun c15 => ?_)
    · have hq := q_if_f hq c15
      refine lv_iconst (v := 0) hx hb dL_acts_1300 (by decide) ?_
      obtain rfl := q_rt hq
      exact lx_zret hx hb hr nz_0 hk rfl hP hD hS dL_acts_1301
    · have hq := q_if_t hq c15
      refine lv_iconst (v := 1) hx hb dL_acts_1296 (by decide) ?_
      refine lv_goto (tgt := 1301) hx hb dL_acts_1297 (by decide) ?_
      obtain rfl := q_rt hq
      exact lx_zret hx hb hr nz_1 hk rfl hP hD hS dL_acts_1301
  · have hq := q_if_f hq c5
    refine lv_aload_n hx hb dL_acts_1259 rfl (lv_at hl 0 rfl) ?_
    refine lv_iload hx hb dL_acts_1260 (lv_at hl 1 rfl) ?_
    refine lv_iconst (v := 4) hx hb dL_acts_1262 (by decide) ?_
    refine lv_iload hx hb dL_acts_1263 (lv_at hl 2 rfl) ?_
    obtain ⟨⟨r16, y17, y18, y19, y20, y21, y22⟩, hh23, hq⟩ := q_bd hq
    refine lxS (As := [.ref (ad 0), .int v1, .int 4, .int v2]) (rest := []) (wr := [(qn, .inl (g 0, 2, .inl an)), (qf, .inl (g 0, 16, .inl af)), (qv, .inl (g 0, 16, .inl av)), (qe, .inl (g 0, 16, .inl ae)), (qw, .inl (g 0, 16, .inl aw))]) X K hs hnc (k_L_copies l hf0 G g ad bd sc tl tat tb cn cf sn sf tn tf vv ov v1 4 v2 _ hh23) hd_L_copies gL_acts_L_copies hP hD hS hA hl.1 dL_acts_1265 rfl rfl ⟨Nat.le_of_ble_eq_true rfl, Nat.le_of_ble_eq_true rfl⟩ rfl (Nat.le_of_ble_eq_true rfl) ⟨Nat.le_of_ble_eq_true rfl, Nat.le_of_ble_eq_true rfl⟩ (fun w1 H locs hp hP hD hS => ?_)
    have hp : w1 = (wX g ad y17 y18 tl tat tb y19 y20 y21 y22 tn tf vv ov) := hp
    subst hp
    have hP : va_P G vwCl ((qn, .inl (g 0, 2, .inl an)) :: (qf, .inl (g 0, 16, .inl af)) :: (qv, .inl (g 0, 16, .inl av)) :: (qe, .inl (g 0, 16, .inl ae)) :: (qw, .inl (g 0, 16, .inl aw)) :: (wX g ad y17 y18 tl tat tb y19 y20 y21 y22 tn tf vv ov)) H := hP
    have hD : va_D A ((qn, .inl (g 0, 2, .inl an)) :: (qf, .inl (g 0, 16, .inl af)) :: (qv, .inl (g 0, 16, .inl av)) :: (qe, .inl (g 0, 16, .inl ae)) :: (qw, .inl (g 0, 16, .inl aw)) :: (wX g ad y17 y18 tl tat tb y19 y20 y21 y22 tn tf vv ov)) := hD
    refine lv_ldc (v := (-10000001)) hx hb hown (hts _ (List.mem_of_getElem? (i := 4) rfl)) dL_acts_1268 ?_
    refine lv_icmp_ne (tgt := 1277) hx hb dL_acts_1270 (by decide) (fun c25 => ?_) (fun c25 => ?_)
    · have hq := q_if_f hq c25
      refine lv_iconst (v := 0) hx hb dL_acts_1277 (by decide) ?_
      refine lv_goto (tgt := 1301) hx hb dL_acts_1278 (by decide) ?_
      obtain rfl := q_rt hq
      exact lx_zret hx hb hr nz_0 hk rfl hP hD hS dL_acts_1301
    · have hq := q_if_t hq c25
      refine lv_iconst (v := 1) hx hb dL_acts_1273 (by decide) ?_
      refine lv_goto (tgt := 1301) hx hb dL_acts_1274 (by decide) ?_
      obtain rfl := q_rt hq
      exact lx_zret hx hb hr nz_1 hk rfl hP hD hS dL_acts_1301
def F_L_acts_1313 (an : Nat → Int32) (bd : Nat → Nat → Nat) (sc : Int32) (cn : Nat → Int32) (cf : Nat → Nat → Int32) (sn : Nat → Nat → Int32) (sf : Nat → Nat → Nat → Int32) (v1 : Int32) (v2 : Int32) (v3 : Int32) : Nat → (Nat → Int32) → (Nat → Int32) → (Nat → Int32) → (Nat → Int32) → Int32 → Option (Int32 × (Nat → Int32) × (Nat → Int32) × (Nat → Int32) × (Nat → Int32) × (Nat → Int32) × (Nat → Nat → Nat) × Int32 × (Nat → Int32) × (Nat → Nat → Int32) × (Nat → Nat → Int32) × (Nat → Nat → Nat → Int32))
  | 0, _, _, _, _, _ => none
  | n + 1, af, av, ae, aw, v4 => vgd (ix (v1) 2) <| if (an v1.toNatClampNeg) ≤ v4 then ((F_L_copies bd sc cn cf sn sf v1 v3 v2).bind fun o15 => vgd (ix (v1) 2) <| if o15.1 = (an v1.toNatClampNeg) then (some (1, an, af, av, ae, aw, o15.2.1, o15.2.2.1, o15.2.2.2.1, o15.2.2.2.2.1, o15.2.2.2.2.2.1, o15.2.2.2.2.2.2)) else (some (0, an, af, av, ae, aw, o15.2.1, o15.2.2.1, o15.2.2.2.1, o15.2.2.2.2.1, o15.2.2.2.2.2.1, o15.2.2.2.2.2.2))) else (vgd (ix (((8 : Int32) * v3) + v4) 16) <| vgd (ix (((8 : Int32) * v1) + v4) 16) <| vlet (upd af (((8 : Int32) * v1) + v4).toNatClampNeg (af (((8 : Int32) * v3) + v4).toNatClampNeg)) fun f20 => vgd (ix (((8 : Int32) * v3) + v4) 16) <| vgd (ix (((8 : Int32) * v1) + v4) 16) <| vlet (upd av (((8 : Int32) * v1) + v4).toNatClampNeg ((av (((8 : Int32) * v3) + v4).toNatClampNeg) + v2)) fun f23 => vgd (ix (((8 : Int32) * v3) + v4) 16) <| vgd (ix (((8 : Int32) * v1) + v4) 16) <| vlet (upd ae (((8 : Int32) * v1) + v4).toNatClampNeg (ae (((8 : Int32) * v3) + v4).toNatClampNeg)) fun f26 => vgd (ix (((8 : Int32) * v3) + v4) 16) <| vgd (ix (((8 : Int32) * v1) + v4) 16) <| vlet (upd aw (((8 : Int32) * v1) + v4).toNatClampNeg (aw (((8 : Int32) * v3) + v4).toNatClampNeg)) fun f29 => vlet ((v4 : Int32) + 1) fun x30 => F_L_acts_1313 an bd sc cn cf sn sf v1 v2 v3 n f20 f23 f26 f29 x30)
set_option maxHeartbeats 4000000 in
set_option maxRecDepth 100000 in
theorem w_L_acts_1313 {p : Program} {l : Launch} {e : Env} {s : State} {m : MethodId} {args : Array Value} {below : List Frame} {meth : Method} {c : Code} {G : va_G} {g : Nat → ClassId} (X : cx p s m args meth c cL_acts 29 (some .boolean) RL wsL_acts) (K : amb G g s) {A : Nat → Prop} (hA : ∀ q : Nat, s.heap.size ≤ q → A q) (hs : exS A s s.heap) (hnc : ncs s) (hf0 : l.stackTraces = false) (ad : Nat → Nat) (qn qf qv qe qw : Nat) (tl : Int32) (tat : Int32) (tb : Nat → Int32) (tn : Int32) (tf : Nat → Int32) (vv : Nat → Int32) (ov : Nat → Int32) (an : Nat → Int32) (bd : Nat → Nat → Nat) (sc : Int32) (cn : Nat → Int32) (cf : Nat → Nat → Int32) (sn : Nat → Nat → Int32) (sf : Nat → Nat → Nat → Int32) (v1 : Int32) (v2 : Int32) (v3 : Int32) (res : Int32 × (Nat → Int32) × (Nat → Int32) × (Nat → Int32) × (Nat → Int32) × (Nat → Int32) × (Nat → Nat → Nat) × Int32 × (Nat → Int32) × (Nat → Nat → Int32) × (Nat → Nat → Int32) × (Nat → Nat → Nat → Int32)) : ∀ (n : Nat) (af : Nat → Int32) (av : Nat → Int32) (ae : Nat → Int32) (aw : Nat → Int32) (v4 : Int32), F_L_acts_1313 an bd sc cn cf sn sf v1 v2 v3 n af av ae aw v4 = some res → ∀ (H : Heap) (locs : List Loc), va_P G vwCl ((qn, .inl (g 0, 2, .inl an)) :: (qf, .inl (g 0, 16, .inl af)) :: (qv, .inl (g 0, 16, .inl av)) :: (qe, .inl (g 0, 16, .inl ae)) :: (qw, .inl (g 0, 16, .inl aw)) :: (wX g ad bd sc tl tat tb cn cf sn sf tn tf vv ov)) H → va_D A ((qn, .inl (g 0, 2, .inl an)) :: (qf, .inl (g 0, 16, .inl af)) :: (qv, .inl (g 0, 16, .inl av)) :: (qe, .inl (g 0, 16, .inl ae)) :: (qw, .inl (g 0, 16, .inl aw)) :: (wX g ad bd sc tl tat tb cn cf sn sf tn tf vv ov)) → va_S A s.heap H locs → ∀ (ls : Array Slot), lv_has ls 29 [(0, .ref (ad 0)), (1, .ref qn), (2, .ref qf), (3, .ref qv), (4, .ref qe), (5, .ref qw), (7, .int v1), (25, .int v2), (26, .int v3), (28, .int v4)] → W p l e (rmX 10 183) s m args below meth c H locs 0 0 (lxM G A below (some (.int res.1)) (fun w => w = ((qn, .inl (g 0, 2, .inl res.2.1)) :: (qf, .inl (g 0, 16, .inl res.2.2.1)) :: (qv, .inl (g 0, 16, .inl res.2.2.2.1)) :: (qe, .inl (g 0, 16, .inl res.2.2.2.2.1)) :: (qw, .inl (g 0, 16, .inl res.2.2.2.2.2.1)) :: (wX g ad res.2.2.2.2.2.2.1 res.2.2.2.2.2.2.2.1 tl tat tb res.2.2.2.2.2.2.2.2.1 res.2.2.2.2.2.2.2.2.2.1 res.2.2.2.2.2.2.2.2.2.2.1 res.2.2.2.2.2.2.2.2.2.2.2 tn tf vv ov))) args s) (F0 m 1313 ls []) := by
  obtain ⟨hx, hb, hml, hr, hown, hts, hk⟩ := id X
  intro n
  induction n with
  | zero => intro af av ae aw v4 hq; exact q_no hq
  | succ n ih =>
    intro af av ae aw v4 hq H locs hP hD hS ls hl
    rw [F_L_acts_1313] at hq
    refine lv_iload hx hb dL_acts_1313 (lv_at hl 9 rfl) ?_
    refine lv_aload_n hx hb dL_acts_1315 rfl (lv_at hl 1 rfl) ?_
    refine lv_iload hx hb dL_acts_1316 (lv_at hl 6 rfl) ?_
    obtain ⟨hh5, hq⟩ := q_gd hq
    refine va_iald hx hb K.1 hP 0 0 rfl rfl (vp_in_iff.mpr hh5) dL_acts_1318 ?_
    refine lv_icmp_ge (tgt := 1415) hx hb dL_acts_1319 (by decide) (fun c6 => ?_) (fun c6 => ?_)
    · have hq := q_if_t hq c6
      refine lv_aload_n hx hb dL_acts_1415 rfl (lv_at hl 0 rfl) ?_
      refine lv_iload hx hb dL_acts_1416 (lv_at hl 6 rfl) ?_
      refine lv_iload hx hb dL_acts_1418 (lv_at hl 8 rfl) ?_
      refine lv_iload hx hb dL_acts_1420 (lv_at hl 7 rfl) ?_
      obtain ⟨⟨r7, y8, y9, y10, y11, y12, y13⟩, hh14, hq⟩ := q_bd hq
      refine lxS (As := [.ref (ad 0), .int v1, .int v3, .int v2]) (rest := []) (wr := [(qn, .inl (g 0, 2, .inl an)), (qf, .inl (g 0, 16, .inl af)), (qv, .inl (g 0, 16, .inl av)), (qe, .inl (g 0, 16, .inl ae)), (qw, .inl (g 0, 16, .inl aw))]) X K hs hnc (k_L_copies l hf0 G g ad bd sc tl tat tb cn cf sn sf tn tf vv ov v1 v3 v2 _ hh14) hd_L_copies gL_acts_L_copies hP hD hS hA hl.1 dL_acts_1422 rfl rfl ⟨Nat.le_of_ble_eq_true rfl, Nat.le_of_ble_eq_true rfl⟩ rfl (Nat.le_of_ble_eq_true rfl) ⟨Nat.le_of_ble_eq_true rfl, Nat.le_of_ble_eq_true rfl⟩ (fun w1 H locs hp hP hD hS => ?_)
      have hp : w1 = (wX g ad y8 y9 tl tat tb y10 y11 y12 y13 tn tf vv ov) := hp
      subst hp
      have hP : va_P G vwCl ((qn, .inl (g 0, 2, .inl an)) :: (qf, .inl (g 0, 16, .inl af)) :: (qv, .inl (g 0, 16, .inl av)) :: (qe, .inl (g 0, 16, .inl ae)) :: (qw, .inl (g 0, 16, .inl aw)) :: (wX g ad y8 y9 tl tat tb y10 y11 y12 y13 tn tf vv ov)) H := hP
      have hD : va_D A ((qn, .inl (g 0, 2, .inl an)) :: (qf, .inl (g 0, 16, .inl af)) :: (qv, .inl (g 0, 16, .inl av)) :: (qe, .inl (g 0, 16, .inl ae)) :: (qw, .inl (g 0, 16, .inl aw)) :: (wX g ad y8 y9 tl tat tb y10 y11 y12 y13 tn tf vv ov)) := hD
      refine lv_aload_n hx hb dL_acts_1425 rfl (lv_at hl 1 rfl) ?_
      refine lv_iload hx hb dL_acts_1426 (lv_at hl 6 rfl) ?_
      obtain ⟨hh16, hq⟩ := q_gd hq
      refine va_iald hx hb K.1 hP 0 0 rfl rfl (vp_in_iff.mpr hh16) dL_acts_1428 ?_
      refine lv_icmp_ne (tgt := 1436) hx hb dL_acts_1429 (by decide) (fun c17 => ?_) (fun c17 => ?_)
      · have hq := q_if_f hq c17
        refine lv_iconst (v := 0) hx hb dL_acts_1436 (by decide) ?_
        obtain rfl := q_rt hq
        exact lx_zret hx hb hr nz_0 hk rfl hP hD hS dL_acts_1437
      · have hq := q_if_t hq c17
        refine lv_iconst (v := 1) hx hb dL_acts_1432 (by decide) ?_
        refine lv_goto (tgt := 1437) hx hb dL_acts_1433 (by decide) ?_
        obtain rfl := q_rt hq
        exact lx_zret hx hb hr nz_1 hk rfl hP hD hS dL_acts_1437
    · have hq := q_if_f hq c6
      refine lv_aload_n hx hb dL_acts_1322 rfl (lv_at hl 2 rfl) ?_
      refine lv_bipush (v := 8) hx hb dL_acts_1323 (by decide) ?_
      refine lv_iload hx hb dL_acts_1325 (lv_at hl 6 rfl) ?_
      refine lv_imul hx hb dL_acts_1327 ?_
      refine lv_iload hx hb dL_acts_1328 (lv_at hl 9 rfl) ?_
      refine lv_iadd hx hb dL_acts_1330 ?_
      refine lv_aload_n hx hb dL_acts_1331 rfl (lv_at hl 2 rfl) ?_
      refine lv_bipush (v := 8) hx hb dL_acts_1332 (by decide) ?_
      refine lv_iload hx hb dL_acts_1334 (lv_at hl 8 rfl) ?_
      refine lv_imul hx hb dL_acts_1336 ?_
      refine lv_iload hx hb dL_acts_1337 (lv_at hl 9 rfl) ?_
      refine lv_iadd hx hb dL_acts_1339 ?_
      obtain ⟨hh18, hq⟩ := q_gd hq
      refine va_iald hx hb K.1 hP 1 0 rfl rfl (vp_in_iff.mpr hh18) dL_acts_1340 ?_
      obtain ⟨hh19, hq⟩ := q_gd hq
      refine va_iast hx hb K.1 hP hD hS 1 0 rfl rfl (vp_in_iff.mpr hh19) dL_acts_1341 (fun H locs hP hD hS => ?_)
      obtain ⟨f20, ef20⟩ : ∃ y, y = upd af (((8 : Int32) * v1) + v4).toNatClampNeg (af (((8 : Int32) * v3) + v4).toNatClampNeg) := ⟨_, rfl⟩
      have hq := q_let hq ef20
      have hP : va_P G vwCl ((qn, .inl (g 0, 2, .inl an)) :: (qf, .inl (g 0, 16, .inl f20)) :: (qv, .inl (g 0, 16, .inl av)) :: (qe, .inl (g 0, 16, .inl ae)) :: (qw, .inl (g 0, 16, .inl aw)) :: (wX g ad bd sc tl tat tb cn cf sn sf tn tf vv ov)) H := by rw [ef20]; exact hP
      have hD : va_D A ((qn, .inl (g 0, 2, .inl an)) :: (qf, .inl (g 0, 16, .inl f20)) :: (qv, .inl (g 0, 16, .inl av)) :: (qe, .inl (g 0, 16, .inl ae)) :: (qw, .inl (g 0, 16, .inl aw)) :: (wX g ad bd sc tl tat tb cn cf sn sf tn tf vv ov)) := by rw [ef20]; exact hD
      refine lv_aload_n hx hb dL_acts_1342 rfl (lv_at hl 3 rfl) ?_
      refine lv_bipush (v := 8) hx hb dL_acts_1343 (by decide) ?_
      refine lv_iload hx hb dL_acts_1345 (lv_at hl 6 rfl) ?_
      refine lv_imul hx hb dL_acts_1347 ?_
      refine lv_iload hx hb dL_acts_1348 (lv_at hl 9 rfl) ?_
      refine lv_iadd hx hb dL_acts_1350 ?_
      refine lv_aload_n hx hb dL_acts_1351 rfl (lv_at hl 3 rfl) ?_
      refine lv_bipush (v := 8) hx hb dL_acts_1352 (by decide) ?_
      refine lv_iload hx hb dL_acts_1354 (lv_at hl 8 rfl) ?_
      refine lv_imul hx hb dL_acts_1356 ?_
      refine lv_iload hx hb dL_acts_1357 (lv_at hl 9 rfl) ?_
      refine lv_iadd hx hb dL_acts_1359 ?_
      obtain ⟨hh21, hq⟩ := q_gd hq
      refine va_iald hx hb K.1 hP 2 0 rfl rfl (vp_in_iff.mpr hh21) dL_acts_1360 ?_
      refine lv_iload hx hb dL_acts_1361 (lv_at hl 7 rfl) ?_
      refine lv_iadd hx hb dL_acts_1363 ?_
      obtain ⟨hh22, hq⟩ := q_gd hq
      refine va_iast hx hb K.1 hP hD hS 2 0 rfl rfl (vp_in_iff.mpr hh22) dL_acts_1364 (fun H locs hP hD hS => ?_)
      obtain ⟨f23, ef23⟩ : ∃ y, y = upd av (((8 : Int32) * v1) + v4).toNatClampNeg ((av (((8 : Int32) * v3) + v4).toNatClampNeg) + v2) := ⟨_, rfl⟩
      have hq := q_let hq ef23
      have hP : va_P G vwCl ((qn, .inl (g 0, 2, .inl an)) :: (qf, .inl (g 0, 16, .inl f20)) :: (qv, .inl (g 0, 16, .inl f23)) :: (qe, .inl (g 0, 16, .inl ae)) :: (qw, .inl (g 0, 16, .inl aw)) :: (wX g ad bd sc tl tat tb cn cf sn sf tn tf vv ov)) H := by rw [ef23]; exact hP
      have hD : va_D A ((qn, .inl (g 0, 2, .inl an)) :: (qf, .inl (g 0, 16, .inl f20)) :: (qv, .inl (g 0, 16, .inl f23)) :: (qe, .inl (g 0, 16, .inl ae)) :: (qw, .inl (g 0, 16, .inl aw)) :: (wX g ad bd sc tl tat tb cn cf sn sf tn tf vv ov)) := by rw [ef23]; exact hD
      refine lv_aload hx hb dL_acts_1365 (lv_at hl 4 rfl) ?_
      refine lv_bipush (v := 8) hx hb dL_acts_1367 (by decide) ?_
      refine lv_iload hx hb dL_acts_1369 (lv_at hl 6 rfl) ?_
      refine lv_imul hx hb dL_acts_1371 ?_
      refine lv_iload hx hb dL_acts_1372 (lv_at hl 9 rfl) ?_
      refine lv_iadd hx hb dL_acts_1374 ?_
      refine lv_aload hx hb dL_acts_1375 (lv_at hl 4 rfl) ?_
      refine lv_bipush (v := 8) hx hb dL_acts_1377 (by decide) ?_
      refine lv_iload hx hb dL_acts_1379 (lv_at hl 8 rfl) ?_
      refine lv_imul hx hb dL_acts_1381 ?_
      refine lv_iload hx hb dL_acts_1382 (lv_at hl 9 rfl) ?_
      refine lv_iadd hx hb dL_acts_1384 ?_
      obtain ⟨hh24, hq⟩ := q_gd hq
      refine va_iald hx hb K.1 hP 3 0 rfl rfl (vp_in_iff.mpr hh24) dL_acts_1385 ?_
      obtain ⟨hh25, hq⟩ := q_gd hq
      refine va_iast hx hb K.1 hP hD hS 3 0 rfl rfl (vp_in_iff.mpr hh25) dL_acts_1386 (fun H locs hP hD hS => ?_)
      obtain ⟨f26, ef26⟩ : ∃ y, y = upd ae (((8 : Int32) * v1) + v4).toNatClampNeg (ae (((8 : Int32) * v3) + v4).toNatClampNeg) := ⟨_, rfl⟩
      have hq := q_let hq ef26
      have hP : va_P G vwCl ((qn, .inl (g 0, 2, .inl an)) :: (qf, .inl (g 0, 16, .inl f20)) :: (qv, .inl (g 0, 16, .inl f23)) :: (qe, .inl (g 0, 16, .inl f26)) :: (qw, .inl (g 0, 16, .inl aw)) :: (wX g ad bd sc tl tat tb cn cf sn sf tn tf vv ov)) H := by rw [ef26]; exact hP
      have hD : va_D A ((qn, .inl (g 0, 2, .inl an)) :: (qf, .inl (g 0, 16, .inl f20)) :: (qv, .inl (g 0, 16, .inl f23)) :: (qe, .inl (g 0, 16, .inl f26)) :: (qw, .inl (g 0, 16, .inl aw)) :: (wX g ad bd sc tl tat tb cn cf sn sf tn tf vv ov)) := by rw [ef26]; exact hD
      refine lv_aload hx hb dL_acts_1387 (lv_at hl 5 rfl) ?_
      refine lv_bipush (v := 8) hx hb dL_acts_1389 (by decide) ?_
      refine lv_iload hx hb dL_acts_1391 (lv_at hl 6 rfl) ?_
      refine lv_imul hx hb dL_acts_1393 ?_
      refine lv_iload hx hb dL_acts_1394 (lv_at hl 9 rfl) ?_
      refine lv_iadd hx hb dL_acts_1396 ?_
      refine lv_aload hx hb dL_acts_1397 (lv_at hl 5 rfl) ?_
      refine lv_bipush (v := 8) hx hb dL_acts_1399 (by decide) ?_
      refine lv_iload hx hb dL_acts_1401 (lv_at hl 8 rfl) ?_
      refine lv_imul hx hb dL_acts_1403 ?_
      refine lv_iload hx hb dL_acts_1404 (lv_at hl 9 rfl) ?_
      refine lv_iadd hx hb dL_acts_1406 ?_
      obtain ⟨hh27, hq⟩ := q_gd hq
      refine va_iald hx hb K.1 hP 4 0 rfl rfl (vp_in_iff.mpr hh27) dL_acts_1407 ?_
      obtain ⟨hh28, hq⟩ := q_gd hq
      refine va_iast hx hb K.1 hP hD hS 4 0 rfl rfl (vp_in_iff.mpr hh28) dL_acts_1408 (fun H locs hP hD hS => ?_)
      obtain ⟨f29, ef29⟩ : ∃ y, y = upd aw (((8 : Int32) * v1) + v4).toNatClampNeg (aw (((8 : Int32) * v3) + v4).toNatClampNeg) := ⟨_, rfl⟩
      have hq := q_let hq ef29
      have hP : va_P G vwCl ((qn, .inl (g 0, 2, .inl an)) :: (qf, .inl (g 0, 16, .inl f20)) :: (qv, .inl (g 0, 16, .inl f23)) :: (qe, .inl (g 0, 16, .inl f26)) :: (qw, .inl (g 0, 16, .inl f29)) :: (wX g ad bd sc tl tat tb cn cf sn sf tn tf vv ov)) H := by rw [ef29]; exact hP
      have hD : va_D A ((qn, .inl (g 0, 2, .inl an)) :: (qf, .inl (g 0, 16, .inl f20)) :: (qv, .inl (g 0, 16, .inl f23)) :: (qe, .inl (g 0, 16, .inl f26)) :: (qw, .inl (g 0, 16, .inl f29)) :: (wX g ad bd sc tl tat tb cn cf sn sf tn tf vv ov)) := by rw [ef29]; exact hD
      obtain ⟨x30, ex30⟩ : ∃ y : Int32, y = (v4 : Int32) + 1 := ⟨_, rfl⟩
      have hq := q_let hq ex30
      refine lv_iinc (v := x30) (lv' := [(28, .int x30), (0, .ref (ad 0)), (1, .ref qn), (2, .ref qf), (3, .ref qv), (4, .ref qe), (5, .ref qw), (7, .int v1), (25, .int v2), (26, .int v3)]) hx hb dL_acts_1409 hl (k := 9) rfl (by rw [ex30]; rfl) (by decide) rfl (fun ls hl => ?_)
      refine lv_goto (tgt := 1313) hx hb dL_acts_1412 (by decide) ?_
      exact ih f20 f23 f26 f29 x30 hq _ _ hP hD hS ls (lv_sub hl [1, 2, 3, 4, 5, 6, 7, 8, 9, 0] rfl)
def F_L_acts_1183 (an : Nat → Int32) (af : Nat → Int32) (av : Nat → Int32) (ae : Nat → Int32) (aw : Nat → Int32) (bd : Nat → Nat → Nat) (sc : Int32) (cn : Nat → Int32) (cf : Nat → Nat → Int32) (sn : Nat → Nat → Int32) (sf : Nat → Nat → Nat → Int32) (v1 : Int32) (v2 : Int32) (v3 : Int32) (v4 : Int32) : Nat → Int32 → Int32 → Option (Int32 × (Nat → Int32) × (Nat → Int32) × (Nat → Int32) × (Nat → Int32) × (Nat → Int32) × (Nat → Nat → Nat) × Int32 × (Nat → Int32) × (Nat → Nat → Int32) × (Nat → Nat → Int32) × (Nat → Nat → Nat → Int32))
  | 0, _, _ => none
  | n + 1, v5, v6 => vgd (ix (v4) 2) <| if (((8 : Int32) * v4) + (an v4.toNatClampNeg)) ≤ v6 then (if v5 = 0 then (F_L_acts_1254 an af av ae aw bd sc cn cf sn sf v1 v3 v4 v5) else (if (v2 - v2 / 3 * 3) ≤ 0 then (vgd (ix (v4) 2) <| vgd (ix (v1) 2) <| vlet (upd an v1.toNatClampNeg (an v4.toNatClampNeg)) fun f13 => F_L_acts_1313 f13 bd sc cn cf sn sf v1 v3 v4 2000 af av ae aw 0) else (F_L_acts_1254 an af av ae aw bd sc cn cf sn sf v1 v3 v4 v5))) else (if v5 = 0 then (vlet ((v6 : Int32) + 1) fun x15 => F_L_acts_1183 an af av ae aw bd sc cn cf sn sf v1 v2 v3 v4 n 0 x15) else (vgd (ix (v6) 16) <| if (10000 : Int32) ≤ ((av v6.toNatClampNeg) + v3) then (vlet ((v6 : Int32) + 1) fun x18 => F_L_acts_1183 an af av ae aw bd sc cn cf sn sf v1 v2 v3 v4 n 0 x18) else (vgd (ix (v6) 16) <| if ((av v6.toNatClampNeg) + v3) ≤ (-10000) then (vlet ((v6 : Int32) + 1) fun x21 => F_L_acts_1183 an af av ae aw bd sc cn cf sn sf v1 v2 v3 v4 n 0 x21) else (vlet ((v6 : Int32) + 1) fun x22 => F_L_acts_1183 an af av ae aw bd sc cn cf sn sf v1 v2 v3 v4 n 1 x22))))
set_option maxHeartbeats 4000000 in
set_option maxRecDepth 100000 in
theorem w_L_acts_1183 {p : Program} {l : Launch} {e : Env} {s : State} {m : MethodId} {args : Array Value} {below : List Frame} {meth : Method} {c : Code} {G : va_G} {g : Nat → ClassId} (X : cx p s m args meth c cL_acts 29 (some .boolean) RL wsL_acts) (K : amb G g s) {A : Nat → Prop} (hA : ∀ q : Nat, s.heap.size ≤ q → A q) (hs : exS A s s.heap) (hnc : ncs s) (hf0 : l.stackTraces = false) (ad : Nat → Nat) (qn qf qv qe qw : Nat) (tl : Int32) (tat : Int32) (tb : Nat → Int32) (tn : Int32) (tf : Nat → Int32) (vv : Nat → Int32) (ov : Nat → Int32) (an : Nat → Int32) (af : Nat → Int32) (av : Nat → Int32) (ae : Nat → Int32) (aw : Nat → Int32) (bd : Nat → Nat → Nat) (sc : Int32) (cn : Nat → Int32) (cf : Nat → Nat → Int32) (sn : Nat → Nat → Int32) (sf : Nat → Nat → Nat → Int32) (v1 : Int32) (v2 : Int32) (v3 : Int32) (v4 : Int32) (res : Int32 × (Nat → Int32) × (Nat → Int32) × (Nat → Int32) × (Nat → Int32) × (Nat → Int32) × (Nat → Nat → Nat) × Int32 × (Nat → Int32) × (Nat → Nat → Int32) × (Nat → Nat → Int32) × (Nat → Nat → Nat → Int32)) : ∀ (n : Nat) (v5 : Int32) (v6 : Int32), F_L_acts_1183 an af av ae aw bd sc cn cf sn sf v1 v2 v3 v4 n v5 v6 = some res → ∀ (H : Heap) (locs : List Loc), va_P G vwCl ((qn, .inl (g 0, 2, .inl an)) :: (qf, .inl (g 0, 16, .inl af)) :: (qv, .inl (g 0, 16, .inl av)) :: (qe, .inl (g 0, 16, .inl ae)) :: (qw, .inl (g 0, 16, .inl aw)) :: (wX g ad bd sc tl tat tb cn cf sn sf tn tf vv ov)) H → va_D A ((qn, .inl (g 0, 2, .inl an)) :: (qf, .inl (g 0, 16, .inl af)) :: (qv, .inl (g 0, 16, .inl av)) :: (qe, .inl (g 0, 16, .inl ae)) :: (qw, .inl (g 0, 16, .inl aw)) :: (wX g ad bd sc tl tat tb cn cf sn sf tn tf vv ov)) → va_S A s.heap H locs → ∀ (ls : Array Slot), lv_has ls 29 [(0, .ref (ad 0)), (1, .ref qn), (2, .ref qf), (3, .ref qv), (4, .ref qe), (5, .ref qw), (7, .int v1), (8, .int v2), (25, .int v3), (26, .int v4), (27, .int v5), (28, .int v6)] → W p l e (rmX 10 183) s m args below meth c H locs 0 0 (lxM G A below (some (.int res.1)) (fun w => w = ((qn, .inl (g 0, 2, .inl res.2.1)) :: (qf, .inl (g 0, 16, .inl res.2.2.1)) :: (qv, .inl (g 0, 16, .inl res.2.2.2.1)) :: (qe, .inl (g 0, 16, .inl res.2.2.2.2.1)) :: (qw, .inl (g 0, 16, .inl res.2.2.2.2.2.1)) :: (wX g ad res.2.2.2.2.2.2.1 res.2.2.2.2.2.2.2.1 tl tat tb res.2.2.2.2.2.2.2.2.1 res.2.2.2.2.2.2.2.2.2.1 res.2.2.2.2.2.2.2.2.2.2.1 res.2.2.2.2.2.2.2.2.2.2.2 tn tf vv ov))) args s) (F0 m 1183 ls []) := by
  obtain ⟨hx, hb, hml, hr, hown, hts, hk⟩ := id X
  intro n
  induction n with
  | zero => intro v5 v6 hq; exact q_no hq
  | succ n ih =>
    intro v5 v6 hq H locs hP hD hS ls hl
    rw [F_L_acts_1183] at hq
    refine lv_iload hx hb dL_acts_1183 (lv_at hl 11 rfl) ?_
    refine lv_bipush (v := 8) hx hb dL_acts_1185 (by decide) ?_
    refine lv_iload hx hb dL_acts_1187 (lv_at hl 9 rfl) ?_
    refine lv_imul hx hb dL_acts_1189 ?_
    refine lv_aload_n hx hb dL_acts_1190 rfl (lv_at hl 1 rfl) ?_
    refine lv_iload hx hb dL_acts_1191 (lv_at hl 9 rfl) ?_
    obtain ⟨hh7, hq⟩ := q_gd hq
    refine va_iald hx hb K.1 hP 0 0 rfl rfl (vp_in_iff.mpr hh7) dL_acts_1193 ?_
    refine lv_iadd hx hb dL_acts_1194 ?_
    refine lv_icmp_ge (tgt := 1242) hx hb dL_acts_1195 (by decide) (fun c8 => ?_) (fun c8 => ?_)
    · have hq := q_if_t hq c8
      refine lv_iload hx hb dL_acts_1242 (lv_at hl 10 rfl) ?_
      refine lv_if_eq (tgt := 1254) hx hb dL_acts_1244 (by decide) (fun c9 => ?_) (fun c9 => ?_)
      · have hq := q_if_t hq c9
        exact w_L_acts_1254 X K hA hs hnc hf0 ad qn qf qv qe qw tl tat tb tn tf vv ov an af av ae aw bd sc cn cf sn sf v1 v3 v4 v5 _ hq _ _ hP hD hS ls (lv_sub hl [0, 6, 8, 9, 10] rfl)
      · have hq := q_if_f hq c9
        refine lv_iload hx hb dL_acts_1247 (lv_at hl 7 rfl) ?_
        refine lv_iconst (v := 3) hx hb dL_acts_1249 (by decide) ?_
        refine lv_irem hx hb dL_acts_1250 (by decide) ?_
        refine lv_if_le (tgt := 1302) hx hb dL_acts_1251 (by decide) (fun c10 => ?_) (fun c10 => ?_)
        · have hq := q_if_t hq c10
          refine lv_aload_n hx hb dL_acts_1302 rfl (lv_at hl 1 rfl) ?_
          refine lv_iload hx hb dL_acts_1303 (lv_at hl 6 rfl) ?_
          refine lv_aload_n hx hb dL_acts_1305 rfl (lv_at hl 1 rfl) ?_
          refine lv_iload hx hb dL_acts_1306 (lv_at hl 9 rfl) ?_
          obtain ⟨hh11, hq⟩ := q_gd hq
          refine va_iald hx hb K.1 hP 0 0 rfl rfl (vp_in_iff.mpr hh11) dL_acts_1308 ?_
          obtain ⟨hh12, hq⟩ := q_gd hq
          refine va_iast hx hb K.1 hP hD hS 0 0 rfl rfl (vp_in_iff.mpr hh12) dL_acts_1309 (fun H locs hP hD hS => ?_)
          obtain ⟨f13, ef13⟩ : ∃ y, y = upd an v1.toNatClampNeg (an v4.toNatClampNeg) := ⟨_, rfl⟩
          have hq := q_let hq ef13
          have hP : va_P G vwCl ((qn, .inl (g 0, 2, .inl f13)) :: (qf, .inl (g 0, 16, .inl af)) :: (qv, .inl (g 0, 16, .inl av)) :: (qe, .inl (g 0, 16, .inl ae)) :: (qw, .inl (g 0, 16, .inl aw)) :: (wX g ad bd sc tl tat tb cn cf sn sf tn tf vv ov)) H := by rw [ef13]; exact hP
          have hD : va_D A ((qn, .inl (g 0, 2, .inl f13)) :: (qf, .inl (g 0, 16, .inl af)) :: (qv, .inl (g 0, 16, .inl av)) :: (qe, .inl (g 0, 16, .inl ae)) :: (qw, .inl (g 0, 16, .inl aw)) :: (wX g ad bd sc tl tat tb cn cf sn sf tn tf vv ov)) := by rw [ef13]; exact hD
          refine lv_iconst (v := 0) hx hb dL_acts_1310 (by decide) ?_
          refine lv_istore (lv' := [(28, .int 0), (0, .ref (ad 0)), (1, .ref qn), (2, .ref qf), (3, .ref qv), (4, .ref qe), (5, .ref qw), (7, .int v1), (8, .int v2), (25, .int v3), (26, .int v4), (27, .int v5)]) hx hb dL_acts_1311 hl (by decide) rfl (fun ls hl => ?_)
          exact w_L_acts_1313 X K hA hs hnc hf0 ad qn qf qv qe qw tl tat tb tn tf vv ov f13 bd sc cn cf sn sf v1 v3 v4 _ 2000 af av ae aw 0 hq _ _ hP hD hS ls (lv_sub hl [1, 2, 3, 4, 5, 6, 7, 9, 10, 0] rfl)
        · have hq := q_if_f hq c10
          exact w_L_acts_1254 X K hA hs hnc hf0 ad qn qf qv qe qw tl tat tb tn tf vv ov an af av ae aw bd sc cn cf sn sf v1 v3 v4 v5 _ hq _ _ hP hD hS ls (lv_sub hl [0, 6, 8, 9, 10] rfl)
    · have hq := q_if_f hq c8
      refine lv_iload hx hb dL_acts_1198 (lv_at hl 10 rfl) ?_
      refine lv_if_eq (tgt := 1233) hx hb dL_acts_1200 (by decide) (fun c14 => ?_) (fun c14 => ?_)
      · have hq := q_if_t hq c14
        refine lv_iconst (v := 0) hx hb dL_acts_1233 (by decide) ?_
        refine lv_istore (lv' := [(27, .int 0), (0, .ref (ad 0)), (1, .ref qn), (2, .ref qf), (3, .ref qv), (4, .ref qe), (5, .ref qw), (7, .int v1), (8, .int v2), (25, .int v3), (26, .int v4), (28, .int v6)]) hx hb dL_acts_1234 hl (by decide) rfl (fun ls hl => ?_)
        obtain ⟨x15, ex15⟩ : ∃ y : Int32, y = (v6 : Int32) + 1 := ⟨_, rfl⟩
        have hq := q_let hq ex15
        refine lv_iinc (v := x15) (lv' := [(28, .int x15), (27, .int 0), (0, .ref (ad 0)), (1, .ref qn), (2, .ref qf), (3, .ref qv), (4, .ref qe), (5, .ref qw), (7, .int v1), (8, .int v2), (25, .int v3), (26, .int v4)]) hx hb dL_acts_1236 hl (k := 11) rfl (by rw [ex15]; rfl) (by decide) rfl (fun ls hl => ?_)
        refine lv_goto (tgt := 1183) hx hb dL_acts_1239 (by decide) ?_
        exact ih 0 x15 hq _ _ hP hD hS ls (lv_sub hl [2, 3, 4, 5, 6, 7, 8, 9, 10, 11, 1, 0] rfl)
      · have hq := q_if_f hq c14
        refine lv_aload_n hx hb dL_acts_1203 rfl (lv_at hl 3 rfl) ?_
        refine lv_iload hx hb dL_acts_1204 (lv_at hl 11 rfl) ?_
        obtain ⟨hh16, hq⟩ := q_gd hq
        refine va_iald hx hb K.1 hP 2 0 rfl rfl (vp_in_iff.mpr hh16) dL_acts_1206 ?_
        refine lv_iload hx hb dL_acts_1207 (lv_at hl 8 rfl) ?_
        refine lv_iadd hx hb dL_acts_1209 ?_
        refine lv_sipush (v := 10000) hx hb dL_acts_1210 (by decide) ?_
        refine lv_icmp_ge (tgt := 1233) hx hb dL_acts_1213 (by decide) (fun c17 => ?_) (fun c17 => ?_)
        · have hq := q_if_t hq c17
          refine lv_iconst (v := 0) hx hb dL_acts_1233 (by decide) ?_
          refine lv_istore (lv' := [(27, .int 0), (0, .ref (ad 0)), (1, .ref qn), (2, .ref qf), (3, .ref qv), (4, .ref qe), (5, .ref qw), (7, .int v1), (8, .int v2), (25, .int v3), (26, .int v4), (28, .int v6)]) hx hb dL_acts_1234 hl (by decide) rfl (fun ls hl => ?_)
          obtain ⟨x18, ex18⟩ : ∃ y : Int32, y = (v6 : Int32) + 1 := ⟨_, rfl⟩
          have hq := q_let hq ex18
          refine lv_iinc (v := x18) (lv' := [(28, .int x18), (27, .int 0), (0, .ref (ad 0)), (1, .ref qn), (2, .ref qf), (3, .ref qv), (4, .ref qe), (5, .ref qw), (7, .int v1), (8, .int v2), (25, .int v3), (26, .int v4)]) hx hb dL_acts_1236 hl (k := 11) rfl (by rw [ex18]; rfl) (by decide) rfl (fun ls hl => ?_)
          refine lv_goto (tgt := 1183) hx hb dL_acts_1239 (by decide) ?_
          exact ih 0 x18 hq _ _ hP hD hS ls (lv_sub hl [2, 3, 4, 5, 6, 7, 8, 9, 10, 11, 1, 0] rfl)
        · have hq := q_if_f hq c17
          refine lv_aload_n hx hb dL_acts_1216 rfl (lv_at hl 3 rfl) ?_
          refine lv_iload hx hb dL_acts_1217 (lv_at hl 11 rfl) ?_
          obtain ⟨hh19, hq⟩ := q_gd hq
          refine va_iald hx hb K.1 hP 2 0 rfl rfl (vp_in_iff.mpr hh19) dL_acts_1219 ?_
          refine lv_iload hx hb dL_acts_1220 (lv_at hl 8 rfl) ?_
          refine lv_iadd hx hb dL_acts_1222 ?_
          refine lv_sipush (v := (-10000)) hx hb dL_acts_1223 (by decide) ?_
          refine lv_icmp_le (tgt := 1233) hx hb dL_acts_1226 (by decide) (fun c20 => ?_) (fun c20 => ?_)
          · have hq := q_if_t hq c20
            refine lv_iconst (v := 0) hx hb dL_acts_1233 (by decide) ?_
            refine lv_istore (lv' := [(27, .int 0), (0, .ref (ad 0)), (1, .ref qn), (2, .ref qf), (3, .ref qv), (4, .ref qe), (5, .ref qw), (7, .int v1), (8, .int v2), (25, .int v3), (26, .int v4), (28, .int v6)]) hx hb dL_acts_1234 hl (by decide) rfl (fun ls hl => ?_)
            obtain ⟨x21, ex21⟩ : ∃ y : Int32, y = (v6 : Int32) + 1 := ⟨_, rfl⟩
            have hq := q_let hq ex21
            refine lv_iinc (v := x21) (lv' := [(28, .int x21), (27, .int 0), (0, .ref (ad 0)), (1, .ref qn), (2, .ref qf), (3, .ref qv), (4, .ref qe), (5, .ref qw), (7, .int v1), (8, .int v2), (25, .int v3), (26, .int v4)]) hx hb dL_acts_1236 hl (k := 11) rfl (by rw [ex21]; rfl) (by decide) rfl (fun ls hl => ?_)
            refine lv_goto (tgt := 1183) hx hb dL_acts_1239 (by decide) ?_
            exact ih 0 x21 hq _ _ hP hD hS ls (lv_sub hl [2, 3, 4, 5, 6, 7, 8, 9, 10, 11, 1, 0] rfl)
          · have hq := q_if_f hq c20
            refine lv_iconst (v := 1) hx hb dL_acts_1229 (by decide) ?_
            refine lv_goto (tgt := 1234) hx hb dL_acts_1230 (by decide) ?_
            refine lv_istore (lv' := [(27, .int 1), (0, .ref (ad 0)), (1, .ref qn), (2, .ref qf), (3, .ref qv), (4, .ref qe), (5, .ref qw), (7, .int v1), (8, .int v2), (25, .int v3), (26, .int v4), (28, .int v6)]) hx hb dL_acts_1234 hl (by decide) rfl (fun ls hl => ?_)
            obtain ⟨x22, ex22⟩ : ∃ y : Int32, y = (v6 : Int32) + 1 := ⟨_, rfl⟩
            have hq := q_let hq ex22
            refine lv_iinc (v := x22) (lv' := [(28, .int x22), (27, .int 1), (0, .ref (ad 0)), (1, .ref qn), (2, .ref qf), (3, .ref qv), (4, .ref qe), (5, .ref qw), (7, .int v1), (8, .int v2), (25, .int v3), (26, .int v4)]) hx hb dL_acts_1236 hl (k := 11) rfl (by rw [ex22]; rfl) (by decide) rfl (fun ls hl => ?_)
            refine lv_goto (tgt := 1183) hx hb dL_acts_1239 (by decide) ?_
            exact ih 1 x22 hq _ _ hP hD hS ls (lv_sub hl [2, 3, 4, 5, 6, 7, 8, 9, 10, 11, 1, 0] rfl)
def F_L_acts_1174 (an : Nat → Int32) (af : Nat → Int32) (av : Nat → Int32) (ae : Nat → Int32) (aw : Nat → Int32) (bd : Nat → Nat → Nat) (sc : Int32) (cn : Nat → Int32) (cf : Nat → Nat → Int32) (sn : Nat → Nat → Int32) (sf : Nat → Nat → Nat → Int32) (v1 : Int32) (v2 : Int32) (v3 : Int32) (v4 : Int32) (v5 : Int32) : Option (Int32 × (Nat → Int32) × (Nat → Int32) × (Nat → Int32) × (Nat → Int32) × (Nat → Int32) × (Nat → Nat → Nat) × Int32 × (Nat → Int32) × (Nat → Nat → Int32) × (Nat → Nat → Int32) × (Nat → Nat → Nat → Int32)) := vlet ((8 : Int32) * v4) fun x6 => F_L_acts_1183 an af av ae aw bd sc cn cf sn sf v1 v2 v3 v4 2000 v5 x6
set_option maxHeartbeats 4000000 in
set_option maxRecDepth 100000 in
theorem w_L_acts_1174 {p : Program} {l : Launch} {e : Env} {s : State} {m : MethodId} {args : Array Value} {below : List Frame} {meth : Method} {c : Code} {G : va_G} {g : Nat → ClassId} (X : cx p s m args meth c cL_acts 29 (some .boolean) RL wsL_acts) (K : amb G g s) {A : Nat → Prop} (hA : ∀ q : Nat, s.heap.size ≤ q → A q) (hs : exS A s s.heap) (hnc : ncs s) (hf0 : l.stackTraces = false) (ad : Nat → Nat) (qn qf qv qe qw : Nat) (tl : Int32) (tat : Int32) (tb : Nat → Int32) (tn : Int32) (tf : Nat → Int32) (vv : Nat → Int32) (ov : Nat → Int32) (an : Nat → Int32) (af : Nat → Int32) (av : Nat → Int32) (ae : Nat → Int32) (aw : Nat → Int32) (bd : Nat → Nat → Nat) (sc : Int32) (cn : Nat → Int32) (cf : Nat → Nat → Int32) (sn : Nat → Nat → Int32) (sf : Nat → Nat → Nat → Int32) (v1 : Int32) (v2 : Int32) (v3 : Int32) (v4 : Int32) (v5 : Int32) (res : Int32 × (Nat → Int32) × (Nat → Int32) × (Nat → Int32) × (Nat → Int32) × (Nat → Int32) × (Nat → Nat → Nat) × Int32 × (Nat → Int32) × (Nat → Nat → Int32) × (Nat → Nat → Int32) × (Nat → Nat → Nat → Int32)) (hq : F_L_acts_1174 an af av ae aw bd sc cn cf sn sf v1 v2 v3 v4 v5 = some res) : ∀ (H : Heap) (locs : List Loc), va_P G vwCl ((qn, .inl (g 0, 2, .inl an)) :: (qf, .inl (g 0, 16, .inl af)) :: (qv, .inl (g 0, 16, .inl av)) :: (qe, .inl (g 0, 16, .inl ae)) :: (qw, .inl (g 0, 16, .inl aw)) :: (wX g ad bd sc tl tat tb cn cf sn sf tn tf vv ov)) H → va_D A ((qn, .inl (g 0, 2, .inl an)) :: (qf, .inl (g 0, 16, .inl af)) :: (qv, .inl (g 0, 16, .inl av)) :: (qe, .inl (g 0, 16, .inl ae)) :: (qw, .inl (g 0, 16, .inl aw)) :: (wX g ad bd sc tl tat tb cn cf sn sf tn tf vv ov)) → va_S A s.heap H locs → ∀ (ls : Array Slot), lv_has ls 29 [(0, .ref (ad 0)), (1, .ref qn), (2, .ref qf), (3, .ref qv), (4, .ref qe), (5, .ref qw), (7, .int v1), (8, .int v2), (25, .int v3), (26, .int v4)] → W p l e (rmX 10 183) s m args below meth c H locs 0 0 (lxM G A below (some (.int res.1)) (fun w => w = ((qn, .inl (g 0, 2, .inl res.2.1)) :: (qf, .inl (g 0, 16, .inl res.2.2.1)) :: (qv, .inl (g 0, 16, .inl res.2.2.2.1)) :: (qe, .inl (g 0, 16, .inl res.2.2.2.2.1)) :: (qw, .inl (g 0, 16, .inl res.2.2.2.2.2.1)) :: (wX g ad res.2.2.2.2.2.2.1 res.2.2.2.2.2.2.2.1 tl tat tb res.2.2.2.2.2.2.2.2.1 res.2.2.2.2.2.2.2.2.2.1 res.2.2.2.2.2.2.2.2.2.2.1 res.2.2.2.2.2.2.2.2.2.2.2 tn tf vv ov))) args s) (F0 m 1174 ls [.int v5]) := by
  obtain ⟨hx, hb, hml, hr, hown, hts, hk⟩ := id X
  intro H locs hP hD hS ls hl
  unfold F_L_acts_1174 at hq
  refine lv_istore (lv' := [(27, .int v5), (0, .ref (ad 0)), (1, .ref qn), (2, .ref qf), (3, .ref qv), (4, .ref qe), (5, .ref qw), (7, .int v1), (8, .int v2), (25, .int v3), (26, .int v4)]) hx hb dL_acts_1174 hl (by decide) rfl (fun ls hl => ?_)
  refine lv_bipush (v := 8) hx hb dL_acts_1176 (by decide) ?_
  refine lv_iload hx hb dL_acts_1178 (lv_at hl 10 rfl) ?_
  refine lv_imul hx hb dL_acts_1180 ?_
  refine lv_topi (fun x6 ex6 => ?_)
  have hq := q_let hq ex6
  refine lv_istore (lv' := [(28, .int x6), (27, .int v5), (0, .ref (ad 0)), (1, .ref qn), (2, .ref qf), (3, .ref qv), (4, .ref qe), (5, .ref qw), (7, .int v1), (8, .int v2), (25, .int v3), (26, .int v4)]) hx hb dL_acts_1181 hl (by decide) rfl (fun ls hl => ?_)
  exact w_L_acts_1183 X K hA hs hnc hf0 ad qn qf qv qe qw tl tat tb tn tf vv ov an af av ae aw bd sc cn cf sn sf v1 v2 v3 v4 _ 2000 v5 x6 hq _ _ hP hD hS ls (lv_sub hl [2, 3, 4, 5, 6, 7, 8, 9, 10, 11, 1, 0] rfl)
def F_L_acts_1148 (an : Nat → Int32) (af : Nat → Int32) (av : Nat → Int32) (ae : Nat → Int32) (aw : Nat → Int32) (bd : Nat → Nat → Nat) (sc : Int32) (cn : Nat → Int32) (cf : Nat → Nat → Int32) (sn : Nat → Nat → Int32) (sf : Nat → Nat → Nat → Int32) (v1 : Int32) (v2 : Int32) (v3 : Int32) : Option (Int32 × (Nat → Int32) × (Nat → Int32) × (Nat → Int32) × (Nat → Int32) × (Nat → Int32) × (Nat → Nat → Nat) × Int32 × (Nat → Int32) × (Nat → Nat → Int32) × (Nat → Nat → Int32) × (Nat → Nat → Nat → Int32)) := vlet ((v2 / 2) - (v2 / 2) / 2 * 2) fun x4 => (F_L_hasLock an ae v1).bind fun r5 => if r5 = 0 then (F_L_acts_1174 an af av ae aw bd sc cn cf sn sf v1 v2 v3 x4 1) else (F_L_acts_1174 an af av ae aw bd sc cn cf sn sf v1 v2 v3 x4 0)
set_option maxHeartbeats 4000000 in
set_option maxRecDepth 100000 in
theorem w_L_acts_1148 {p : Program} {l : Launch} {e : Env} {s : State} {m : MethodId} {args : Array Value} {below : List Frame} {meth : Method} {c : Code} {G : va_G} {g : Nat → ClassId} (X : cx p s m args meth c cL_acts 29 (some .boolean) RL wsL_acts) (K : amb G g s) {A : Nat → Prop} (hA : ∀ q : Nat, s.heap.size ≤ q → A q) (hs : exS A s s.heap) (hnc : ncs s) (hf0 : l.stackTraces = false) (ad : Nat → Nat) (qn qf qv qe qw : Nat) (tl : Int32) (tat : Int32) (tb : Nat → Int32) (tn : Int32) (tf : Nat → Int32) (vv : Nat → Int32) (ov : Nat → Int32) (an : Nat → Int32) (af : Nat → Int32) (av : Nat → Int32) (ae : Nat → Int32) (aw : Nat → Int32) (bd : Nat → Nat → Nat) (sc : Int32) (cn : Nat → Int32) (cf : Nat → Nat → Int32) (sn : Nat → Nat → Int32) (sf : Nat → Nat → Nat → Int32) (v1 : Int32) (v2 : Int32) (v3 : Int32) (res : Int32 × (Nat → Int32) × (Nat → Int32) × (Nat → Int32) × (Nat → Int32) × (Nat → Int32) × (Nat → Nat → Nat) × Int32 × (Nat → Int32) × (Nat → Nat → Int32) × (Nat → Nat → Int32) × (Nat → Nat → Nat → Int32)) (hq : F_L_acts_1148 an af av ae aw bd sc cn cf sn sf v1 v2 v3 = some res) : ∀ (H : Heap) (locs : List Loc), va_P G vwCl ((qn, .inl (g 0, 2, .inl an)) :: (qf, .inl (g 0, 16, .inl af)) :: (qv, .inl (g 0, 16, .inl av)) :: (qe, .inl (g 0, 16, .inl ae)) :: (qw, .inl (g 0, 16, .inl aw)) :: (wX g ad bd sc tl tat tb cn cf sn sf tn tf vv ov)) H → va_D A ((qn, .inl (g 0, 2, .inl an)) :: (qf, .inl (g 0, 16, .inl af)) :: (qv, .inl (g 0, 16, .inl av)) :: (qe, .inl (g 0, 16, .inl ae)) :: (qw, .inl (g 0, 16, .inl aw)) :: (wX g ad bd sc tl tat tb cn cf sn sf tn tf vv ov)) → va_S A s.heap H locs → ∀ (ls : Array Slot), lv_has ls 29 [(0, .ref (ad 0)), (1, .ref qn), (2, .ref qf), (3, .ref qv), (4, .ref qe), (5, .ref qw), (7, .int v1), (8, .int v2)] → W p l e (rmX 10 183) s m args below meth c H locs 0 0 (lxM G A below (some (.int res.1)) (fun w => w = ((qn, .inl (g 0, 2, .inl res.2.1)) :: (qf, .inl (g 0, 16, .inl res.2.2.1)) :: (qv, .inl (g 0, 16, .inl res.2.2.2.1)) :: (qe, .inl (g 0, 16, .inl res.2.2.2.2.1)) :: (qw, .inl (g 0, 16, .inl res.2.2.2.2.2.1)) :: (wX g ad res.2.2.2.2.2.2.1 res.2.2.2.2.2.2.2.1 tl tat tb res.2.2.2.2.2.2.2.2.1 res.2.2.2.2.2.2.2.2.2.1 res.2.2.2.2.2.2.2.2.2.2.1 res.2.2.2.2.2.2.2.2.2.2.2 tn tf vv ov))) args s) (F0 m 1148 ls [.int v3]) := by
  obtain ⟨hx, hb, hml, hr, hown, hts, hk⟩ := id X
  intro H locs hP hD hS ls hl
  unfold F_L_acts_1148 at hq
  refine lv_istore (lv' := [(25, .int v3), (0, .ref (ad 0)), (1, .ref qn), (2, .ref qf), (3, .ref qv), (4, .ref qe), (5, .ref qw), (7, .int v1), (8, .int v2)]) hx hb dL_acts_1148 hl (by decide) rfl (fun ls hl => ?_)
  refine lv_iload hx hb dL_acts_1150 (lv_at hl 8 rfl) ?_
  refine lv_iconst (v := 2) hx hb dL_acts_1152 (by decide) ?_
  refine lv_idiv hx hb dL_acts_1153 (by decide) ?_
  refine lv_iconst (v := 2) hx hb dL_acts_1154 (by decide) ?_
  refine lv_irem hx hb dL_acts_1155 (by decide) ?_
  refine lv_topi (fun x4 ex4 => ?_)
  have hq := q_let hq ex4
  refine lv_istore (lv' := [(26, .int x4), (25, .int v3), (0, .ref (ad 0)), (1, .ref qn), (2, .ref qf), (3, .ref qv), (4, .ref qe), (5, .ref qw), (7, .int v1), (8, .int v2)]) hx hb dL_acts_1156 hl (by decide) rfl (fun ls hl => ?_)
  refine lv_aload_n hx hb dL_acts_1158 rfl (lv_at hl 3 rfl) ?_
  refine lv_aload hx hb dL_acts_1159 (lv_at hl 6 rfl) ?_
  refine lv_iload hx hb dL_acts_1161 (lv_at hl 8 rfl) ?_
  obtain ⟨r5, hh6, hq⟩ := q_bd hq
  refine roS (As := [.ref qn, .ref qe, .int v1]) (rest := []) X K (k_L_hasLock l G g qn qe an ae v1 _ hh6) hd_L_hasLock gL_acts_L_hasLock (hP.sub [0, 3] rfl) hl.1 dL_acts_1163 rfl rfl ⟨Nat.le_of_ble_eq_true rfl, Nat.le_of_ble_eq_true rfl⟩ rfl (Nat.le_of_ble_eq_true rfl) ⟨Nat.le_of_ble_eq_true rfl, Nat.le_of_ble_eq_true rfl⟩ ?_
  refine lv_if_ne (tgt := 1173) hx hb dL_acts_1166 (by decide) (fun c7 => ?_) (fun c7 => ?_)
  · have hq := q_if_f hq c7
    refine lv_iconst (v := 0) hx hb dL_acts_1173 (by decide) ?_
    exact w_L_acts_1174 X K hA hs hnc hf0 ad qn qf qv qe qw tl tat tb tn tf vv ov an af av ae aw bd sc cn cf sn sf v1 v2 v3 x4 0 _ hq _ _ hP hD hS ls (lv_sub hl [2, 3, 4, 5, 6, 7, 8, 9, 1, 0] rfl)
  · have hq := q_if_t hq c7
    refine lv_iconst (v := 1) hx hb dL_acts_1169 (by decide) ?_
    refine lv_goto (tgt := 1174) hx hb dL_acts_1170 (by decide) ?_
    exact w_L_acts_1174 X K hA hs hnc hf0 ad qn qf qv qe qw tl tat tb tn tf vv ov an af av ae aw bd sc cn cf sn sf v1 v2 v3 x4 1 _ hq _ _ hP hD hS ls (lv_sub hl [2, 3, 4, 5, 6, 7, 8, 9, 1, 0] rfl)
def F_L_acts_1129 (an : Nat → Int32) (af : Nat → Int32) (av : Nat → Int32) (ae : Nat → Int32) (aw : Nat → Int32) (bd : Nat → Nat → Nat) (sc : Int32) (cn : Nat → Int32) (cf : Nat → Nat → Int32) (sn : Nat → Nat → Int32) (sf : Nat → Nat → Nat → Int32) (v1 : Int32) (v2 : Int32) : Option (Int32 × (Nat → Int32) × (Nat → Int32) × (Nat → Int32) × (Nat → Int32) × (Nat → Int32) × (Nat → Nat → Nat) × Int32 × (Nat → Int32) × (Nat → Nat → Int32) × (Nat → Nat → Int32) × (Nat → Nat → Nat → Int32)) := if (v2 - v2 / 2 * 2) = 0 then (F_L_acts_1148 an af av ae aw bd sc cn cf sn sf v1 v2 ((v2 - v2 / 41 * 41) - 20)) else (F_L_acts_1148 an af av ae aw bd sc cn cf sn sf v1 v2 0)
set_option maxHeartbeats 4000000 in
set_option maxRecDepth 100000 in
theorem w_L_acts_1129 {p : Program} {l : Launch} {e : Env} {s : State} {m : MethodId} {args : Array Value} {below : List Frame} {meth : Method} {c : Code} {G : va_G} {g : Nat → ClassId} (X : cx p s m args meth c cL_acts 29 (some .boolean) RL wsL_acts) (K : amb G g s) {A : Nat → Prop} (hA : ∀ q : Nat, s.heap.size ≤ q → A q) (hs : exS A s s.heap) (hnc : ncs s) (hf0 : l.stackTraces = false) (ad : Nat → Nat) (qn qf qv qe qw : Nat) (tl : Int32) (tat : Int32) (tb : Nat → Int32) (tn : Int32) (tf : Nat → Int32) (vv : Nat → Int32) (ov : Nat → Int32) (an : Nat → Int32) (af : Nat → Int32) (av : Nat → Int32) (ae : Nat → Int32) (aw : Nat → Int32) (bd : Nat → Nat → Nat) (sc : Int32) (cn : Nat → Int32) (cf : Nat → Nat → Int32) (sn : Nat → Nat → Int32) (sf : Nat → Nat → Nat → Int32) (v1 : Int32) (v2 : Int32) (res : Int32 × (Nat → Int32) × (Nat → Int32) × (Nat → Int32) × (Nat → Int32) × (Nat → Int32) × (Nat → Nat → Nat) × Int32 × (Nat → Int32) × (Nat → Nat → Int32) × (Nat → Nat → Int32) × (Nat → Nat → Nat → Int32)) (hq : F_L_acts_1129 an af av ae aw bd sc cn cf sn sf v1 v2 = some res) : ∀ (H : Heap) (locs : List Loc), va_P G vwCl ((qn, .inl (g 0, 2, .inl an)) :: (qf, .inl (g 0, 16, .inl af)) :: (qv, .inl (g 0, 16, .inl av)) :: (qe, .inl (g 0, 16, .inl ae)) :: (qw, .inl (g 0, 16, .inl aw)) :: (wX g ad bd sc tl tat tb cn cf sn sf tn tf vv ov)) H → va_D A ((qn, .inl (g 0, 2, .inl an)) :: (qf, .inl (g 0, 16, .inl af)) :: (qv, .inl (g 0, 16, .inl av)) :: (qe, .inl (g 0, 16, .inl ae)) :: (qw, .inl (g 0, 16, .inl aw)) :: (wX g ad bd sc tl tat tb cn cf sn sf tn tf vv ov)) → va_S A s.heap H locs → ∀ (ls : Array Slot), lv_has ls 29 [(0, .ref (ad 0)), (1, .ref qn), (2, .ref qf), (3, .ref qv), (4, .ref qe), (5, .ref qw), (7, .int v1), (8, .int v2)] → W p l e (rmX 10 183) s m args below meth c H locs 0 0 (lxM G A below (some (.int res.1)) (fun w => w = ((qn, .inl (g 0, 2, .inl res.2.1)) :: (qf, .inl (g 0, 16, .inl res.2.2.1)) :: (qv, .inl (g 0, 16, .inl res.2.2.2.1)) :: (qe, .inl (g 0, 16, .inl res.2.2.2.2.1)) :: (qw, .inl (g 0, 16, .inl res.2.2.2.2.2.1)) :: (wX g ad res.2.2.2.2.2.2.1 res.2.2.2.2.2.2.2.1 tl tat tb res.2.2.2.2.2.2.2.2.1 res.2.2.2.2.2.2.2.2.2.1 res.2.2.2.2.2.2.2.2.2.2.1 res.2.2.2.2.2.2.2.2.2.2.2 tn tf vv ov))) args s) (F0 m 1129 ls []) := by
  obtain ⟨hx, hb, hml, hr, hown, hts, hk⟩ := id X
  intro H locs hP hD hS ls hl
  unfold F_L_acts_1129 at hq
  refine lv_iload hx hb dL_acts_1129 (lv_at hl 7 rfl) ?_
  refine lv_iconst (v := 2) hx hb dL_acts_1131 (by decide) ?_
  refine lv_irem hx hb dL_acts_1132 (by decide) ?_
  refine lv_if_ne (tgt := 1147) hx hb dL_acts_1133 (by decide) (fun c3 => ?_) (fun c3 => ?_)
  · have hq := q_if_f hq c3
    refine lv_iconst (v := 0) hx hb dL_acts_1147 (by decide) ?_
    exact w_L_acts_1148 X K hA hs hnc hf0 ad qn qf qv qe qw tl tat tb tn tf vv ov an af av ae aw bd sc cn cf sn sf v1 v2 0 _ hq _ _ hP hD hS ls (lv_sub hl [0, 1, 2, 3, 4, 5, 6, 7] rfl)
  · have hq := q_if_t hq c3
    refine lv_iload hx hb dL_acts_1136 (lv_at hl 7 rfl) ?_
    refine lv_bipush (v := 41) hx hb dL_acts_1138 (by decide) ?_
    refine lv_irem hx hb dL_acts_1140 (by decide) ?_
    refine lv_bipush (v := 20) hx hb dL_acts_1141 (by decide) ?_
    refine lv_isub hx hb dL_acts_1143 ?_
    refine lv_goto (tgt := 1148) hx hb dL_acts_1144 (by decide) ?_
    exact w_L_acts_1148 X K hA hs hnc hf0 ad qn qf qv qe qw tl tat tb tn tf vv ov an af av ae aw bd sc cn cf sn sf v1 v2 ((v2 - v2 / 41 * 41) - 20) _ hq _ _ hP hD hS ls (lv_sub hl [0, 1, 2, 3, 4, 5, 6, 7] rfl)
def F_L_acts_109 (an : Nat → Int32) (af : Nat → Int32) (av : Nat → Int32) (ae : Nat → Int32) (aw : Nat → Int32) (bd : Nat → Nat → Nat) (sc : Int32) (cn : Nat → Int32) (cf : Nat → Nat → Int32) (sn : Nat → Nat → Int32) (sf : Nat → Nat → Nat → Int32) (v1 : Int32) (v2 : Int32) (v3 : Int32) (v4 : Int32) (v5 : Int32) (v6 : Int32) (v7 : Int32) : Option (Int32 × (Nat → Int32) × (Nat → Int32) × (Nat → Int32) × (Nat → Int32) × (Nat → Int32) × (Nat → Nat → Nat) × Int32 × (Nat → Int32) × (Nat → Nat → Int32) × (Nat → Nat → Int32) × (Nat → Nat → Nat → Int32)) := (F_L_low v1 16).bind fun r8 => if r8 = 0 then (F_L_acts_188 an af av ae aw bd sc cn cf sn sf v2 v3 v7) else (if r8 = 1 then (F_L_acts_188 an af av ae aw bd sc cn cf sn sf v2 v3 v7) else (if r8 = 2 then (F_L_acts_188 an af av ae aw bd sc cn cf sn sf v2 v3 v7) else (if r8 = 3 then (F_L_acts_188 an af av ae aw bd sc cn cf sn sf v2 v3 v7) else (if r8 = 4 then (F_L_acts_188 an af av ae aw bd sc cn cf sn sf v2 v3 v7) else (if r8 = 5 then (F_L_acts_378 an af av ae aw bd sc cn cf sn sf v2 v4 v6) else (if r8 = 6 then (F_L_acts_456 an af av ae aw bd sc cn cf sn sf v2 v3 v4 v5 v6 v7) else (if r8 = 7 then (F_L_acts_456 an af av ae aw bd sc cn cf sn sf v2 v3 v4 v5 v6 v7) else (if r8 = 8 then (F_L_acts_566 an af av ae aw bd sc cn cf sn sf v2 v3 v4 v5 v6) else (if r8 = 9 then (F_L_acts_692 an af av ae aw bd sc cn cf sn sf v2 v3 v4 v5 v6) else (if r8 = 10 then (F_L_acts_692 an af av ae aw bd sc cn cf sn sf v2 v3 v4 v5 v6) else (if r8 = 11 then (F_L_acts_842 an af av ae aw bd sc cn cf sn sf v2 v3 v4 v5) else (if r8 = 12 then (F_L_acts_932 an af av ae aw bd sc cn cf sn sf v2 v3) else (if r8 = 13 then (F_L_acts_932 an af av ae aw bd sc cn cf sn sf v2 v3) else (F_L_acts_1129 an af av ae aw bd sc cn cf sn sf v2 v3))))))))))))))
set_option maxHeartbeats 4000000 in
set_option maxRecDepth 100000 in
theorem w_L_acts_109 {p : Program} {l : Launch} {e : Env} {s : State} {m : MethodId} {args : Array Value} {below : List Frame} {meth : Method} {c : Code} {G : va_G} {g : Nat → ClassId} (X : cx p s m args meth c cL_acts 29 (some .boolean) RL wsL_acts) (K : amb G g s) {A : Nat → Prop} (hA : ∀ q : Nat, s.heap.size ≤ q → A q) (hs : exS A s s.heap) (hnc : ncs s) (hf0 : l.stackTraces = false) (ad : Nat → Nat) (qn qf qv qe qw : Nat) (tl : Int32) (tat : Int32) (tb : Nat → Int32) (tn : Int32) (tf : Nat → Int32) (vv : Nat → Int32) (ov : Nat → Int32) (an : Nat → Int32) (af : Nat → Int32) (av : Nat → Int32) (ae : Nat → Int32) (aw : Nat → Int32) (bd : Nat → Nat → Nat) (sc : Int32) (cn : Nat → Int32) (cf : Nat → Nat → Int32) (sn : Nat → Nat → Int32) (sf : Nat → Nat → Nat → Int32) (v1 : Int32) (v2 : Int32) (v3 : Int32) (v4 : Int32) (v5 : Int32) (v6 : Int32) (v7 : Int32) (res : Int32 × (Nat → Int32) × (Nat → Int32) × (Nat → Int32) × (Nat → Int32) × (Nat → Int32) × (Nat → Nat → Nat) × Int32 × (Nat → Int32) × (Nat → Nat → Int32) × (Nat → Nat → Int32) × (Nat → Nat → Nat → Int32)) (hq : F_L_acts_109 an af av ae aw bd sc cn cf sn sf v1 v2 v3 v4 v5 v6 v7 = some res) : ∀ (H : Heap) (locs : List Loc), va_P G vwCl ((qn, .inl (g 0, 2, .inl an)) :: (qf, .inl (g 0, 16, .inl af)) :: (qv, .inl (g 0, 16, .inl av)) :: (qe, .inl (g 0, 16, .inl ae)) :: (qw, .inl (g 0, 16, .inl aw)) :: (wX g ad bd sc tl tat tb cn cf sn sf tn tf vv ov)) H → va_D A ((qn, .inl (g 0, 2, .inl an)) :: (qf, .inl (g 0, 16, .inl af)) :: (qv, .inl (g 0, 16, .inl av)) :: (qe, .inl (g 0, 16, .inl ae)) :: (qw, .inl (g 0, 16, .inl aw)) :: (wX g ad bd sc tl tat tb cn cf sn sf tn tf vv ov)) → va_S A s.heap H locs → ∀ (ls : Array Slot), lv_has ls 29 [(0, .ref (ad 0)), (1, .ref qn), (2, .ref qf), (3, .ref qv), (4, .ref qe), (5, .ref qw), (6, .int v1), (7, .int v2), (8, .int v3), (9, .int v4), (10, .int v5), (11, .int v6)] → W p l e (rmX 10 183) s m args below meth c H locs 0 0 (lxM G A below (some (.int res.1)) (fun w => w = ((qn, .inl (g 0, 2, .inl res.2.1)) :: (qf, .inl (g 0, 16, .inl res.2.2.1)) :: (qv, .inl (g 0, 16, .inl res.2.2.2.1)) :: (qe, .inl (g 0, 16, .inl res.2.2.2.2.1)) :: (qw, .inl (g 0, 16, .inl res.2.2.2.2.2.1)) :: (wX g ad res.2.2.2.2.2.2.1 res.2.2.2.2.2.2.2.1 tl tat tb res.2.2.2.2.2.2.2.2.1 res.2.2.2.2.2.2.2.2.2.1 res.2.2.2.2.2.2.2.2.2.2.1 res.2.2.2.2.2.2.2.2.2.2.2 tn tf vv ov))) args s) (F0 m 109 ls [.int v7]) := by
  obtain ⟨hx, hb, hml, hr, hown, hts, hk⟩ := id X
  intro H locs hP hD hS ls hl
  unfold F_L_acts_109 at hq
  refine lv_istore (lv' := [(12, .int v7), (0, .ref (ad 0)), (1, .ref qn), (2, .ref qf), (3, .ref qv), (4, .ref qe), (5, .ref qw), (6, .int v1), (7, .int v2), (8, .int v3), (9, .int v4), (10, .int v5), (11, .int v6)]) hx hb dL_acts_109 hl (by decide) rfl (fun ls hl => ?_)
  refine lv_iload hx hb dL_acts_111 (lv_at hl 7 rfl) ?_
  refine lv_bipush (v := 16) hx hb dL_acts_113 (by decide) ?_
  obtain ⟨r8, hh9, hq⟩ := q_bd hq
  refine roS (As := [.int v1, .int 16]) (rest := []) X K (k_L_low l G g v1 16 _ hh9) hd_L_low gL_acts_L_low (hP.sub [] rfl) hl.1 dL_acts_115 rfl rfl ⟨Nat.le_of_ble_eq_true rfl, Nat.le_of_ble_eq_true rfl⟩ rfl (Nat.le_of_ble_eq_true rfl) ⟨Nat.le_of_ble_eq_true rfl, Nat.le_of_ble_eq_true rfl⟩ ?_
  refine sw_c (x := r8) (k := 0) (fun c10 => ?_) (fun c10 => ?_)
  · have hq := q_if_t hq c10
    refine lv_tableIn (tgt := 188) hx hb dL_acts_118 (by rw [c10]; decide) (by rw [c10]; decide) (by rw [c10]; rfl) (by decide) ?_
    exact w_L_acts_188 X K hA hs hnc hf0 ad qn qf qv qe qw tl tat tb tn tf vv ov an af av ae aw bd sc cn cf sn sf v2 v3 v7 _ hq _ _ hP hD hS ls (lv_sub hl [1, 2, 3, 4, 5, 6, 8, 9, 0] rfl)
  have hq := q_if_f hq c10
  refine sw_c (x := r8) (k := 1) (fun c11 => ?_) (fun c11 => ?_)
  · have hq := q_if_t hq c11
    refine lv_tableIn (tgt := 188) hx hb dL_acts_118 (by rw [c11]; decide) (by rw [c11]; decide) (by rw [c11]; rfl) (by decide) ?_
    exact w_L_acts_188 X K hA hs hnc hf0 ad qn qf qv qe qw tl tat tb tn tf vv ov an af av ae aw bd sc cn cf sn sf v2 v3 v7 _ hq _ _ hP hD hS ls (lv_sub hl [1, 2, 3, 4, 5, 6, 8, 9, 0] rfl)
  have hq := q_if_f hq c11
  refine sw_c (x := r8) (k := 2) (fun c12 => ?_) (fun c12 => ?_)
  · have hq := q_if_t hq c12
    refine lv_tableIn (tgt := 188) hx hb dL_acts_118 (by rw [c12]; decide) (by rw [c12]; decide) (by rw [c12]; rfl) (by decide) ?_
    exact w_L_acts_188 X K hA hs hnc hf0 ad qn qf qv qe qw tl tat tb tn tf vv ov an af av ae aw bd sc cn cf sn sf v2 v3 v7 _ hq _ _ hP hD hS ls (lv_sub hl [1, 2, 3, 4, 5, 6, 8, 9, 0] rfl)
  have hq := q_if_f hq c12
  refine sw_c (x := r8) (k := 3) (fun c13 => ?_) (fun c13 => ?_)
  · have hq := q_if_t hq c13
    refine lv_tableIn (tgt := 188) hx hb dL_acts_118 (by rw [c13]; decide) (by rw [c13]; decide) (by rw [c13]; rfl) (by decide) ?_
    exact w_L_acts_188 X K hA hs hnc hf0 ad qn qf qv qe qw tl tat tb tn tf vv ov an af av ae aw bd sc cn cf sn sf v2 v3 v7 _ hq _ _ hP hD hS ls (lv_sub hl [1, 2, 3, 4, 5, 6, 8, 9, 0] rfl)
  have hq := q_if_f hq c13
  refine sw_c (x := r8) (k := 4) (fun c14 => ?_) (fun c14 => ?_)
  · have hq := q_if_t hq c14
    refine lv_tableIn (tgt := 188) hx hb dL_acts_118 (by rw [c14]; decide) (by rw [c14]; decide) (by rw [c14]; rfl) (by decide) ?_
    exact w_L_acts_188 X K hA hs hnc hf0 ad qn qf qv qe qw tl tat tb tn tf vv ov an af av ae aw bd sc cn cf sn sf v2 v3 v7 _ hq _ _ hP hD hS ls (lv_sub hl [1, 2, 3, 4, 5, 6, 8, 9, 0] rfl)
  have hq := q_if_f hq c14
  refine sw_c (x := r8) (k := 5) (fun c15 => ?_) (fun c15 => ?_)
  · have hq := q_if_t hq c15
    refine lv_tableIn (tgt := 378) hx hb dL_acts_118 (by rw [c15]; decide) (by rw [c15]; decide) (by rw [c15]; rfl) (by decide) ?_
    exact w_L_acts_378 X K hA hs hnc hf0 ad qn qf qv qe qw tl tat tb tn tf vv ov an af av ae aw bd sc cn cf sn sf v2 v4 v6 _ hq _ _ hP hD hS ls (lv_sub hl [1, 2, 3, 4, 5, 6, 8, 10, 12] rfl)
  have hq := q_if_f hq c15
  refine sw_c (x := r8) (k := 6) (fun c16 => ?_) (fun c16 => ?_)
  · have hq := q_if_t hq c16
    refine lv_tableIn (tgt := 456) hx hb dL_acts_118 (by rw [c16]; decide) (by rw [c16]; decide) (by rw [c16]; rfl) (by decide) ?_
    exact w_L_acts_456 X K hA hs hnc hf0 ad qn qf qv qe qw tl tat tb tn tf vv ov an af av ae aw bd sc cn cf sn sf v2 v3 v4 v5 v6 v7 _ hq _ _ hP hD hS ls (lv_sub hl [1, 2, 4, 5, 8, 9, 10, 11, 12, 0] rfl)
  have hq := q_if_f hq c16
  refine sw_c (x := r8) (k := 7) (fun c17 => ?_) (fun c17 => ?_)
  · have hq := q_if_t hq c17
    refine lv_tableIn (tgt := 456) hx hb dL_acts_118 (by rw [c17]; decide) (by rw [c17]; decide) (by rw [c17]; rfl) (by decide) ?_
    exact w_L_acts_456 X K hA hs hnc hf0 ad qn qf qv qe qw tl tat tb tn tf vv ov an af av ae aw bd sc cn cf sn sf v2 v3 v4 v5 v6 v7 _ hq _ _ hP hD hS ls (lv_sub hl [1, 2, 4, 5, 8, 9, 10, 11, 12, 0] rfl)
  have hq := q_if_f hq c17
  refine sw_c (x := r8) (k := 8) (fun c18 => ?_) (fun c18 => ?_)
  · have hq := q_if_t hq c18
    refine lv_tableIn (tgt := 566) hx hb dL_acts_118 (by rw [c18]; decide) (by rw [c18]; decide) (by rw [c18]; rfl) (by decide) ?_
    exact w_L_acts_566 X K hA hs hnc hf0 ad qn qf qv qe qw tl tat tb tn tf vv ov an af av ae aw bd sc cn cf sn sf v2 v3 v4 v5 v6 _ hq _ _ hP hD hS ls (lv_sub hl [1, 2, 3, 4, 5, 6, 8, 9, 10, 11, 12] rfl)
  have hq := q_if_f hq c18
  refine sw_c (x := r8) (k := 9) (fun c19 => ?_) (fun c19 => ?_)
  · have hq := q_if_t hq c19
    refine lv_tableIn (tgt := 692) hx hb dL_acts_118 (by rw [c19]; decide) (by rw [c19]; decide) (by rw [c19]; rfl) (by decide) ?_
    exact w_L_acts_692 X K hA hs hnc hf0 ad qn qf qv qe qw tl tat tb tn tf vv ov an af av ae aw bd sc cn cf sn sf v2 v3 v4 v5 v6 _ hq _ _ hP hD hS ls (lv_sub hl [1, 2, 3, 4, 5, 6, 8, 9, 10, 11, 12] rfl)
  have hq := q_if_f hq c19
  refine sw_c (x := r8) (k := 10) (fun c20 => ?_) (fun c20 => ?_)
  · have hq := q_if_t hq c20
    refine lv_tableIn (tgt := 692) hx hb dL_acts_118 (by rw [c20]; decide) (by rw [c20]; decide) (by rw [c20]; rfl) (by decide) ?_
    exact w_L_acts_692 X K hA hs hnc hf0 ad qn qf qv qe qw tl tat tb tn tf vv ov an af av ae aw bd sc cn cf sn sf v2 v3 v4 v5 v6 _ hq _ _ hP hD hS ls (lv_sub hl [1, 2, 3, 4, 5, 6, 8, 9, 10, 11, 12] rfl)
  have hq := q_if_f hq c20
  refine sw_c (x := r8) (k := 11) (fun c21 => ?_) (fun c21 => ?_)
  · have hq := q_if_t hq c21
    refine lv_tableIn (tgt := 842) hx hb dL_acts_118 (by rw [c21]; decide) (by rw [c21]; decide) (by rw [c21]; rfl) (by decide) ?_
    exact w_L_acts_842 X K hA hs hnc hf0 ad qn qf qv qe qw tl tat tb tn tf vv ov an af av ae aw bd sc cn cf sn sf v2 v3 v4 v5 _ hq _ _ hP hD hS ls (lv_sub hl [1, 2, 5, 8, 9, 10, 11] rfl)
  have hq := q_if_f hq c21
  refine sw_c (x := r8) (k := 12) (fun c22 => ?_) (fun c22 => ?_)
  · have hq := q_if_t hq c22
    refine lv_tableIn (tgt := 932) hx hb dL_acts_118 (by rw [c22]; decide) (by rw [c22]; decide) (by rw [c22]; rfl) (by decide) ?_
    exact w_L_acts_932 X K hA hs hnc hf0 ad qn qf qv qe qw tl tat tb tn tf vv ov an af av ae aw bd sc cn cf sn sf v2 v3 _ hq _ _ hP hD hS ls (lv_sub hl [1, 2, 3, 5, 8, 9] rfl)
  have hq := q_if_f hq c22
  refine sw_c (x := r8) (k := 13) (fun c23 => ?_) (fun c23 => ?_)
  · have hq := q_if_t hq c23
    refine lv_tableIn (tgt := 932) hx hb dL_acts_118 (by rw [c23]; decide) (by rw [c23]; decide) (by rw [c23]; rfl) (by decide) ?_
    exact w_L_acts_932 X K hA hs hnc hf0 ad qn qf qv qe qw tl tat tb tn tf vv ov an af av ae aw bd sc cn cf sn sf v2 v3 _ hq _ _ hP hD hS ls (lv_sub hl [1, 2, 3, 5, 8, 9] rfl)
  have hq := q_if_f hq c23
  refine lv_tableOut (tgt := 1129) hx hb dL_acts_118 (by have zc10 := lv_neT (a := 0) c10 rfl; have zc11 := lv_neT (a := 1) c11 rfl; have zc12 := lv_neT (a := 2) c12 rfl; have zc13 := lv_neT (a := 3) c13 rfl; have zc14 := lv_neT (a := 4) c14 rfl; have zc15 := lv_neT (a := 5) c15 rfl; have zc16 := lv_neT (a := 6) c16 rfl; have zc17 := lv_neT (a := 7) c17 rfl; have zc18 := lv_neT (a := 8) c18 rfl; have zc19 := lv_neT (a := 9) c19 rfl; have zc20 := lv_neT (a := 10) c20 rfl; have zc21 := lv_neT (a := 11) c21 rfl; have zc22 := lv_neT (a := 12) c22 rfl; have zc23 := lv_neT (a := 13) c23 rfl; omega) (by decide) ?_
  exact w_L_acts_1129 X K hA hs hnc hf0 ad qn qf qv qe qw tl tat tb tn tf vv ov an af av ae aw bd sc cn cf sn sf v2 v3 _ hq _ _ hP hD hS ls (lv_sub hl [1, 2, 3, 4, 5, 6, 8, 9] rfl)
def F_L_acts_75 (an : Nat → Int32) (af : Nat → Int32) (av : Nat → Int32) (ae : Nat → Int32) (aw : Nat → Int32) (bd : Nat → Nat → Nat) (sc : Int32) (cn : Nat → Int32) (cf : Nat → Nat → Int32) (sn : Nat → Nat → Int32) (sf : Nat → Nat → Nat → Int32) (v1 : Int32) (v2 : Int32) (v3 : Int32) (v4 : Int32) (v5 : Int32) (v6 : Int32) : Option (Int32 × (Nat → Int32) × (Nat → Int32) × (Nat → Int32) × (Nat → Int32) × (Nat → Int32) × (Nat → Nat → Nat) × Int32 × (Nat → Int32) × (Nat → Nat → Int32) × (Nat → Nat → Int32) × (Nat → Nat → Nat → Int32)) := if (v3 - v3 / 3 * 3) = 0 then (F_L_acts_109 an af av ae aw bd sc cn cf sn sf v1 v2 v3 v4 v5 v6 (((v3 / 3) - (v3 / 3) / 19999 * 19999) - 9999)) else (F_L_acts_109 an af av ae aw bd sc cn cf sn sf v1 v2 v3 v4 v5 v6 (((v3 / 3) - (v3 / 3) / 60 * 60) - 20))
set_option maxHeartbeats 4000000 in
set_option maxRecDepth 100000 in
theorem w_L_acts_75 {p : Program} {l : Launch} {e : Env} {s : State} {m : MethodId} {args : Array Value} {below : List Frame} {meth : Method} {c : Code} {G : va_G} {g : Nat → ClassId} (X : cx p s m args meth c cL_acts 29 (some .boolean) RL wsL_acts) (K : amb G g s) {A : Nat → Prop} (hA : ∀ q : Nat, s.heap.size ≤ q → A q) (hs : exS A s s.heap) (hnc : ncs s) (hf0 : l.stackTraces = false) (ad : Nat → Nat) (qn qf qv qe qw : Nat) (tl : Int32) (tat : Int32) (tb : Nat → Int32) (tn : Int32) (tf : Nat → Int32) (vv : Nat → Int32) (ov : Nat → Int32) (an : Nat → Int32) (af : Nat → Int32) (av : Nat → Int32) (ae : Nat → Int32) (aw : Nat → Int32) (bd : Nat → Nat → Nat) (sc : Int32) (cn : Nat → Int32) (cf : Nat → Nat → Int32) (sn : Nat → Nat → Int32) (sf : Nat → Nat → Nat → Int32) (v1 : Int32) (v2 : Int32) (v3 : Int32) (v4 : Int32) (v5 : Int32) (v6 : Int32) (res : Int32 × (Nat → Int32) × (Nat → Int32) × (Nat → Int32) × (Nat → Int32) × (Nat → Int32) × (Nat → Nat → Nat) × Int32 × (Nat → Int32) × (Nat → Nat → Int32) × (Nat → Nat → Int32) × (Nat → Nat → Nat → Int32)) (hq : F_L_acts_75 an af av ae aw bd sc cn cf sn sf v1 v2 v3 v4 v5 v6 = some res) : ∀ (H : Heap) (locs : List Loc), va_P G vwCl ((qn, .inl (g 0, 2, .inl an)) :: (qf, .inl (g 0, 16, .inl af)) :: (qv, .inl (g 0, 16, .inl av)) :: (qe, .inl (g 0, 16, .inl ae)) :: (qw, .inl (g 0, 16, .inl aw)) :: (wX g ad bd sc tl tat tb cn cf sn sf tn tf vv ov)) H → va_D A ((qn, .inl (g 0, 2, .inl an)) :: (qf, .inl (g 0, 16, .inl af)) :: (qv, .inl (g 0, 16, .inl av)) :: (qe, .inl (g 0, 16, .inl ae)) :: (qw, .inl (g 0, 16, .inl aw)) :: (wX g ad bd sc tl tat tb cn cf sn sf tn tf vv ov)) → va_S A s.heap H locs → ∀ (ls : Array Slot), lv_has ls 29 [(0, .ref (ad 0)), (1, .ref qn), (2, .ref qf), (3, .ref qv), (4, .ref qe), (5, .ref qw), (6, .int v1), (7, .int v2), (8, .int v3), (9, .int v4), (10, .int v5)] → W p l e (rmX 10 183) s m args below meth c H locs 0 0 (lxM G A below (some (.int res.1)) (fun w => w = ((qn, .inl (g 0, 2, .inl res.2.1)) :: (qf, .inl (g 0, 16, .inl res.2.2.1)) :: (qv, .inl (g 0, 16, .inl res.2.2.2.1)) :: (qe, .inl (g 0, 16, .inl res.2.2.2.2.1)) :: (qw, .inl (g 0, 16, .inl res.2.2.2.2.2.1)) :: (wX g ad res.2.2.2.2.2.2.1 res.2.2.2.2.2.2.2.1 tl tat tb res.2.2.2.2.2.2.2.2.1 res.2.2.2.2.2.2.2.2.2.1 res.2.2.2.2.2.2.2.2.2.2.1 res.2.2.2.2.2.2.2.2.2.2.2 tn tf vv ov))) args s) (F0 m 75 ls [.int v6]) := by
  obtain ⟨hx, hb, hml, hr, hown, hts, hk⟩ := id X
  intro H locs hP hD hS ls hl
  unfold F_L_acts_75 at hq
  refine lv_istore (lv' := [(11, .int v6), (0, .ref (ad 0)), (1, .ref qn), (2, .ref qf), (3, .ref qv), (4, .ref qe), (5, .ref qw), (6, .int v1), (7, .int v2), (8, .int v3), (9, .int v4), (10, .int v5)]) hx hb dL_acts_75 hl (by decide) rfl (fun ls hl => ?_)
  refine lv_iload hx hb dL_acts_77 (lv_at hl 9 rfl) ?_
  refine lv_iconst (v := 3) hx hb dL_acts_79 (by decide) ?_
  refine lv_irem hx hb dL_acts_80 (by decide) ?_
  refine lv_if_ne (tgt := 99) hx hb dL_acts_81 (by decide) (fun c7 => ?_) (fun c7 => ?_)
  · have hq := q_if_f hq c7
    refine lv_iload hx hb dL_acts_99 (lv_at hl 9 rfl) ?_
    refine lv_iconst (v := 3) hx hb dL_acts_101 (by decide) ?_
    refine lv_idiv hx hb dL_acts_102 (by decide) ?_
    refine lv_bipush (v := 60) hx hb dL_acts_103 (by decide) ?_
    refine lv_irem hx hb dL_acts_105 (by decide) ?_
    refine lv_bipush (v := 20) hx hb dL_acts_106 (by decide) ?_
    refine lv_isub hx hb dL_acts_108 ?_
    exact w_L_acts_109 X K hA hs hnc hf0 ad qn qf qv qe qw tl tat tb tn tf vv ov an af av ae aw bd sc cn cf sn sf v1 v2 v3 v4 v5 v6 (((v3 / 3) - (v3 / 3) / 60 * 60) - 20) _ hq _ _ hP hD hS ls (lv_sub hl [1, 2, 3, 4, 5, 6, 7, 8, 9, 10, 11, 0] rfl)
  · have hq := q_if_t hq c7
    refine lv_iload hx hb dL_acts_84 (lv_at hl 9 rfl) ?_
    refine lv_iconst (v := 3) hx hb dL_acts_86 (by decide) ?_
    refine lv_idiv hx hb dL_acts_87 (by decide) ?_
    refine lv_sipush (v := 19999) hx hb dL_acts_88 (by decide) ?_
    refine lv_irem hx hb dL_acts_91 (by decide) ?_
    refine lv_sipush (v := 9999) hx hb dL_acts_92 (by decide) ?_
    refine lv_isub hx hb dL_acts_95 ?_
    refine lv_goto (tgt := 109) hx hb dL_acts_96 (by decide) ?_
    exact w_L_acts_109 X K hA hs hnc hf0 ad qn qf qv qe qw tl tat tb tn tf vv ov an af av ae aw bd sc cn cf sn sf v1 v2 v3 v4 v5 v6 (((v3 / 3) - (v3 / 3) / 19999 * 19999) - 9999) _ hq _ _ hP hD hS ls (lv_sub hl [1, 2, 3, 4, 5, 6, 7, 8, 9, 10, 11, 0] rfl)
def F_L_acts_74 (an : Nat → Int32) (af : Nat → Int32) (av : Nat → Int32) (ae : Nat → Int32) (aw : Nat → Int32) (bd : Nat → Nat → Nat) (sc : Int32) (cn : Nat → Int32) (cf : Nat → Nat → Int32) (sn : Nat → Nat → Int32) (sf : Nat → Nat → Nat → Int32) (v1 : Int32) (v2 : Int32) (v3 : Int32) (v4 : Int32) (v5 : Int32) : Option (Int32 × (Nat → Int32) × (Nat → Int32) × (Nat → Int32) × (Nat → Int32) × (Nat → Int32) × (Nat → Nat → Nat) × Int32 × (Nat → Int32) × (Nat → Nat → Int32) × (Nat → Nat → Int32) × (Nat → Nat → Nat → Int32)) := F_L_acts_75 an af av ae aw bd sc cn cf sn sf v1 v2 v3 v4 v5 0
set_option maxHeartbeats 4000000 in
set_option maxRecDepth 100000 in
theorem w_L_acts_74 {p : Program} {l : Launch} {e : Env} {s : State} {m : MethodId} {args : Array Value} {below : List Frame} {meth : Method} {c : Code} {G : va_G} {g : Nat → ClassId} (X : cx p s m args meth c cL_acts 29 (some .boolean) RL wsL_acts) (K : amb G g s) {A : Nat → Prop} (hA : ∀ q : Nat, s.heap.size ≤ q → A q) (hs : exS A s s.heap) (hnc : ncs s) (hf0 : l.stackTraces = false) (ad : Nat → Nat) (qn qf qv qe qw : Nat) (tl : Int32) (tat : Int32) (tb : Nat → Int32) (tn : Int32) (tf : Nat → Int32) (vv : Nat → Int32) (ov : Nat → Int32) (an : Nat → Int32) (af : Nat → Int32) (av : Nat → Int32) (ae : Nat → Int32) (aw : Nat → Int32) (bd : Nat → Nat → Nat) (sc : Int32) (cn : Nat → Int32) (cf : Nat → Nat → Int32) (sn : Nat → Nat → Int32) (sf : Nat → Nat → Nat → Int32) (v1 : Int32) (v2 : Int32) (v3 : Int32) (v4 : Int32) (v5 : Int32) (res : Int32 × (Nat → Int32) × (Nat → Int32) × (Nat → Int32) × (Nat → Int32) × (Nat → Int32) × (Nat → Nat → Nat) × Int32 × (Nat → Int32) × (Nat → Nat → Int32) × (Nat → Nat → Int32) × (Nat → Nat → Nat → Int32)) (hq : F_L_acts_74 an af av ae aw bd sc cn cf sn sf v1 v2 v3 v4 v5 = some res) : ∀ (H : Heap) (locs : List Loc), va_P G vwCl ((qn, .inl (g 0, 2, .inl an)) :: (qf, .inl (g 0, 16, .inl af)) :: (qv, .inl (g 0, 16, .inl av)) :: (qe, .inl (g 0, 16, .inl ae)) :: (qw, .inl (g 0, 16, .inl aw)) :: (wX g ad bd sc tl tat tb cn cf sn sf tn tf vv ov)) H → va_D A ((qn, .inl (g 0, 2, .inl an)) :: (qf, .inl (g 0, 16, .inl af)) :: (qv, .inl (g 0, 16, .inl av)) :: (qe, .inl (g 0, 16, .inl ae)) :: (qw, .inl (g 0, 16, .inl aw)) :: (wX g ad bd sc tl tat tb cn cf sn sf tn tf vv ov)) → va_S A s.heap H locs → ∀ (ls : Array Slot), lv_has ls 29 [(0, .ref (ad 0)), (1, .ref qn), (2, .ref qf), (3, .ref qv), (4, .ref qe), (5, .ref qw), (6, .int v1), (7, .int v2), (8, .int v3), (9, .int v4), (10, .int v5)] → W p l e (rmX 10 183) s m args below meth c H locs 0 0 (lxM G A below (some (.int res.1)) (fun w => w = ((qn, .inl (g 0, 2, .inl res.2.1)) :: (qf, .inl (g 0, 16, .inl res.2.2.1)) :: (qv, .inl (g 0, 16, .inl res.2.2.2.1)) :: (qe, .inl (g 0, 16, .inl res.2.2.2.2.1)) :: (qw, .inl (g 0, 16, .inl res.2.2.2.2.2.1)) :: (wX g ad res.2.2.2.2.2.2.1 res.2.2.2.2.2.2.2.1 tl tat tb res.2.2.2.2.2.2.2.2.1 res.2.2.2.2.2.2.2.2.2.1 res.2.2.2.2.2.2.2.2.2.2.1 res.2.2.2.2.2.2.2.2.2.2.2 tn tf vv ov))) args s) (F0 m 74 ls []) := by
  obtain ⟨hx, hb, hml, hr, hown, hts, hk⟩ := id X
  intro H locs hP hD hS ls hl
  unfold F_L_acts_74 at hq
  refine lv_iconst (v := 0) hx hb dL_acts_74 (by decide) ?_
  exact w_L_acts_75 X K hA hs hnc hf0 ad qn qf qv qe qw tl tat tb tn tf vv ov an af av ae aw bd sc cn cf sn sf v1 v2 v3 v4 v5 0 _ hq _ _ hP hD hS ls (lv_sub hl [0, 1, 2, 3, 4, 5, 6, 7, 8, 9, 10] rfl)
def F_L_acts_39 (an : Nat → Int32) (af : Nat → Int32) (av : Nat → Int32) (ae : Nat → Int32) (aw : Nat → Int32) (bd : Nat → Nat → Nat) (sc : Int32) (cn : Nat → Int32) (cf : Nat → Nat → Int32) (sn : Nat → Nat → Int32) (sf : Nat → Nat → Nat → Int32) (v1 : Int32) (v2 : Int32) (v3 : Int32) (v4 : Int32) : Option (Int32 × (Nat → Int32) × (Nat → Int32) × (Nat → Int32) × (Nat → Int32) × (Nat → Int32) × (Nat → Nat → Nat) × Int32 × (Nat → Int32) × (Nat → Nat → Int32) × (Nat → Nat → Int32) × (Nat → Nat → Nat → Int32)) := vlet (((8 : Int32) * v2) + v4) fun x5 => vgd (ix (v2) 2) <| if (an v2.toNatClampNeg) ≤ 0 then (F_L_acts_74 an af av ae aw bd sc cn cf sn sf v1 v2 v3 v4 x5) else (vgd (ix (x5) 16) <| if ((ae x5.toNatClampNeg) - (ae x5.toNatClampNeg) / 10 * 10) = 1 then (F_L_acts_75 an af av ae aw bd sc cn cf sn sf v1 v2 v3 v4 x5 1) else (F_L_acts_74 an af av ae aw bd sc cn cf sn sf v1 v2 v3 v4 x5))
set_option maxHeartbeats 4000000 in
set_option maxRecDepth 100000 in
theorem w_L_acts_39 {p : Program} {l : Launch} {e : Env} {s : State} {m : MethodId} {args : Array Value} {below : List Frame} {meth : Method} {c : Code} {G : va_G} {g : Nat → ClassId} (X : cx p s m args meth c cL_acts 29 (some .boolean) RL wsL_acts) (K : amb G g s) {A : Nat → Prop} (hA : ∀ q : Nat, s.heap.size ≤ q → A q) (hs : exS A s s.heap) (hnc : ncs s) (hf0 : l.stackTraces = false) (ad : Nat → Nat) (qn qf qv qe qw : Nat) (tl : Int32) (tat : Int32) (tb : Nat → Int32) (tn : Int32) (tf : Nat → Int32) (vv : Nat → Int32) (ov : Nat → Int32) (an : Nat → Int32) (af : Nat → Int32) (av : Nat → Int32) (ae : Nat → Int32) (aw : Nat → Int32) (bd : Nat → Nat → Nat) (sc : Int32) (cn : Nat → Int32) (cf : Nat → Nat → Int32) (sn : Nat → Nat → Int32) (sf : Nat → Nat → Nat → Int32) (v1 : Int32) (v2 : Int32) (v3 : Int32) (v4 : Int32) (res : Int32 × (Nat → Int32) × (Nat → Int32) × (Nat → Int32) × (Nat → Int32) × (Nat → Int32) × (Nat → Nat → Nat) × Int32 × (Nat → Int32) × (Nat → Nat → Int32) × (Nat → Nat → Int32) × (Nat → Nat → Nat → Int32)) (hq : F_L_acts_39 an af av ae aw bd sc cn cf sn sf v1 v2 v3 v4 = some res) : ∀ (H : Heap) (locs : List Loc), va_P G vwCl ((qn, .inl (g 0, 2, .inl an)) :: (qf, .inl (g 0, 16, .inl af)) :: (qv, .inl (g 0, 16, .inl av)) :: (qe, .inl (g 0, 16, .inl ae)) :: (qw, .inl (g 0, 16, .inl aw)) :: (wX g ad bd sc tl tat tb cn cf sn sf tn tf vv ov)) H → va_D A ((qn, .inl (g 0, 2, .inl an)) :: (qf, .inl (g 0, 16, .inl af)) :: (qv, .inl (g 0, 16, .inl av)) :: (qe, .inl (g 0, 16, .inl ae)) :: (qw, .inl (g 0, 16, .inl aw)) :: (wX g ad bd sc tl tat tb cn cf sn sf tn tf vv ov)) → va_S A s.heap H locs → ∀ (ls : Array Slot), lv_has ls 29 [(0, .ref (ad 0)), (1, .ref qn), (2, .ref qf), (3, .ref qv), (4, .ref qe), (5, .ref qw), (6, .int v1), (7, .int v2), (8, .int v3)] → W p l e (rmX 10 183) s m args below meth c H locs 0 0 (lxM G A below (some (.int res.1)) (fun w => w = ((qn, .inl (g 0, 2, .inl res.2.1)) :: (qf, .inl (g 0, 16, .inl res.2.2.1)) :: (qv, .inl (g 0, 16, .inl res.2.2.2.1)) :: (qe, .inl (g 0, 16, .inl res.2.2.2.2.1)) :: (qw, .inl (g 0, 16, .inl res.2.2.2.2.2.1)) :: (wX g ad res.2.2.2.2.2.2.1 res.2.2.2.2.2.2.2.1 tl tat tb res.2.2.2.2.2.2.2.2.1 res.2.2.2.2.2.2.2.2.2.1 res.2.2.2.2.2.2.2.2.2.2.1 res.2.2.2.2.2.2.2.2.2.2.2 tn tf vv ov))) args s) (F0 m 39 ls [.int v4]) := by
  obtain ⟨hx, hb, hml, hr, hown, hts, hk⟩ := id X
  intro H locs hP hD hS ls hl
  unfold F_L_acts_39 at hq
  refine lv_istore (lv' := [(9, .int v4), (0, .ref (ad 0)), (1, .ref qn), (2, .ref qf), (3, .ref qv), (4, .ref qe), (5, .ref qw), (6, .int v1), (7, .int v2), (8, .int v3)]) hx hb dL_acts_39 hl (by decide) rfl (fun ls hl => ?_)
  refine lv_bipush (v := 8) hx hb dL_acts_41 (by decide) ?_
  refine lv_iload hx hb dL_acts_43 (lv_at hl 8 rfl) ?_
  refine lv_imul hx hb dL_acts_45 ?_
  refine lv_iload hx hb dL_acts_46 (lv_at hl 0 rfl) ?_
  refine lv_iadd hx hb dL_acts_48 ?_
  refine lv_topi (fun x5 ex5 => ?_)
  have hq := q_let hq ex5
  refine lv_istore (lv' := [(10, .int x5), (9, .int v4), (0, .ref (ad 0)), (1, .ref qn), (2, .ref qf), (3, .ref qv), (4, .ref qe), (5, .ref qw), (6, .int v1), (7, .int v2), (8, .int v3)]) hx hb dL_acts_49 hl (by decide) rfl (fun ls hl => ?_)
  refine lv_aload_n hx hb dL_acts_51 rfl (lv_at hl 3 rfl) ?_
  refine lv_iload hx hb dL_acts_52 (lv_at hl 9 rfl) ?_
  obtain ⟨hh6, hq⟩ := q_gd hq
  refine va_iald hx hb K.1 hP 0 0 rfl rfl (vp_in_iff.mpr hh6) dL_acts_54 ?_
  refine lv_if_le (tgt := 74) hx hb dL_acts_55 (by decide) (fun c7 => ?_) (fun c7 => ?_)
  · have hq := q_if_t hq c7
    exact w_L_acts_74 X K hA hs hnc hf0 ad qn qf qv qe qw tl tat tb tn tf vv ov an af av ae aw bd sc cn cf sn sf v1 v2 v3 v4 x5 _ hq _ _ hP hD hS ls (lv_sub hl [2, 3, 4, 5, 6, 7, 8, 9, 10, 1, 0] rfl)
  · have hq := q_if_f hq c7
    refine lv_aload hx hb dL_acts_58 (lv_at hl 6 rfl) ?_
    refine lv_iload hx hb dL_acts_60 (lv_at hl 0 rfl) ?_
    obtain ⟨hh8, hq⟩ := q_gd hq
    refine va_iald hx hb K.1 hP 3 0 rfl rfl (vp_in_iff.mpr hh8) dL_acts_62 ?_
    refine lv_bipush (v := 10) hx hb dL_acts_63 (by decide) ?_
    refine lv_irem hx hb dL_acts_65 (by decide) ?_
    refine lv_iconst (v := 1) hx hb dL_acts_66 (by decide) ?_
    refine lv_icmp_ne (tgt := 74) hx hb dL_acts_67 (by decide) (fun c9 => ?_) (fun c9 => ?_)
    · have hq := q_if_f hq c9
      exact w_L_acts_74 X K hA hs hnc hf0 ad qn qf qv qe qw tl tat tb tn tf vv ov an af av ae aw bd sc cn cf sn sf v1 v2 v3 v4 x5 _ hq _ _ hP hD hS ls (lv_sub hl [2, 3, 4, 5, 6, 7, 8, 9, 10, 1, 0] rfl)
    · have hq := q_if_t hq c9
      refine lv_iconst (v := 1) hx hb dL_acts_70 (by decide) ?_
      refine lv_goto (tgt := 75) hx hb dL_acts_71 (by decide) ?_
      exact w_L_acts_75 X K hA hs hnc hf0 ad qn qf qv qe qw tl tat tb tn tf vv ov an af av ae aw bd sc cn cf sn sf v1 v2 v3 v4 x5 1 _ hq _ _ hP hD hS ls (lv_sub hl [2, 3, 4, 5, 6, 7, 8, 9, 10, 1, 0] rfl)
def F_L_acts (an : Nat → Int32) (af : Nat → Int32) (av : Nat → Int32) (ae : Nat → Int32) (aw : Nat → Int32) (bd : Nat → Nat → Nat) (sc : Int32) (cn : Nat → Int32) (cf : Nat → Nat → Int32) (sn : Nat → Nat → Int32) (sf : Nat → Nat → Nat → Int32) (p7 : Int32) : Option (Int32 × (Nat → Int32) × (Nat → Int32) × (Nat → Int32) × (Nat → Int32) × (Nat → Int32) × (Nat → Nat → Nat) × Int32 × (Nat → Int32) × (Nat → Nat → Int32) × (Nat → Nat → Int32) × (Nat → Nat → Nat → Int32)) := (F_L_low (p7 >>> ((4 : Int32) &&& 31)) 2).bind fun r1 => (F_L_low (p7 >>> ((5 : Int32) &&& 31)) 100000).bind fun r3 => vgd (ix (r1) 2) <| if (an r1.toNatClampNeg) = 0 then (F_L_acts_39 an af av ae aw bd sc cn cf sn sf p7 r1 r3 0) else (vgd (ix (r1) 2) <| vgd (¬ (an r1.toNatClampNeg) = 0) <| F_L_acts_39 an af av ae aw bd sc cn cf sn sf p7 r1 r3 (r3 - r3 / (an r1.toNatClampNeg) * (an r1.toNatClampNeg)))
set_option maxHeartbeats 4000000 in
set_option maxRecDepth 100000 in
theorem k_L_acts (l : Launch) (hf0 : l.stackTraces = false) (G : va_G) (g : Nat → ClassId) (ad : Nat → Nat) (qn qf qv qe qw : Nat) (an : Nat → Int32) (af : Nat → Int32) (av : Nat → Int32) (ae : Nat → Int32) (aw : Nat → Int32) (bd : Nat → Nat → Nat) (sc : Int32) (tl : Int32) (tat : Int32) (tb : Nat → Int32) (cn : Nat → Int32) (cf : Nat → Nat → Int32) (sn : Nat → Nat → Int32) (sf : Nat → Nat → Nat → Int32) (tn : Int32) (tf : Nat → Int32) (vv : Nat → Int32) (ov : Nat → Int32) (p7 : Int32) (res : Int32 × (Nat → Int32) × (Nat → Int32) × (Nat → Int32) × (Nat → Int32) × (Nat → Int32) × (Nat → Nat → Nat) × Int32 × (Nat → Int32) × (Nat → Nat → Int32) × (Nat → Nat → Int32) × (Nat → Nat → Nat → Int32)) (hq : F_L_acts an af av ae aw bd sc cn cf sn sf p7 = some res) : lxC l yL_acts wsL_acts (rmX 10 183) G g [.ref (ad 0), .ref qn, .ref qf, .ref qv, .ref qe, .ref qw, .int p7] ((qn, .inl (g 0, 2, .inl an)) :: (qf, .inl (g 0, 16, .inl af)) :: (qv, .inl (g 0, 16, .inl av)) :: (qe, .inl (g 0, 16, .inl ae)) :: (qw, .inl (g 0, 16, .inl aw)) :: (wX g ad bd sc tl tat tb cn cf sn sf tn tf vv ov)) (some (.int res.1)) (fun w => w = ((qn, .inl (g 0, 2, .inl res.2.1)) :: (qf, .inl (g 0, 16, .inl res.2.2.1)) :: (qv, .inl (g 0, 16, .inl res.2.2.2.1)) :: (qe, .inl (g 0, 16, .inl res.2.2.2.2.1)) :: (qw, .inl (g 0, 16, .inl res.2.2.2.2.2.1)) :: (wX g ad res.2.2.2.2.2.2.1 res.2.2.2.2.2.2.2.1 tl tat tb res.2.2.2.2.2.2.2.2.1 res.2.2.2.2.2.2.2.2.2.1 res.2.2.2.2.2.2.2.2.2.2.1 res.2.2.2.2.2.2.2.2.2.2.2 tn tf vv ov))) := by
  refine lxC.ofN (cc := cL_acts) (maxL := 29) (ret := (some .boolean)) (by decide) rfl (Nat.le_of_ble_eq_true rfl) ?_
  intro p e s m below meth c ls A X K hA hP hD hS hs hnc hl
  obtain ⟨hx, hb, hml, hr, hown, hts, hk⟩ := id X
  have hl : lv_has ls 29 [(0, .ref (ad 0)), (1, .ref qn), (2, .ref qf), (3, .ref qv), (4, .ref qe), (5, .ref qw), (6, .int p7)] := hl
  unfold F_L_acts at hq
  refine lv_iload hx hb dL_acts_0 (lv_at hl 6 rfl) ?_
  refine lv_iconst (v := 4) hx hb dL_acts_2 (by decide) ?_
  refine lv_ishr hx hb dL_acts_3 ?_
  refine lv_iconst (v := 2) hx hb dL_acts_4 (by decide) ?_
  obtain ⟨r1, hh2, hq⟩ := q_bd hq
  refine roS (As := [.int (p7 >>> ((4 : Int32) &&& 31)), .int 2]) (rest := []) X K (k_L_low l G g (p7 >>> ((4 : Int32) &&& 31)) 2 _ hh2) hd_L_low gL_acts_L_low (hP.sub [] rfl) hl.1 dL_acts_5 rfl rfl ⟨Nat.le_of_ble_eq_true rfl, Nat.le_of_ble_eq_true rfl⟩ rfl (Nat.le_of_ble_eq_true rfl) ⟨Nat.le_of_ble_eq_true rfl, Nat.le_of_ble_eq_true rfl⟩ ?_
  refine lv_istore (lv' := [(7, .int r1), (0, .ref (ad 0)), (1, .ref qn), (2, .ref qf), (3, .ref qv), (4, .ref qe), (5, .ref qw), (6, .int p7)]) hx hb dL_acts_8 hl (by decide) rfl (fun ls hl => ?_)
  refine lv_iload hx hb dL_acts_10 (lv_at hl 7 rfl) ?_
  refine lv_iconst (v := 5) hx hb dL_acts_12 (by decide) ?_
  refine lv_ishr hx hb dL_acts_13 ?_
  refine lv_ldc (v := 100000) hx hb hown (hts _ (List.mem_of_getElem? (i := 1) rfl)) dL_acts_14 ?_
  obtain ⟨r3, hh4, hq⟩ := q_bd hq
  refine roS (As := [.int (p7 >>> ((5 : Int32) &&& 31)), .int 100000]) (rest := []) X K (k_L_low l G g (p7 >>> ((5 : Int32) &&& 31)) 100000 _ hh4) hd_L_low gL_acts_L_low (hP.sub [] rfl) hl.1 dL_acts_16 rfl rfl ⟨Nat.le_of_ble_eq_true rfl, Nat.le_of_ble_eq_true rfl⟩ rfl (Nat.le_of_ble_eq_true rfl) ⟨Nat.le_of_ble_eq_true rfl, Nat.le_of_ble_eq_true rfl⟩ ?_
  refine lv_istore (lv' := [(8, .int r3), (7, .int r1), (0, .ref (ad 0)), (1, .ref qn), (2, .ref qf), (3, .ref qv), (4, .ref qe), (5, .ref qw), (6, .int p7)]) hx hb dL_acts_19 hl (by decide) rfl (fun ls hl => ?_)
  refine lv_aload_n hx hb dL_acts_21 rfl (lv_at hl 3 rfl) ?_
  refine lv_iload hx hb dL_acts_22 (lv_at hl 1 rfl) ?_
  obtain ⟨hh5, hq⟩ := q_gd hq
  refine va_iald hx hb K.1 hP 0 0 rfl rfl (vp_in_iff.mpr hh5) dL_acts_24 ?_
  refine lv_if_ne (tgt := 32) hx hb dL_acts_25 (by decide) (fun c6 => ?_) (fun c6 => ?_)
  · have hq := q_if_f hq c6
    refine lv_iload hx hb dL_acts_32 (lv_at hl 0 rfl) ?_
    refine lv_aload_n hx hb dL_acts_34 rfl (lv_at hl 3 rfl) ?_
    refine lv_iload hx hb dL_acts_35 (lv_at hl 1 rfl) ?_
    obtain ⟨hh7, hq⟩ := q_gd hq
    refine va_iald hx hb K.1 hP 0 0 rfl rfl (vp_in_iff.mpr hh7) dL_acts_37 ?_
    obtain ⟨hh8, hq⟩ := q_gd hq
    refine lv_irem hx hb dL_acts_38 hh8 ?_
    exact w_L_acts_39 X K hA hs hnc hf0 ad qn qf qv qe qw tl tat tb tn tf vv ov an af av ae aw bd sc cn cf sn sf p7 r1 r3 (r3 - r3 / (an r1.toNatClampNeg) * (an r1.toNatClampNeg)) _ hq _ _ hP hD hS ls (lv_sub hl [2, 3, 4, 5, 6, 7, 8, 1, 0] rfl)
  · have hq := q_if_t hq c6
    refine lv_iconst (v := 0) hx hb dL_acts_28 (by decide) ?_
    refine lv_goto (tgt := 39) hx hb dL_acts_29 (by decide) ?_
    exact w_L_acts_39 X K hA hs hnc hf0 ad qn qf qv qe qw tl tat tb tn tf vv ov an af av ae aw bd sc cn cf sn sf p7 r1 r3 0 _ hq _ _ hP hD hS ls (lv_sub hl [2, 3, 4, 5, 6, 7, 8, 1, 0] rfl)

/-! ===== the law's own numbers ===== -/
def F_L_low (p1 : Int32) (p2 : Int32) : Option (Int32) := vgd (¬ p2 = 0) <| some ((p1 &&& 2147483647) - (p1 &&& 2147483647) / p2 * p2)
set_option maxHeartbeats 4000000 in
set_option maxRecDepth 100000 in
theorem k_L_low (l : Launch) (G : va_G) (g : Nat → ClassId) (p1 : Int32) (p2 : Int32) (res : Int32) (hq : F_L_low p1 p2 = some res) : roC l yL_low wsL_low (rmF 0 0) G g [.int p1, .int p2] [] (some (.int res)) := by
  refine roC.of (cc := cL_low) (maxL := 2) (ret := (some .int)) (by decide) rfl (Nat.le_of_ble_eq_true rfl) ?_
  intro p e s m below meth c ls X K hP hl
  obtain ⟨hx, hb, hml, hr, hown, hts, hk⟩ := id X
  have hl : lv_has ls 2 [(0, .int p1), (1, .int p2)] := hl
  unfold F_L_low at hq
  refine lv_iload_n hx hb dL_low_0 rfl (lv_at hl 0 rfl) ?_
  refine lv_ldc (v := 2147483647) hx hb hown (hts _ (List.mem_of_getElem? (i := 1) rfl)) dL_low_1 ?_
  refine lv_iand hx hb dL_low_3 ?_
  refine lv_iload_n hx hb dL_low_4 rfl (lv_at hl 1 rfl) ?_
  obtain ⟨hh1, hq⟩ := q_gd hq
  refine lv_irem hx hb dL_low_5 hh1 ?_
  obtain rfl := q_rt hq
  exact ro_iret hx hb hr hk dL_low_6
def F_L_then (p1 : Int32) (p2 : Int32) (p3 : Int32) (p4 : Int32) : Option (Int32) := vlet ((((p3 - p2) * p4) / 100) - (p3 - p2)) fun x1 => if p2 ≤ p1 then (if p1 ≤ p3 then (some (p2 + (((p1 - p2) * p4) / 100))) else (some (p1 + x1))) else (some (p1))
set_option maxHeartbeats 4000000 in
set_option maxRecDepth 100000 in
theorem k_L_then (l : Launch) (G : va_G) (g : Nat → ClassId) (p1 : Int32) (p2 : Int32) (p3 : Int32) (p4 : Int32) (res : Int32) (hq : F_L_then p1 p2 p3 p4 = some res) : roC l yL_then wsL_then (rmF 0 0) G g [.int p1, .int p2, .int p3, .int p4] [] (some (.int res)) := by
  refine roC.of (cc := cL_then) (maxL := 5) (ret := (some .int)) (by decide) rfl (Nat.le_of_ble_eq_true rfl) ?_
  intro p e s m below meth c ls X K hP hl
  obtain ⟨hx, hb, hml, hr, hown, hts, hk⟩ := id X
  have hl : lv_has ls 5 [(0, .int p1), (1, .int p2), (2, .int p3), (3, .int p4)] := hl
  unfold F_L_then at hq
  refine lv_iload_n hx hb dL_then_0 rfl (lv_at hl 2 rfl) ?_
  refine lv_iload_n hx hb dL_then_1 rfl (lv_at hl 1 rfl) ?_
  refine lv_isub hx hb dL_then_2 ?_
  refine lv_iload_n hx hb dL_then_3 rfl (lv_at hl 3 rfl) ?_
  refine lv_imul hx hb dL_then_4 ?_
  refine lv_bipush (v := 100) hx hb dL_then_5 (by decide) ?_
  refine lv_idiv hx hb dL_then_7 (by decide) ?_
  refine lv_iload_n hx hb dL_then_8 rfl (lv_at hl 2 rfl) ?_
  refine lv_iload_n hx hb dL_then_9 rfl (lv_at hl 1 rfl) ?_
  refine lv_isub hx hb dL_then_10 ?_
  refine lv_isub hx hb dL_then_11 ?_
  refine lv_topi (fun x1 ex1 => ?_)
  have hq := q_let hq ex1
  refine lv_istore (lv' := [(4, .int x1), (0, .int p1), (1, .int p2), (2, .int p3), (3, .int p4)]) hx hb dL_then_12 hl (by decide) rfl (fun ls hl => ?_)
  refine lv_iload_n hx hb dL_then_14 rfl (lv_at hl 1 rfl) ?_
  refine lv_iload_n hx hb dL_then_15 rfl (lv_at hl 2 rfl) ?_
  refine lv_icmp_ge (tgt := 23) hx hb dL_then_16 (by decide) (fun c2 => ?_) (fun c2 => ?_)
  · have hq := q_if_t hq c2
    refine lv_iload_n hx hb dL_then_23 rfl (lv_at hl 1 rfl) ?_
    refine lv_iload_n hx hb dL_then_24 rfl (lv_at hl 3 rfl) ?_
    refine lv_icmp_le (tgt := 35) hx hb dL_then_25 (by decide) (fun c3 => ?_) (fun c3 => ?_)
    · have hq := q_if_t hq c3
      refine lv_iload_n hx hb dL_then_35 rfl (lv_at hl 2 rfl) ?_
      refine lv_iload_n hx hb dL_then_36 rfl (lv_at hl 1 rfl) ?_
      refine lv_iload_n hx hb dL_then_37 rfl (lv_at hl 2 rfl) ?_
      refine lv_isub hx hb dL_then_38 ?_
      refine lv_iload_n hx hb dL_then_39 rfl (lv_at hl 4 rfl) ?_
      refine lv_imul hx hb dL_then_40 ?_
      refine lv_bipush (v := 100) hx hb dL_then_41 (by decide) ?_
      refine lv_idiv hx hb dL_then_43 (by decide) ?_
      refine lv_iadd hx hb dL_then_44 ?_
      obtain rfl := q_rt hq
      exact ro_iret hx hb hr hk dL_then_45
    · have hq := q_if_f hq c3
      refine lv_iload_n hx hb dL_then_28 rfl (lv_at hl 1 rfl) ?_
      refine lv_iload hx hb dL_then_29 (lv_at hl 0 rfl) ?_
      refine lv_iadd hx hb dL_then_31 ?_
      refine lv_goto (tgt := 45) hx hb dL_then_32 (by decide) ?_
      obtain rfl := q_rt hq
      exact ro_iret hx hb hr hk dL_then_45
  · have hq := q_if_f hq c2
    refine lv_iload_n hx hb dL_then_19 rfl (lv_at hl 1 rfl) ?_
    refine lv_goto (tgt := 45) hx hb dL_then_20 (by decide) ?_
    obtain rfl := q_rt hq
    exact ro_iret hx hb hr hk dL_then_45
def F_L_swap (ax : Nat → Int32) (p2 : Int32) (p3 : Int32) : Option ((Nat → Int32)) := vgd (ix (p2) 16) <| vlet (ax p2.toNatClampNeg) fun x2 => vgd (ix (p3) 16) <| vgd (ix (p2) 16) <| vlet (upd ax p2.toNatClampNeg (ax p3.toNatClampNeg)) fun f5 => vgd (ix (p3) 16) <| vlet (upd f5 p3.toNatClampNeg x2) fun f7 => some (f7)
set_option maxHeartbeats 4000000 in
set_option maxRecDepth 100000 in
theorem k_L_swap (l : Launch) (G : va_G) (g : Nat → ClassId) (qx : Nat) (ax : Nat → Int32) (p2 : Int32) (p3 : Int32) (res : (Nat → Int32)) (hq : F_L_swap ax p2 p3 = some res) : rwC l yL_swap wsL_swap (rmF 0 0) G g [.ref qx, .int p2, .int p3] [(qx, .inl (g 0, 16, .inl ax))] none [(qx, .inl (g 0, 16, .inl res))] := by
  refine rwC.of (cc := cL_swap) (maxL := 4) (ret := none) (by decide) rfl (Nat.le_of_ble_eq_true rfl) ?_
  intro p e s m below meth c ls A X K hA hP hD hS hl
  obtain ⟨hx, hb, hml, hr, hown, hts, hk⟩ := id X
  have hl : lv_has ls 4 [(0, .ref qx), (1, .int p2), (2, .int p3)] := hl
  unfold F_L_swap at hq
  refine lv_aload_n hx hb dL_swap_0 rfl (lv_at hl 0 rfl) ?_
  refine lv_iload_n hx hb dL_swap_1 rfl (lv_at hl 1 rfl) ?_
  obtain ⟨hh1, hq⟩ := q_gd hq
  refine va_iald hx hb K.1 hP 0 0 rfl rfl (vp_in_iff.mpr hh1) dL_swap_2 ?_
  refine lv_topi (fun x2 ex2 => ?_)
  have hq := q_let hq ex2
  refine lv_istore_n (lv' := [(3, .int x2), (0, .ref qx), (1, .int p2), (2, .int p3)]) hx hb dL_swap_3 rfl hl (by decide) rfl (fun ls hl => ?_)
  refine lv_aload_n hx hb dL_swap_4 rfl (lv_at hl 1 rfl) ?_
  refine lv_iload_n hx hb dL_swap_5 rfl (lv_at hl 2 rfl) ?_
  refine lv_aload_n hx hb dL_swap_6 rfl (lv_at hl 1 rfl) ?_
  refine lv_iload_n hx hb dL_swap_7 rfl (lv_at hl 3 rfl) ?_
  obtain ⟨hh3, hq⟩ := q_gd hq
  refine va_iald hx hb K.1 hP 0 0 rfl rfl (vp_in_iff.mpr hh3) dL_swap_8 ?_
  obtain ⟨hh4, hq⟩ := q_gd hq
  refine va_iast hx hb K.1 hP hD hS 0 0 rfl rfl (vp_in_iff.mpr hh4) dL_swap_9 (fun H locs hP hD hS => ?_)
  obtain ⟨f5, ef5⟩ : ∃ y, y = upd ax p2.toNatClampNeg (ax p3.toNatClampNeg) := ⟨_, rfl⟩
  have hq := q_let hq ef5
  have hP : va_P G vwCl [(qx, .inl (g 0, 16, .inl f5))] H := by rw [ef5]; exact hP
  have hD : va_D A [(qx, .inl (g 0, 16, .inl f5))] := by rw [ef5]; exact hD
  refine lv_aload_n hx hb dL_swap_10 rfl (lv_at hl 1 rfl) ?_
  refine lv_iload_n hx hb dL_swap_11 rfl (lv_at hl 3 rfl) ?_
  refine lv_iload_n hx hb dL_swap_12 rfl (lv_at hl 0 rfl) ?_
  obtain ⟨hh6, hq⟩ := q_gd hq
  refine va_iast hx hb K.1 hP hD hS 0 0 rfl rfl (vp_in_iff.mpr hh6) dL_swap_13 (fun H locs hP hD hS => ?_)
  obtain ⟨f7, ef7⟩ : ∃ y, y = upd f5 p3.toNatClampNeg x2 := ⟨_, rfl⟩
  have hq := q_let hq ef7
  have hP : va_P G vwCl [(qx, .inl (g 0, 16, .inl f7))] H := by rw [ef7]; exact hP
  have hD : va_D A [(qx, .inl (g 0, 16, .inl f7))] := by rw [ef7]; exact hD
  obtain rfl := q_rt hq
  exact rw_vret hx hb hr hk hP hD hS dL_swap_14
def F_L_keyAt_6 (an : Nat → Int32) (af : Nat → Int32) (v1 : Int32) (v2 : Int32) : Nat → Int32 → Int32 → Option (Int32)
  | 0, _, _ => none
  | n + 1, v3, v4 => vgd (ix (v1) 2) <| if (an v1.toNatClampNeg) ≤ v4 then (some (v3)) else (vgd (ix (((8 : Int32) * v1) + v4) 16) <| if (af (((8 : Int32) * v1) + v4).toNatClampNeg) = v2 then (vlet ((v4 : Int32) + 1) fun x10 => F_L_keyAt_6 an af v1 v2 n v4 x10) else (vlet ((v4 : Int32) + 1) fun x9 => F_L_keyAt_6 an af v1 v2 n v3 x9))
set_option maxHeartbeats 4000000 in
set_option maxRecDepth 100000 in
theorem w_L_keyAt_6 {p : Program} {l : Launch} {e : Env} {s : State} {m : MethodId} {args : Array Value} {below : List Frame} {meth : Method} {c : Code} {G : va_G} {g : Nat → ClassId} (X : cx p s m args meth c cL_keyAt 6 (some .int) RL wsL_keyAt) (K : amb G g s) (qn qf : Nat) (an : Nat → Int32) (af : Nat → Int32) (v1 : Int32) (v2 : Int32) (hP : va_P G vwCl [(qn, .inl (g 0, 2, .inl an)), (qf, .inl (g 0, 16, .inl af))] s.heap) (res : Int32) : ∀ (n : Nat) (v3 : Int32) (v4 : Int32), F_L_keyAt_6 an af v1 v2 n v3 v4 = some res → ∀ (ls : Array Slot), lv_has ls 6 [(0, .ref qn), (1, .ref qf), (2, .int v1), (3, .int v2), (4, .int v3), (5, .int v4)] → W p l e (rmF 0 0) s m args below meth c s.heap [] 0 0 (roM below (some (.int res)) args s) (F0 m 6 ls []) := by
  obtain ⟨hx, hb, hml, hr, hown, hts, hk⟩ := id X
  intro n
  induction n with
  | zero => intro v3 v4 hq; exact q_no hq
  | succ n ih =>
    intro v3 v4 hq ls hl
    rw [F_L_keyAt_6] at hq
    refine lv_iload hx hb dL_keyAt_6 (lv_at hl 5 rfl) ?_
    refine lv_aload_n hx hb dL_keyAt_8 rfl (lv_at hl 0 rfl) ?_
    refine lv_iload_n hx hb dL_keyAt_9 rfl (lv_at hl 2 rfl) ?_
    obtain ⟨hh5, hq⟩ := q_gd hq
    refine va_iald hx hb K.1 hP 0 0 rfl rfl (vp_in_iff.mpr hh5) dL_keyAt_10 ?_
    refine lv_icmp_ge (tgt := 42) hx hb dL_keyAt_11 (by decide) (fun c6 => ?_) (fun c6 => ?_)
    · have hq := q_if_t hq c6
      refine lv_iload hx hb dL_keyAt_42 (lv_at hl 4 rfl) ?_
      obtain rfl := q_rt hq
      exact ro_iret hx hb hr hk dL_keyAt_44
    · have hq := q_if_f hq c6
      refine lv_aload_n hx hb dL_keyAt_14 rfl (lv_at hl 1 rfl) ?_
      refine lv_bipush (v := 8) hx hb dL_keyAt_15 (by decide) ?_
      refine lv_iload_n hx hb dL_keyAt_17 rfl (lv_at hl 2 rfl) ?_
      refine lv_imul hx hb dL_keyAt_18 ?_
      refine lv_iload hx hb dL_keyAt_19 (lv_at hl 5 rfl) ?_
      refine lv_iadd hx hb dL_keyAt_21 ?_
      obtain ⟨hh7, hq⟩ := q_gd hq
      refine va_iald hx hb K.1 hP 1 0 rfl rfl (vp_in_iff.mpr hh7) dL_keyAt_22 ?_
      refine lv_iload_n hx hb dL_keyAt_23 rfl (lv_at hl 3 rfl) ?_
      refine lv_icmp_ne (tgt := 32) hx hb dL_keyAt_24 (by decide) (fun c8 => ?_) (fun c8 => ?_)
      · have hq := q_if_f hq c8
        refine lv_iload hx hb dL_keyAt_32 (lv_at hl 4 rfl) ?_
        refine lv_istore (lv' := [(4, .int v3), (0, .ref qn), (1, .ref qf), (2, .int v1), (3, .int v2), (5, .int v4)]) hx hb dL_keyAt_34 hl (by decide) rfl (fun ls hl => ?_)
        obtain ⟨x9, ex9⟩ : ∃ y : Int32, y = (v4 : Int32) + 1 := ⟨_, rfl⟩
        have hq := q_let hq ex9
        refine lv_iinc (v := x9) (lv' := [(5, .int x9), (4, .int v3), (0, .ref qn), (1, .ref qf), (2, .int v1), (3, .int v2)]) hx hb dL_keyAt_36 hl (k := 5) rfl (by rw [ex9]; rfl) (by decide) rfl (fun ls hl => ?_)
        refine lv_goto (tgt := 6) hx hb dL_keyAt_39 (by decide) ?_
        exact ih v3 x9 hq ls (lv_sub hl [2, 3, 4, 5, 1, 0] rfl)
      · have hq := q_if_t hq c8
        refine lv_iload hx hb dL_keyAt_27 (lv_at hl 5 rfl) ?_
        refine lv_goto (tgt := 34) hx hb dL_keyAt_29 (by decide) ?_
        refine lv_istore (lv' := [(4, .int v4), (0, .ref qn), (1, .ref qf), (2, .int v1), (3, .int v2), (5, .int v4)]) hx hb dL_keyAt_34 hl (by decide) rfl (fun ls hl => ?_)
        obtain ⟨x10, ex10⟩ : ∃ y : Int32, y = (v4 : Int32) + 1 := ⟨_, rfl⟩
        have hq := q_let hq ex10
        refine lv_iinc (v := x10) (lv' := [(5, .int x10), (4, .int v4), (0, .ref qn), (1, .ref qf), (2, .int v1), (3, .int v2)]) hx hb dL_keyAt_36 hl (k := 5) rfl (by rw [ex10]; rfl) (by decide) rfl (fun ls hl => ?_)
        refine lv_goto (tgt := 6) hx hb dL_keyAt_39 (by decide) ?_
        exact ih v4 x10 hq ls (lv_sub hl [2, 3, 4, 5, 1, 0] rfl)
def F_L_keyAt (an : Nat → Int32) (af : Nat → Int32) (p3 : Int32) (p4 : Int32) : Option (Int32) := F_L_keyAt_6 an af p3 p4 2000 (-1) 0
set_option maxHeartbeats 4000000 in
set_option maxRecDepth 100000 in
theorem k_L_keyAt (l : Launch) (G : va_G) (g : Nat → ClassId) (qn qf : Nat) (an : Nat → Int32) (af : Nat → Int32) (p3 : Int32) (p4 : Int32) (res : Int32) (hq : F_L_keyAt an af p3 p4 = some res) : roC l yL_keyAt wsL_keyAt (rmF 0 0) G g [.ref qn, .ref qf, .int p3, .int p4] [(qn, .inl (g 0, 2, .inl an)), (qf, .inl (g 0, 16, .inl af))] (some (.int res)) := by
  refine roC.of (cc := cL_keyAt) (maxL := 6) (ret := (some .int)) (by decide) rfl (Nat.le_of_ble_eq_true rfl) ?_
  intro p e s m below meth c ls X K hP hl
  obtain ⟨hx, hb, hml, hr, hown, hts, hk⟩ := id X
  have hl : lv_has ls 6 [(0, .ref qn), (1, .ref qf), (2, .int p3), (3, .int p4)] := hl
  unfold F_L_keyAt at hq
  refine lv_iconst (v := (-1)) hx hb dL_keyAt_0 (by decide) ?_
  refine lv_istore (lv' := [(4, .int (-1)), (0, .ref qn), (1, .ref qf), (2, .int p3), (3, .int p4)]) hx hb dL_keyAt_1 hl (by decide) rfl (fun ls hl => ?_)
  refine lv_iconst (v := 0) hx hb dL_keyAt_3 (by decide) ?_
  refine lv_istore (lv' := [(5, .int 0), (4, .int (-1)), (0, .ref qn), (1, .ref qf), (2, .int p3), (3, .int p4)]) hx hb dL_keyAt_4 hl (by decide) rfl (fun ls hl => ?_)
  exact w_L_keyAt_6 X K qn qf an af p3 p4 hP _ 2000 (-1) 0 hq ls (lv_sub hl [2, 3, 4, 5, 1, 0] rfl)
def F_L_hasLock_5 (an : Nat → Int32) (ae : Nat → Int32) (v1 : Int32) : Nat → Int32 → Int32 → Option (Int32)
  | 0, _, _ => none
  | n + 1, v2, v3 => vgd (ix (v1) 2) <| if (an v1.toNatClampNeg) ≤ v3 then (vgd (v2 = 0 ∨ v2 = 1) <| some (v2)) else (if v2 = 0 then (vgd (ix (((8 : Int32) * v1) + v3) 16) <| if ((ae (((8 : Int32) * v1) + v3).toNatClampNeg) - (ae (((8 : Int32) * v1) + v3).toNatClampNeg) / 10 * 10) = 1 then (vlet ((v3 : Int32) + 1) fun x12 => F_L_hasLock_5 an ae v1 n 1 x12) else (vlet ((v3 : Int32) + 1) fun x11 => F_L_hasLock_5 an ae v1 n 0 x11)) else (vlet ((v3 : Int32) + 1) fun x8 => F_L_hasLock_5 an ae v1 n 1 x8))
set_option maxHeartbeats 4000000 in
set_option maxRecDepth 100000 in
theorem w_L_hasLock_5 {p : Program} {l : Launch} {e : Env} {s : State} {m : MethodId} {args : Array Value} {below : List Frame} {meth : Method} {c : Code} {G : va_G} {g : Nat → ClassId} (X : cx p s m args meth c cL_hasLock 5 (some .boolean) RL wsL_hasLock) (K : amb G g s) (qn qe : Nat) (an : Nat → Int32) (ae : Nat → Int32) (v1 : Int32) (hP : va_P G vwCl [(qn, .inl (g 0, 2, .inl an)), (qe, .inl (g 0, 16, .inl ae))] s.heap) (res : Int32) : ∀ (n : Nat) (v2 : Int32) (v3 : Int32), F_L_hasLock_5 an ae v1 n v2 v3 = some res → ∀ (ls : Array Slot), lv_has ls 5 [(0, .ref qn), (1, .ref qe), (2, .int v1), (3, .int v2), (4, .int v3)] → W p l e (rmF 0 0) s m args below meth c s.heap [] 0 0 (roM below (some (.int res)) args s) (F0 m 5 ls []) := by
  obtain ⟨hx, hb, hml, hr, hown, hts, hk⟩ := id X
  intro n
  induction n with
  | zero => intro v2 v3 hq; exact q_no hq
  | succ n ih =>
    intro v2 v3 hq ls hl
    rw [F_L_hasLock_5] at hq
    refine lv_iload hx hb dL_hasLock_5 (lv_at hl 4 rfl) ?_
    refine lv_aload_n hx hb dL_hasLock_7 rfl (lv_at hl 0 rfl) ?_
    refine lv_iload_n hx hb dL_hasLock_8 rfl (lv_at hl 2 rfl) ?_
    obtain ⟨hh4, hq⟩ := q_gd hq
    refine va_iald hx hb K.1 hP 0 0 rfl rfl (vp_in_iff.mpr hh4) dL_hasLock_9 ?_
    refine lv_icmp_ge (tgt := 45) hx hb dL_hasLock_10 (by decide) (fun c5 => ?_) (fun c5 => ?_)
    · have hq := q_if_t hq c5
      refine lv_iload_n hx hb dL_hasLock_45 rfl (lv_at hl 3 rfl) ?_
      obtain ⟨hh6, hq⟩ := q_gd hq
      obtain rfl := q_rt hq
      exact ro_zret hx hb hr (nz_b hh6) hk dL_hasLock_46
    · have hq := q_if_f hq c5
      refine lv_iload_n hx hb dL_hasLock_13 rfl (lv_at hl 3 rfl) ?_
      refine lv_if_ne (tgt := 33) hx hb dL_hasLock_14 (by decide) (fun c7 => ?_) (fun c7 => ?_)
      · have hq := q_if_f hq c7
        refine lv_iconst (v := 1) hx hb dL_hasLock_33 (by decide) ?_
        refine lv_goto (tgt := 38) hx hb dL_hasLock_34 (by decide) ?_
        refine lv_istore_n (lv' := [(3, .int 1), (0, .ref qn), (1, .ref qe), (2, .int v1), (4, .int v3)]) hx hb dL_hasLock_38 rfl hl (by decide) rfl (fun ls hl => ?_)
        obtain ⟨x8, ex8⟩ : ∃ y : Int32, y = (v3 : Int32) + 1 := ⟨_, rfl⟩
        have hq := q_let hq ex8
        refine lv_iinc (v := x8) (lv' := [(4, .int x8), (3, .int 1), (0, .ref qn), (1, .ref qe), (2, .int v1)]) hx hb dL_hasLock_39 hl (k := 4) rfl (by rw [ex8]; rfl) (by decide) rfl (fun ls hl => ?_)
        refine lv_goto (tgt := 5) hx hb dL_hasLock_42 (by decide) ?_
        exact ih 1 x8 hq ls (lv_sub hl [2, 3, 4, 1, 0] rfl)
      · have hq := q_if_t hq c7
        refine lv_aload_n hx hb dL_hasLock_17 rfl (lv_at hl 1 rfl) ?_
        refine lv_bipush (v := 8) hx hb dL_hasLock_18 (by decide) ?_
        refine lv_iload_n hx hb dL_hasLock_20 rfl (lv_at hl 2 rfl) ?_
        refine lv_imul hx hb dL_hasLock_21 ?_
        refine lv_iload hx hb dL_hasLock_22 (lv_at hl 4 rfl) ?_
        refine lv_iadd hx hb dL_hasLock_24 ?_
        obtain ⟨hh9, hq⟩ := q_gd hq
        refine va_iald hx hb K.1 hP 1 0 rfl rfl (vp_in_iff.mpr hh9) dL_hasLock_25 ?_
        refine lv_bipush (v := 10) hx hb dL_hasLock_26 (by decide) ?_
        refine lv_irem hx hb dL_hasLock_28 (by decide) ?_
        refine lv_iconst (v := 1) hx hb dL_hasLock_29 (by decide) ?_
        refine lv_icmp_ne (tgt := 37) hx hb dL_hasLock_30 (by decide) (fun c10 => ?_) (fun c10 => ?_)
        · have hq := q_if_f hq c10
          refine lv_iconst (v := 0) hx hb dL_hasLock_37 (by decide) ?_
          refine lv_istore_n (lv' := [(3, .int 0), (0, .ref qn), (1, .ref qe), (2, .int v1), (4, .int v3)]) hx hb dL_hasLock_38 rfl hl (by decide) rfl (fun ls hl => ?_)
          obtain ⟨x11, ex11⟩ : ∃ y : Int32, y = (v3 : Int32) + 1 := ⟨_, rfl⟩
          have hq := q_let hq ex11
          refine lv_iinc (v := x11) (lv' := [(4, .int x11), (3, .int 0), (0, .ref qn), (1, .ref qe), (2, .int v1)]) hx hb dL_hasLock_39 hl (k := 4) rfl (by rw [ex11]; rfl) (by decide) rfl (fun ls hl => ?_)
          refine lv_goto (tgt := 5) hx hb dL_hasLock_42 (by decide) ?_
          exact ih 0 x11 hq ls (lv_sub hl [2, 3, 4, 1, 0] rfl)
        · have hq := q_if_t hq c10
          refine lv_iconst (v := 1) hx hb dL_hasLock_33 (by decide) ?_
          refine lv_goto (tgt := 38) hx hb dL_hasLock_34 (by decide) ?_
          refine lv_istore_n (lv' := [(3, .int 1), (0, .ref qn), (1, .ref qe), (2, .int v1), (4, .int v3)]) hx hb dL_hasLock_38 rfl hl (by decide) rfl (fun ls hl => ?_)
          obtain ⟨x12, ex12⟩ : ∃ y : Int32, y = (v3 : Int32) + 1 := ⟨_, rfl⟩
          have hq := q_let hq ex12
          refine lv_iinc (v := x12) (lv' := [(4, .int x12), (3, .int 1), (0, .ref qn), (1, .ref qe), (2, .int v1)]) hx hb dL_hasLock_39 hl (k := 4) rfl (by rw [ex12]; rfl) (by decide) rfl (fun ls hl => ?_)
          refine lv_goto (tgt := 5) hx hb dL_hasLock_42 (by decide) ?_
          exact ih 1 x12 hq ls (lv_sub hl [2, 3, 4, 1, 0] rfl)
def F_L_hasLock (an : Nat → Int32) (ae : Nat → Int32) (p3 : Int32) : Option (Int32) := F_L_hasLock_5 an ae p3 2000 0 0
set_option maxHeartbeats 4000000 in
set_option maxRecDepth 100000 in
theorem k_L_hasLock (l : Launch) (G : va_G) (g : Nat → ClassId) (qn qe : Nat) (an : Nat → Int32) (ae : Nat → Int32) (p3 : Int32) (res : Int32) (hq : F_L_hasLock an ae p3 = some res) : roC l yL_hasLock wsL_hasLock (rmF 0 0) G g [.ref qn, .ref qe, .int p3] [(qn, .inl (g 0, 2, .inl an)), (qe, .inl (g 0, 16, .inl ae))] (some (.int res)) := by
  refine roC.of (cc := cL_hasLock) (maxL := 5) (ret := (some .boolean)) (by decide) rfl (Nat.le_of_ble_eq_true rfl) ?_
  intro p e s m below meth c ls X K hP hl
  obtain ⟨hx, hb, hml, hr, hown, hts, hk⟩ := id X
  have hl : lv_has ls 5 [(0, .ref qn), (1, .ref qe), (2, .int p3)] := hl
  unfold F_L_hasLock at hq
  refine lv_iconst (v := 0) hx hb dL_hasLock_0 (by decide) ?_
  refine lv_istore_n (lv' := [(3, .int 0), (0, .ref qn), (1, .ref qe), (2, .int p3)]) hx hb dL_hasLock_1 rfl hl (by decide) rfl (fun ls hl => ?_)
  refine lv_iconst (v := 0) hx hb dL_hasLock_2 (by decide) ?_
  refine lv_istore (lv' := [(4, .int 0), (3, .int 0), (0, .ref qn), (1, .ref qe), (2, .int p3)]) hx hb dL_hasLock_3 hl (by decide) rfl (fun ls hl => ?_)
  exact w_L_hasLock_5 X K qn qe an ae p3 hP _ 2000 0 0 hq ls (lv_sub hl [2, 3, 4, 1, 0] rfl)
theorem hd_L_then : ynm yL_then 4 := by unfold ynm; decide +kernel
def F_L_mayStretch_82 (an : Nat → Int32) (af : Nat → Int32) (ae : Nat → Int32) (v1 : Int32) (v2 : Int32) (v3 : Int32) (v4 : Int32) (v6 : Int32) (v7 : Int32) : Nat → Int32 → Int32 → Option (Int32)
  | 0, _, _ => none
  | n + 1, v5, v8 => if v6 ≤ v8 then (some v5) else (if v5 = 0 then (vlet ((v8 : Int32) + 1) fun x11 => F_L_mayStretch_82 an af ae v1 v2 v3 v4 v6 v7 n 0 x11) else (vgd (ix (v8) 16) <| (F_L_then (af v8.toNatClampNeg) v2 v3 v4).bind fun r13 => if r13 = v7 then (vlet ((v8 : Int32) + 1) fun x16 => F_L_mayStretch_82 an af ae v1 v2 v3 v4 v6 v7 n 0 x16) else (vlet ((v8 : Int32) + 1) fun x17 => F_L_mayStretch_82 an af ae v1 v2 v3 v4 v6 v7 n 1 x17)))
set_option maxHeartbeats 4000000 in
set_option maxRecDepth 100000 in
theorem w_L_mayStretch_82 {p : Program} {l : Launch} {e : Env} {s : State} {m : MethodId} {args : Array Value} {below : List Frame} {meth : Method} {c : Code} {G : va_G} {g : Nat → ClassId} (X : cx p s m args meth c cL_mayStretch 11 (some .boolean) RL wsL_mayStretch) (K : amb G g s) (qn qf qe : Nat) (an : Nat → Int32) (af : Nat → Int32) (ae : Nat → Int32) (v1 : Int32) (v2 : Int32) (v3 : Int32) (v4 : Int32) (v6 : Int32) (v7 : Int32) (hP : va_P G vwCl [(qn, .inl (g 0, 2, .inl an)), (qf, .inl (g 0, 16, .inl af)), (qe, .inl (g 0, 16, .inl ae))] s.heap) (res : Int32) {Q : State → Prop} (kk : ∀ (ls : Array Slot), lv_has ls 11 [(0, .ref qn), (1, .ref qf), (2, .ref qe), (3, .int v1), (4, .int v2), (5, .int v3), (6, .int v4), (7, .int res), (8, .int v6)] → W p l e (rmF 1 24) s m args below meth c s.heap [] 0 0 Q (F0 m 125 ls [])) : ∀ (n : Nat) (v5 : Int32) (v8 : Int32), F_L_mayStretch_82 an af ae v1 v2 v3 v4 v6 v7 n v5 v8 = some res → ∀ (ls : Array Slot), lv_has ls 11 [(0, .ref qn), (1, .ref qf), (2, .ref qe), (3, .int v1), (4, .int v2), (5, .int v3), (6, .int v4), (7, .int v5), (8, .int v6), (9, .int v7), (10, .int v8)] → W p l e (rmF 1 24) s m args below meth c s.heap [] 0 0 Q (F0 m 82 ls []) := by
  obtain ⟨hx, hb, hml, hr, hown, hts, hk⟩ := id X
  intro n
  induction n with
  | zero => intro v5 v8 hq; exact q_no hq
  | succ n ih =>
    intro v5 v8 hq ls hl
    rw [F_L_mayStretch_82] at hq
    refine lv_iload hx hb dL_mayStretch_82 (lv_at hl 10 rfl) ?_
    refine lv_iload hx hb dL_mayStretch_84 (lv_at hl 8 rfl) ?_
    refine lv_icmp_ge (tgt := 125) hx hb dL_mayStretch_86 (by decide) (fun c9 => ?_) (fun c9 => ?_)
    · have hq := q_if_t hq c9
      obtain rfl := q_rt hq
      exact kk ls (lv_sub hl [0, 1, 2, 3, 4, 5, 6, 7, 8] rfl)
    · have hq := q_if_f hq c9
      refine lv_iload hx hb dL_mayStretch_89 (lv_at hl 7 rfl) ?_
      refine lv_if_eq (tgt := 116) hx hb dL_mayStretch_91 (by decide) (fun c10 => ?_) (fun c10 => ?_)
      · have hq := q_if_t hq c10
        refine lv_iconst (v := 0) hx hb dL_mayStretch_116 (by decide) ?_
        refine lv_istore (lv' := [(7, .int 0), (0, .ref qn), (1, .ref qf), (2, .ref qe), (3, .int v1), (4, .int v2), (5, .int v3), (6, .int v4), (8, .int v6), (9, .int v7), (10, .int v8)]) hx hb dL_mayStretch_117 hl (by decide) rfl (fun ls hl => ?_)
        obtain ⟨x11, ex11⟩ : ∃ y : Int32, y = (v8 : Int32) + 1 := ⟨_, rfl⟩
        have hq := q_let hq ex11
        refine lv_iinc (v := x11) (lv' := [(10, .int x11), (7, .int 0), (0, .ref qn), (1, .ref qf), (2, .ref qe), (3, .int v1), (4, .int v2), (5, .int v3), (6, .int v4), (8, .int v6), (9, .int v7)]) hx hb dL_mayStretch_119 hl (k := 10) rfl (by rw [ex11]; rfl) (by decide) rfl (fun ls hl => ?_)
        refine lv_goto (tgt := 82) hx hb dL_mayStretch_122 (by decide) ?_
        exact ih 0 x11 hq ls (lv_sub hl [2, 3, 4, 5, 6, 7, 8, 1, 9, 10, 0] rfl)
      · have hq := q_if_f hq c10
        refine lv_aload_n hx hb dL_mayStretch_94 rfl (lv_at hl 1 rfl) ?_
        refine lv_iload hx hb dL_mayStretch_95 (lv_at hl 10 rfl) ?_
        obtain ⟨hh12, hq⟩ := q_gd hq
        refine va_iald hx hb K.1 hP 1 0 rfl rfl (vp_in_iff.mpr hh12) dL_mayStretch_97 ?_
        refine lv_iload hx hb dL_mayStretch_98 (lv_at hl 4 rfl) ?_
        refine lv_iload hx hb dL_mayStretch_100 (lv_at hl 5 rfl) ?_
        refine lv_iload hx hb dL_mayStretch_102 (lv_at hl 6 rfl) ?_
        obtain ⟨r13, hh14, hq⟩ := q_bd hq
        refine roS (As := [.int (af v8.toNatClampNeg), .int v2, .int v3, .int v4]) (rest := []) X K (k_L_then l G g (af v8.toNatClampNeg) v2 v3 v4 _ hh14) hd_L_then gL_mayStretch_L_then (hP.sub [] rfl) hl.1 dL_mayStretch_104 rfl rfl ⟨Nat.le_of_ble_eq_true rfl, Nat.le_of_ble_eq_true rfl⟩ rfl (Nat.le_of_ble_eq_true rfl) ⟨Nat.zero_le _, Nat.zero_le _⟩ ?_
        refine lv_iload hx hb dL_mayStretch_107 (lv_at hl 9 rfl) ?_
        refine lv_icmp_eq (tgt := 116) hx hb dL_mayStretch_109 (by decide) (fun c15 => ?_) (fun c15 => ?_)
        · have hq := q_if_t hq c15
          refine lv_iconst (v := 0) hx hb dL_mayStretch_116 (by decide) ?_
          refine lv_istore (lv' := [(7, .int 0), (0, .ref qn), (1, .ref qf), (2, .ref qe), (3, .int v1), (4, .int v2), (5, .int v3), (6, .int v4), (8, .int v6), (9, .int v7), (10, .int v8)]) hx hb dL_mayStretch_117 hl (by decide) rfl (fun ls hl => ?_)
          obtain ⟨x16, ex16⟩ : ∃ y : Int32, y = (v8 : Int32) + 1 := ⟨_, rfl⟩
          have hq := q_let hq ex16
          refine lv_iinc (v := x16) (lv' := [(10, .int x16), (7, .int 0), (0, .ref qn), (1, .ref qf), (2, .ref qe), (3, .int v1), (4, .int v2), (5, .int v3), (6, .int v4), (8, .int v6), (9, .int v7)]) hx hb dL_mayStretch_119 hl (k := 10) rfl (by rw [ex16]; rfl) (by decide) rfl (fun ls hl => ?_)
          refine lv_goto (tgt := 82) hx hb dL_mayStretch_122 (by decide) ?_
          exact ih 0 x16 hq ls (lv_sub hl [2, 3, 4, 5, 6, 7, 8, 1, 9, 10, 0] rfl)
        · have hq := q_if_f hq c15
          refine lv_iconst (v := 1) hx hb dL_mayStretch_112 (by decide) ?_
          refine lv_goto (tgt := 117) hx hb dL_mayStretch_113 (by decide) ?_
          refine lv_istore (lv' := [(7, .int 1), (0, .ref qn), (1, .ref qf), (2, .ref qe), (3, .int v1), (4, .int v2), (5, .int v3), (6, .int v4), (8, .int v6), (9, .int v7), (10, .int v8)]) hx hb dL_mayStretch_117 hl (by decide) rfl (fun ls hl => ?_)
          obtain ⟨x17, ex17⟩ : ∃ y : Int32, y = (v8 : Int32) + 1 := ⟨_, rfl⟩
          have hq := q_let hq ex17
          refine lv_iinc (v := x17) (lv' := [(10, .int x17), (7, .int 1), (0, .ref qn), (1, .ref qf), (2, .ref qe), (3, .int v1), (4, .int v2), (5, .int v3), (6, .int v4), (8, .int v6), (9, .int v7)]) hx hb dL_mayStretch_119 hl (k := 10) rfl (by rw [ex17]; rfl) (by decide) rfl (fun ls hl => ?_)
          refine lv_goto (tgt := 82) hx hb dL_mayStretch_122 (by decide) ?_
          exact ih 1 x17 hq ls (lv_sub hl [2, 3, 4, 5, 6, 7, 8, 1, 9, 10, 0] rfl)
def F_L_mayStretch_9 (an : Nat → Int32) (af : Nat → Int32) (ae : Nat → Int32) (v1 : Int32) (v2 : Int32) (v3 : Int32) (v4 : Int32) : Nat → Int32 → Int32 → Option (Int32)
  | 0, _, _ => none
  | n + 1, v5, v6 => vgd (ix (v1) 2) <| if (((8 : Int32) * v1) + (an v1.toNatClampNeg)) ≤ v6 then (vgd (v5 = 0 ∨ v5 = 1) <| some (v5)) else (vgd (ix (v6) 16) <| (F_L_then (af v6.toNatClampNeg) v2 v3 v4).bind fun r11 => if v5 = 0 then (vlet ((8 : Int32) * v1) fun x14 => (F_L_mayStretch_82 an af ae v1 v2 v3 v4 v6 r11 2000 0 x14).bind fun o15 => vlet ((v6 : Int32) + 1) fun x16 => F_L_mayStretch_9 an af ae v1 v2 v3 v4 n o15 x16) else (if (1000 : Int32) ≤ r11 then (vlet ((8 : Int32) * v1) fun x18 => (F_L_mayStretch_82 an af ae v1 v2 v3 v4 v6 r11 2000 0 x18).bind fun o19 => vlet ((v6 : Int32) + 1) fun x20 => F_L_mayStretch_9 an af ae v1 v2 v3 v4 n o19 x20) else (vgd (ix (v6) 16) <| if ((ae v6.toNatClampNeg) - (ae v6.toNatClampNeg) / 10 * 10) = 0 then (vlet ((8 : Int32) * v1) fun x23 => (F_L_mayStretch_82 an af ae v1 v2 v3 v4 v6 r11 2000 1 x23).bind fun o24 => vlet ((v6 : Int32) + 1) fun x25 => F_L_mayStretch_9 an af ae v1 v2 v3 v4 n o24 x25) else (vgd (ix (v6) 16) <| if r11 = (af v6.toNatClampNeg) then (vlet ((8 : Int32) * v1) fun x31 => (F_L_mayStretch_82 an af ae v1 v2 v3 v4 v6 r11 2000 1 x31).bind fun o32 => vlet ((v6 : Int32) + 1) fun x33 => F_L_mayStretch_9 an af ae v1 v2 v3 v4 n o32 x33) else (vlet ((8 : Int32) * v1) fun x28 => (F_L_mayStretch_82 an af ae v1 v2 v3 v4 v6 r11 2000 0 x28).bind fun o29 => vlet ((v6 : Int32) + 1) fun x30 => F_L_mayStretch_9 an af ae v1 v2 v3 v4 n o29 x30)))))
set_option maxHeartbeats 4000000 in
set_option maxRecDepth 100000 in
theorem w_L_mayStretch_9 {p : Program} {l : Launch} {e : Env} {s : State} {m : MethodId} {args : Array Value} {below : List Frame} {meth : Method} {c : Code} {G : va_G} {g : Nat → ClassId} (X : cx p s m args meth c cL_mayStretch 11 (some .boolean) RL wsL_mayStretch) (K : amb G g s) (qn qf qe : Nat) (an : Nat → Int32) (af : Nat → Int32) (ae : Nat → Int32) (v1 : Int32) (v2 : Int32) (v3 : Int32) (v4 : Int32) (hP : va_P G vwCl [(qn, .inl (g 0, 2, .inl an)), (qf, .inl (g 0, 16, .inl af)), (qe, .inl (g 0, 16, .inl ae))] s.heap) (res : Int32) : ∀ (n : Nat) (v5 : Int32) (v6 : Int32), F_L_mayStretch_9 an af ae v1 v2 v3 v4 n v5 v6 = some res → ∀ (ls : Array Slot), lv_has ls 11 [(0, .ref qn), (1, .ref qf), (2, .ref qe), (3, .int v1), (4, .int v2), (5, .int v3), (6, .int v4), (7, .int v5), (8, .int v6)] → W p l e (rmF 1 24) s m args below meth c s.heap [] 0 0 (roM below (some (.int res)) args s) (F0 m 9 ls []) := by
  obtain ⟨hx, hb, hml, hr, hown, hts, hk⟩ := id X
  intro n
  induction n with
  | zero => intro v5 v6 hq; exact q_no hq
  | succ n ih =>
    intro v5 v6 hq ls hl
    rw [F_L_mayStretch_9] at hq
    refine lv_iload hx hb dL_mayStretch_9 (lv_at hl 8 rfl) ?_
    refine lv_bipush (v := 8) hx hb dL_mayStretch_11 (by decide) ?_
    refine lv_iload_n hx hb dL_mayStretch_13 rfl (lv_at hl 3 rfl) ?_
    refine lv_imul hx hb dL_mayStretch_14 ?_
    refine lv_aload_n hx hb dL_mayStretch_15 rfl (lv_at hl 0 rfl) ?_
    refine lv_iload_n hx hb dL_mayStretch_16 rfl (lv_at hl 3 rfl) ?_
    obtain ⟨hh7, hq⟩ := q_gd hq
    refine va_iald hx hb K.1 hP 0 0 rfl rfl (vp_in_iff.mpr hh7) dL_mayStretch_17 ?_
    refine lv_iadd hx hb dL_mayStretch_18 ?_
    refine lv_icmp_ge (tgt := 131) hx hb dL_mayStretch_19 (by decide) (fun c8 => ?_) (fun c8 => ?_)
    · have hq := q_if_t hq c8
      refine lv_iload hx hb dL_mayStretch_131 (lv_at hl 7 rfl) ?_
      obtain ⟨hh9, hq⟩ := q_gd hq
      obtain rfl := q_rt hq
      exact ro_zret hx hb hr (nz_b hh9) hk dL_mayStretch_133
    · have hq := q_if_f hq c8
      refine lv_aload_n hx hb dL_mayStretch_22 rfl (lv_at hl 1 rfl) ?_
      refine lv_iload hx hb dL_mayStretch_23 (lv_at hl 8 rfl) ?_
      obtain ⟨hh10, hq⟩ := q_gd hq
      refine va_iald hx hb K.1 hP 1 0 rfl rfl (vp_in_iff.mpr hh10) dL_mayStretch_25 ?_
      refine lv_iload hx hb dL_mayStretch_26 (lv_at hl 4 rfl) ?_
      refine lv_iload hx hb dL_mayStretch_28 (lv_at hl 5 rfl) ?_
      refine lv_iload hx hb dL_mayStretch_30 (lv_at hl 6 rfl) ?_
      obtain ⟨r11, hh12, hq⟩ := q_bd hq
      refine roS (As := [.int (af v6.toNatClampNeg), .int v2, .int v3, .int v4]) (rest := []) X K (k_L_then l G g (af v6.toNatClampNeg) v2 v3 v4 _ hh12) hd_L_then gL_mayStretch_L_then (hP.sub [] rfl) hl.1 dL_mayStretch_32 rfl rfl ⟨Nat.le_of_ble_eq_true rfl, Nat.le_of_ble_eq_true rfl⟩ rfl (Nat.le_of_ble_eq_true rfl) ⟨Nat.zero_le _, Nat.zero_le _⟩ ?_
      refine lv_istore (lv' := [(9, .int r11), (0, .ref qn), (1, .ref qf), (2, .ref qe), (3, .int v1), (4, .int v2), (5, .int v3), (6, .int v4), (7, .int v5), (8, .int v6)]) hx hb dL_mayStretch_35 hl (by decide) rfl (fun ls hl => ?_)
      refine lv_iload hx hb dL_mayStretch_37 (lv_at hl 8 rfl) ?_
      refine lv_if_eq (tgt := 73) hx hb dL_mayStretch_39 (by decide) (fun c13 => ?_) (fun c13 => ?_)
      · have hq := q_if_t hq c13
        refine lv_iconst (v := 0) hx hb dL_mayStretch_73 (by decide) ?_
        refine lv_istore (lv' := [(7, .int 0), (9, .int r11), (0, .ref qn), (1, .ref qf), (2, .ref qe), (3, .int v1), (4, .int v2), (5, .int v3), (6, .int v4), (8, .int v6)]) hx hb dL_mayStretch_74 hl (by decide) rfl (fun ls hl => ?_)
        refine lv_bipush (v := 8) hx hb dL_mayStretch_76 (by decide) ?_
        refine lv_iload_n hx hb dL_mayStretch_78 rfl (lv_at hl 5 rfl) ?_
        refine lv_imul hx hb dL_mayStretch_79 ?_
        refine lv_topi (fun x14 ex14 => ?_)
        have hq := q_let hq ex14
        refine lv_istore (lv' := [(10, .int x14), (7, .int 0), (9, .int r11), (0, .ref qn), (1, .ref qf), (2, .ref qe), (3, .int v1), (4, .int v2), (5, .int v3), (6, .int v4), (8, .int v6)]) hx hb dL_mayStretch_80 hl (by decide) rfl (fun ls hl => ?_)
        obtain ⟨o15, ho15, hq⟩ := q_bd hq
        refine w_L_mayStretch_82 X K qn qf qe an af ae v1 v2 v3 v4 v6 r11 hP o15 (fun ls hl => ?_) 2000 0 x14 ho15 ls (lv_sub hl [3, 4, 5, 6, 7, 8, 9, 1, 10, 2, 0] rfl)
        have hl : lv_has ls 11 [(0, .ref qn), (1, .ref qf), (2, .ref qe), (3, .int v1), (4, .int v2), (5, .int v3), (6, .int v4), (7, .int o15), (8, .int v6)] := hl
        obtain ⟨x16, ex16⟩ : ∃ y : Int32, y = (v6 : Int32) + 1 := ⟨_, rfl⟩
        have hq := q_let hq ex16
        refine lv_iinc (v := x16) (lv' := [(8, .int x16), (0, .ref qn), (1, .ref qf), (2, .ref qe), (3, .int v1), (4, .int v2), (5, .int v3), (6, .int v4), (7, .int o15)]) hx hb dL_mayStretch_125 hl (k := 8) rfl (by rw [ex16]; rfl) (by decide) rfl (fun ls hl => ?_)
        refine lv_goto (tgt := 9) hx hb dL_mayStretch_128 (by decide) ?_
        exact ih o15 x16 hq ls (lv_sub hl [1, 2, 3, 4, 5, 6, 7, 8, 0] rfl)
      · have hq := q_if_f hq c13
        refine lv_iload hx hb dL_mayStretch_42 (lv_at hl 0 rfl) ?_
        refine lv_sipush (v := 1000) hx hb dL_mayStretch_44 (by decide) ?_
        refine lv_icmp_ge (tgt := 73) hx hb dL_mayStretch_47 (by decide) (fun c17 => ?_) (fun c17 => ?_)
        · have hq := q_if_t hq c17
          refine lv_iconst (v := 0) hx hb dL_mayStretch_73 (by decide) ?_
          refine lv_istore (lv' := [(7, .int 0), (9, .int r11), (0, .ref qn), (1, .ref qf), (2, .ref qe), (3, .int v1), (4, .int v2), (5, .int v3), (6, .int v4), (8, .int v6)]) hx hb dL_mayStretch_74 hl (by decide) rfl (fun ls hl => ?_)
          refine lv_bipush (v := 8) hx hb dL_mayStretch_76 (by decide) ?_
          refine lv_iload_n hx hb dL_mayStretch_78 rfl (lv_at hl 5 rfl) ?_
          refine lv_imul hx hb dL_mayStretch_79 ?_
          refine lv_topi (fun x18 ex18 => ?_)
          have hq := q_let hq ex18
          refine lv_istore (lv' := [(10, .int x18), (7, .int 0), (9, .int r11), (0, .ref qn), (1, .ref qf), (2, .ref qe), (3, .int v1), (4, .int v2), (5, .int v3), (6, .int v4), (8, .int v6)]) hx hb dL_mayStretch_80 hl (by decide) rfl (fun ls hl => ?_)
          obtain ⟨o19, ho19, hq⟩ := q_bd hq
          refine w_L_mayStretch_82 X K qn qf qe an af ae v1 v2 v3 v4 v6 r11 hP o19 (fun ls hl => ?_) 2000 0 x18 ho19 ls (lv_sub hl [3, 4, 5, 6, 7, 8, 9, 1, 10, 2, 0] rfl)
          have hl : lv_has ls 11 [(0, .ref qn), (1, .ref qf), (2, .ref qe), (3, .int v1), (4, .int v2), (5, .int v3), (6, .int v4), (7, .int o19), (8, .int v6)] := hl
          obtain ⟨x20, ex20⟩ : ∃ y : Int32, y = (v6 : Int32) + 1 := ⟨_, rfl⟩
          have hq := q_let hq ex20
          refine lv_iinc (v := x20) (lv' := [(8, .int x20), (0, .ref qn), (1, .ref qf), (2, .ref qe), (3, .int v1), (4, .int v2), (5, .int v3), (6, .int v4), (7, .int o19)]) hx hb dL_mayStretch_125 hl (k := 8) rfl (by rw [ex20]; rfl) (by decide) rfl (fun ls hl => ?_)
          refine lv_goto (tgt := 9) hx hb dL_mayStretch_128 (by decide) ?_
          exact ih o19 x20 hq ls (lv_sub hl [1, 2, 3, 4, 5, 6, 7, 8, 0] rfl)
        · have hq := q_if_f hq c17
          refine lv_aload_n hx hb dL_mayStretch_50 rfl (lv_at hl 3 rfl) ?_
          refine lv_iload hx hb dL_mayStretch_51 (lv_at hl 9 rfl) ?_
          obtain ⟨hh21, hq⟩ := q_gd hq
          refine va_iald hx hb K.1 hP 2 0 rfl rfl (vp_in_iff.mpr hh21) dL_mayStretch_53 ?_
          refine lv_bipush (v := 10) hx hb dL_mayStretch_54 (by decide) ?_
          refine lv_irem hx hb dL_mayStretch_56 (by decide) ?_
          refine lv_if_eq (tgt := 69) hx hb dL_mayStretch_57 (by decide) (fun c22 => ?_) (fun c22 => ?_)
          · have hq := q_if_t hq c22
            refine lv_iconst (v := 1) hx hb dL_mayStretch_69 (by decide) ?_
            refine lv_goto (tgt := 74) hx hb dL_mayStretch_70 (by decide) ?_
            refine lv_istore (lv' := [(7, .int 1), (9, .int r11), (0, .ref qn), (1, .ref qf), (2, .ref qe), (3, .int v1), (4, .int v2), (5, .int v3), (6, .int v4), (8, .int v6)]) hx hb dL_mayStretch_74 hl (by decide) rfl (fun ls hl => ?_)
            refine lv_bipush (v := 8) hx hb dL_mayStretch_76 (by decide) ?_
            refine lv_iload_n hx hb dL_mayStretch_78 rfl (lv_at hl 5 rfl) ?_
            refine lv_imul hx hb dL_mayStretch_79 ?_
            refine lv_topi (fun x23 ex23 => ?_)
            have hq := q_let hq ex23
            refine lv_istore (lv' := [(10, .int x23), (7, .int 1), (9, .int r11), (0, .ref qn), (1, .ref qf), (2, .ref qe), (3, .int v1), (4, .int v2), (5, .int v3), (6, .int v4), (8, .int v6)]) hx hb dL_mayStretch_80 hl (by decide) rfl (fun ls hl => ?_)
            obtain ⟨o24, ho24, hq⟩ := q_bd hq
            refine w_L_mayStretch_82 X K qn qf qe an af ae v1 v2 v3 v4 v6 r11 hP o24 (fun ls hl => ?_) 2000 1 x23 ho24 ls (lv_sub hl [3, 4, 5, 6, 7, 8, 9, 1, 10, 2, 0] rfl)
            have hl : lv_has ls 11 [(0, .ref qn), (1, .ref qf), (2, .ref qe), (3, .int v1), (4, .int v2), (5, .int v3), (6, .int v4), (7, .int o24), (8, .int v6)] := hl
            obtain ⟨x25, ex25⟩ : ∃ y : Int32, y = (v6 : Int32) + 1 := ⟨_, rfl⟩
            have hq := q_let hq ex25
            refine lv_iinc (v := x25) (lv' := [(8, .int x25), (0, .ref qn), (1, .ref qf), (2, .ref qe), (3, .int v1), (4, .int v2), (5, .int v3), (6, .int v4), (7, .int o24)]) hx hb dL_mayStretch_125 hl (k := 8) rfl (by rw [ex25]; rfl) (by decide) rfl (fun ls hl => ?_)
            refine lv_goto (tgt := 9) hx hb dL_mayStretch_128 (by decide) ?_
            exact ih o24 x25 hq ls (lv_sub hl [1, 2, 3, 4, 5, 6, 7, 8, 0] rfl)
          · have hq := q_if_f hq c22
            refine lv_iload hx hb dL_mayStretch_60 (lv_at hl 0 rfl) ?_
            refine lv_aload_n hx hb dL_mayStretch_62 rfl (lv_at hl 2 rfl) ?_
            refine lv_iload hx hb dL_mayStretch_63 (lv_at hl 9 rfl) ?_
            obtain ⟨hh26, hq⟩ := q_gd hq
            refine va_iald hx hb K.1 hP 1 0 rfl rfl (vp_in_iff.mpr hh26) dL_mayStretch_65 ?_
            refine lv_icmp_ne (tgt := 73) hx hb dL_mayStretch_66 (by decide) (fun c27 => ?_) (fun c27 => ?_)
            · have hq := q_if_f hq c27
              refine lv_iconst (v := 0) hx hb dL_mayStretch_73 (by decide) ?_
              refine lv_istore (lv' := [(7, .int 0), (9, .int r11), (0, .ref qn), (1, .ref qf), (2, .ref qe), (3, .int v1), (4, .int v2), (5, .int v3), (6, .int v4), (8, .int v6)]) hx hb dL_mayStretch_74 hl (by decide) rfl (fun ls hl => ?_)
              refine lv_bipush (v := 8) hx hb dL_mayStretch_76 (by decide) ?_
              refine lv_iload_n hx hb dL_mayStretch_78 rfl (lv_at hl 5 rfl) ?_
              refine lv_imul hx hb dL_mayStretch_79 ?_
              refine lv_topi (fun x28 ex28 => ?_)
              have hq := q_let hq ex28
              refine lv_istore (lv' := [(10, .int x28), (7, .int 0), (9, .int r11), (0, .ref qn), (1, .ref qf), (2, .ref qe), (3, .int v1), (4, .int v2), (5, .int v3), (6, .int v4), (8, .int v6)]) hx hb dL_mayStretch_80 hl (by decide) rfl (fun ls hl => ?_)
              obtain ⟨o29, ho29, hq⟩ := q_bd hq
              refine w_L_mayStretch_82 X K qn qf qe an af ae v1 v2 v3 v4 v6 r11 hP o29 (fun ls hl => ?_) 2000 0 x28 ho29 ls (lv_sub hl [3, 4, 5, 6, 7, 8, 9, 1, 10, 2, 0] rfl)
              have hl : lv_has ls 11 [(0, .ref qn), (1, .ref qf), (2, .ref qe), (3, .int v1), (4, .int v2), (5, .int v3), (6, .int v4), (7, .int o29), (8, .int v6)] := hl
              obtain ⟨x30, ex30⟩ : ∃ y : Int32, y = (v6 : Int32) + 1 := ⟨_, rfl⟩
              have hq := q_let hq ex30
              refine lv_iinc (v := x30) (lv' := [(8, .int x30), (0, .ref qn), (1, .ref qf), (2, .ref qe), (3, .int v1), (4, .int v2), (5, .int v3), (6, .int v4), (7, .int o29)]) hx hb dL_mayStretch_125 hl (k := 8) rfl (by rw [ex30]; rfl) (by decide) rfl (fun ls hl => ?_)
              refine lv_goto (tgt := 9) hx hb dL_mayStretch_128 (by decide) ?_
              exact ih o29 x30 hq ls (lv_sub hl [1, 2, 3, 4, 5, 6, 7, 8, 0] rfl)
            · have hq := q_if_t hq c27
              refine lv_iconst (v := 1) hx hb dL_mayStretch_69 (by decide) ?_
              refine lv_goto (tgt := 74) hx hb dL_mayStretch_70 (by decide) ?_
              refine lv_istore (lv' := [(7, .int 1), (9, .int r11), (0, .ref qn), (1, .ref qf), (2, .ref qe), (3, .int v1), (4, .int v2), (5, .int v3), (6, .int v4), (8, .int v6)]) hx hb dL_mayStretch_74 hl (by decide) rfl (fun ls hl => ?_)
              refine lv_bipush (v := 8) hx hb dL_mayStretch_76 (by decide) ?_
              refine lv_iload_n hx hb dL_mayStretch_78 rfl (lv_at hl 5 rfl) ?_
              refine lv_imul hx hb dL_mayStretch_79 ?_
              refine lv_topi (fun x31 ex31 => ?_)
              have hq := q_let hq ex31
              refine lv_istore (lv' := [(10, .int x31), (7, .int 1), (9, .int r11), (0, .ref qn), (1, .ref qf), (2, .ref qe), (3, .int v1), (4, .int v2), (5, .int v3), (6, .int v4), (8, .int v6)]) hx hb dL_mayStretch_80 hl (by decide) rfl (fun ls hl => ?_)
              obtain ⟨o32, ho32, hq⟩ := q_bd hq
              refine w_L_mayStretch_82 X K qn qf qe an af ae v1 v2 v3 v4 v6 r11 hP o32 (fun ls hl => ?_) 2000 1 x31 ho32 ls (lv_sub hl [3, 4, 5, 6, 7, 8, 9, 1, 10, 2, 0] rfl)
              have hl : lv_has ls 11 [(0, .ref qn), (1, .ref qf), (2, .ref qe), (3, .int v1), (4, .int v2), (5, .int v3), (6, .int v4), (7, .int o32), (8, .int v6)] := hl
              obtain ⟨x33, ex33⟩ : ∃ y : Int32, y = (v6 : Int32) + 1 := ⟨_, rfl⟩
              have hq := q_let hq ex33
              refine lv_iinc (v := x33) (lv' := [(8, .int x33), (0, .ref qn), (1, .ref qf), (2, .ref qe), (3, .int v1), (4, .int v2), (5, .int v3), (6, .int v4), (7, .int o32)]) hx hb dL_mayStretch_125 hl (k := 8) rfl (by rw [ex33]; rfl) (by decide) rfl (fun ls hl => ?_)
              refine lv_goto (tgt := 9) hx hb dL_mayStretch_128 (by decide) ?_
              exact ih o32 x33 hq ls (lv_sub hl [1, 2, 3, 4, 5, 6, 7, 8, 0] rfl)
def F_L_mayStretch (an : Nat → Int32) (af : Nat → Int32) (ae : Nat → Int32) (p4 : Int32) (p5 : Int32) (p6 : Int32) (p7 : Int32) : Option (Int32) := vlet ((8 : Int32) * p4) fun x1 => F_L_mayStretch_9 an af ae p4 p5 p6 p7 2000 1 x1
set_option maxHeartbeats 4000000 in
set_option maxRecDepth 100000 in
theorem k_L_mayStretch (l : Launch) (G : va_G) (g : Nat → ClassId) (qn qf qe : Nat) (an : Nat → Int32) (af : Nat → Int32) (ae : Nat → Int32) (p4 : Int32) (p5 : Int32) (p6 : Int32) (p7 : Int32) (res : Int32) (hq : F_L_mayStretch an af ae p4 p5 p6 p7 = some res) : roC l yL_mayStretch wsL_mayStretch (rmF 1 24) G g [.ref qn, .ref qf, .ref qe, .int p4, .int p5, .int p6, .int p7] [(qn, .inl (g 0, 2, .inl an)), (qf, .inl (g 0, 16, .inl af)), (qe, .inl (g 0, 16, .inl ae))] (some (.int res)) := by
  refine roC.of (cc := cL_mayStretch) (maxL := 11) (ret := (some .boolean)) (by decide) rfl (Nat.le_of_ble_eq_true rfl) ?_
  intro p e s m below meth c ls X K hP hl
  obtain ⟨hx, hb, hml, hr, hown, hts, hk⟩ := id X
  have hl : lv_has ls 11 [(0, .ref qn), (1, .ref qf), (2, .ref qe), (3, .int p4), (4, .int p5), (5, .int p6), (6, .int p7)] := hl
  unfold F_L_mayStretch at hq
  refine lv_iconst (v := 1) hx hb dL_mayStretch_0 (by decide) ?_
  refine lv_istore (lv' := [(7, .int 1), (0, .ref qn), (1, .ref qf), (2, .ref qe), (3, .int p4), (4, .int p5), (5, .int p6), (6, .int p7)]) hx hb dL_mayStretch_1 hl (by decide) rfl (fun ls hl => ?_)
  refine lv_bipush (v := 8) hx hb dL_mayStretch_3 (by decide) ?_
  refine lv_iload_n hx hb dL_mayStretch_5 rfl (lv_at hl 4 rfl) ?_
  refine lv_imul hx hb dL_mayStretch_6 ?_
  refine lv_topi (fun x1 ex1 => ?_)
  have hq := q_let hq ex1
  refine lv_istore (lv' := [(8, .int x1), (7, .int 1), (0, .ref qn), (1, .ref qf), (2, .ref qe), (3, .int p4), (4, .int p5), (5, .int p6), (6, .int p7)]) hx hb dL_mayStretch_7 hl (by decide) rfl (fun ls hl => ?_)
  exact w_L_mayStretch_9 X K qn qf qe an af ae p4 p5 p6 p7 hP _ 2000 1 x1 hq ls (lv_sub hl [2, 3, 4, 5, 6, 7, 8, 1, 0] rfl)
def F_L_tangent_126 (an : Nat → Int32) (af : Nat → Int32) (av : Nat → Int32) (ae : Nat → Int32) (aw : Nat → Int32) (v1 : Int32) (v2 : Int32) (v3 : Int32) : Option (Int32) := vgd (ix (v1 + 1) 16) <| vgd (ix (v1 - 1) 16) <| vgd (¬ ((af (v1 + 1).toNatClampNeg) - (af (v1 - 1).toNatClampNeg)) = 0) <| some (((1000 : Int32) * (v2 + v3)) / ((af (v1 + 1).toNatClampNeg) - (af (v1 - 1).toNatClampNeg)))
set_option maxHeartbeats 4000000 in
set_option maxRecDepth 100000 in
theorem w_L_tangent_126 {p : Program} {l : Launch} {e : Env} {s : State} {m : MethodId} {args : Array Value} {below : List Frame} {meth : Method} {c : Code} {G : va_G} {g : Nat → ClassId} (X : cx p s m args meth c cL_tangent 12 (some .int) RL wsL_tangent) (K : amb G g s) (qn qf qv qe qw : Nat) (an : Nat → Int32) (af : Nat → Int32) (av : Nat → Int32) (ae : Nat → Int32) (aw : Nat → Int32) (v1 : Int32) (v2 : Int32) (v3 : Int32) (hP : va_P G vwCl [(qn, .inl (g 0, 2, .inl an)), (qf, .inl (g 0, 16, .inl af)), (qv, .inl (g 0, 16, .inl av)), (qe, .inl (g 0, 16, .inl ae)), (qw, .inl (g 0, 16, .inl aw))] s.heap) (res : Int32) (hq : F_L_tangent_126 an af av ae aw v1 v2 v3 = some res) : ∀ (ls : Array Slot), lv_has ls 12 [(1, .ref qf), (7, .int v1), (9, .int v2), (10, .int v3)] → W p l e (rmF 0 0) s m args below meth c s.heap [] 0 0 (roM below (some (.int res)) args s) (F0 m 126 ls []) := by
  obtain ⟨hx, hb, hml, hr, hown, hts, hk⟩ := id X
  intro ls hl
  unfold F_L_tangent_126 at hq
  refine lv_sipush (v := 1000) hx hb dL_tangent_126 (by decide) ?_
  refine lv_iload hx hb dL_tangent_129 (lv_at hl 2 rfl) ?_
  refine lv_iload hx hb dL_tangent_131 (lv_at hl 3 rfl) ?_
  refine lv_iadd hx hb dL_tangent_133 ?_
  refine lv_imul hx hb dL_tangent_134 ?_
  refine lv_aload_n hx hb dL_tangent_135 rfl (lv_at hl 0 rfl) ?_
  refine lv_iload hx hb dL_tangent_136 (lv_at hl 1 rfl) ?_
  refine lv_iconst (v := 1) hx hb dL_tangent_138 (by decide) ?_
  refine lv_iadd hx hb dL_tangent_139 ?_
  obtain ⟨hh4, hq⟩ := q_gd hq
  refine va_iald hx hb K.1 hP 1 0 rfl rfl (vp_in_iff.mpr hh4) dL_tangent_140 ?_
  refine lv_aload_n hx hb dL_tangent_141 rfl (lv_at hl 0 rfl) ?_
  refine lv_iload hx hb dL_tangent_142 (lv_at hl 1 rfl) ?_
  refine lv_iconst (v := 1) hx hb dL_tangent_144 (by decide) ?_
  refine lv_isub hx hb dL_tangent_145 ?_
  obtain ⟨hh5, hq⟩ := q_gd hq
  refine va_iald hx hb K.1 hP 1 0 rfl rfl (vp_in_iff.mpr hh5) dL_tangent_146 ?_
  refine lv_isub hx hb dL_tangent_147 ?_
  obtain ⟨hh6, hq⟩ := q_gd hq
  refine lv_idiv hx hb dL_tangent_148 hh6 ?_
  obtain rfl := q_rt hq
  exact ro_iret hx hb hr hk dL_tangent_149
def F_L_tangent_109 (an : Nat → Int32) (af : Nat → Int32) (av : Nat → Int32) (ae : Nat → Int32) (aw : Nat → Int32) (v1 : Int32) (v2 : Int32) (v3 : Int32) (v4 : Int32) (v5 : Int32) : Option (Int32) := if v2 = 2 then (if v5 = 0 then (some (0)) else (F_L_tangent_126 an af av ae aw v1 v3 v4)) else (F_L_tangent_126 an af av ae aw v1 v3 v4)
set_option maxHeartbeats 4000000 in
set_option maxRecDepth 100000 in
theorem w_L_tangent_109 {p : Program} {l : Launch} {e : Env} {s : State} {m : MethodId} {args : Array Value} {below : List Frame} {meth : Method} {c : Code} {G : va_G} {g : Nat → ClassId} (X : cx p s m args meth c cL_tangent 12 (some .int) RL wsL_tangent) (K : amb G g s) (qn qf qv qe qw : Nat) (an : Nat → Int32) (af : Nat → Int32) (av : Nat → Int32) (ae : Nat → Int32) (aw : Nat → Int32) (v1 : Int32) (v2 : Int32) (v3 : Int32) (v4 : Int32) (v5 : Int32) (hP : va_P G vwCl [(qn, .inl (g 0, 2, .inl an)), (qf, .inl (g 0, 16, .inl af)), (qv, .inl (g 0, 16, .inl av)), (qe, .inl (g 0, 16, .inl ae)), (qw, .inl (g 0, 16, .inl aw))] s.heap) (res : Int32) (hq : F_L_tangent_109 an af av ae aw v1 v2 v3 v4 v5 = some res) : ∀ (ls : Array Slot), lv_has ls 12 [(1, .ref qf), (7, .int v1), (8, .int v2), (9, .int v3), (10, .int v4)] → W p l e (rmF 0 0) s m args below meth c s.heap [] 0 0 (roM below (some (.int res)) args s) (F0 m 109 ls [.int v5]) := by
  obtain ⟨hx, hb, hml, hr, hown, hts, hk⟩ := id X
  intro ls hl
  unfold F_L_tangent_109 at hq
  refine lv_istore (lv' := [(11, .int v5), (1, .ref qf), (7, .int v1), (8, .int v2), (9, .int v3), (10, .int v4)]) hx hb dL_tangent_109 hl (by decide) rfl (fun ls hl => ?_)
  refine lv_iload hx hb dL_tangent_111 (lv_at hl 3 rfl) ?_
  refine lv_iconst (v := 2) hx hb dL_tangent_113 (by decide) ?_
  refine lv_icmp_ne (tgt := 126) hx hb dL_tangent_114 (by decide) (fun c6 => ?_) (fun c6 => ?_)
  · have hq := q_if_f hq c6
    exact w_L_tangent_126 X K qn qf qv qe qw an af av ae aw v1 v3 v4 hP _ hq ls (lv_sub hl [1, 2, 4, 5] rfl)
  · have hq := q_if_t hq c6
    refine lv_iload hx hb dL_tangent_117 (lv_at hl 0 rfl) ?_
    refine lv_if_ne (tgt := 126) hx hb dL_tangent_119 (by decide) (fun c7 => ?_) (fun c7 => ?_)
    · have hq := q_if_f hq c7
      exact w_L_tangent_126 X K qn qf qv qe qw an af av ae aw v1 v3 v4 hP _ hq ls (lv_sub hl [1, 2, 4, 5] rfl)
    · have hq := q_if_t hq c7
      refine lv_iconst (v := 0) hx hb dL_tangent_122 (by decide) ?_
      refine lv_goto (tgt := 149) hx hb dL_tangent_123 (by decide) ?_
      obtain rfl := q_rt hq
      exact ro_iret hx hb hr hk dL_tangent_149
def F_L_tangent_108 (an : Nat → Int32) (af : Nat → Int32) (av : Nat → Int32) (ae : Nat → Int32) (aw : Nat → Int32) (v1 : Int32) (v2 : Int32) (v3 : Int32) (v4 : Int32) : Option (Int32) := F_L_tangent_109 an af av ae aw v1 v2 v3 v4 0
set_option maxHeartbeats 4000000 in
set_option maxRecDepth 100000 in
theorem w_L_tangent_108 {p : Program} {l : Launch} {e : Env} {s : State} {m : MethodId} {args : Array Value} {below : List Frame} {meth : Method} {c : Code} {G : va_G} {g : Nat → ClassId} (X : cx p s m args meth c cL_tangent 12 (some .int) RL wsL_tangent) (K : amb G g s) (qn qf qv qe qw : Nat) (an : Nat → Int32) (af : Nat → Int32) (av : Nat → Int32) (ae : Nat → Int32) (aw : Nat → Int32) (v1 : Int32) (v2 : Int32) (v3 : Int32) (v4 : Int32) (hP : va_P G vwCl [(qn, .inl (g 0, 2, .inl an)), (qf, .inl (g 0, 16, .inl af)), (qv, .inl (g 0, 16, .inl av)), (qe, .inl (g 0, 16, .inl ae)), (qw, .inl (g 0, 16, .inl aw))] s.heap) (res : Int32) (hq : F_L_tangent_108 an af av ae aw v1 v2 v3 v4 = some res) : ∀ (ls : Array Slot), lv_has ls 12 [(1, .ref qf), (7, .int v1), (8, .int v2), (9, .int v3), (10, .int v4)] → W p l e (rmF 0 0) s m args below meth c s.heap [] 0 0 (roM below (some (.int res)) args s) (F0 m 108 ls []) := by
  obtain ⟨hx, hb, hml, hr, hown, hts, hk⟩ := id X
  intro ls hl
  unfold F_L_tangent_108 at hq
  refine lv_iconst (v := 0) hx hb dL_tangent_108 (by decide) ?_
  exact w_L_tangent_109 X K qn qf qv qe qw an af av ae aw v1 v2 v3 v4 0 hP _ hq ls (lv_sub hl [0, 1, 2, 3, 4] rfl)
def F_L_tangent_104 (an : Nat → Int32) (af : Nat → Int32) (av : Nat → Int32) (ae : Nat → Int32) (aw : Nat → Int32) (v1 : Int32) (v2 : Int32) (v3 : Int32) (v4 : Int32) : Option (Int32) := F_L_tangent_109 an af av ae aw v1 v2 v3 v4 1
set_option maxHeartbeats 4000000 in
set_option maxRecDepth 100000 in
theorem w_L_tangent_104 {p : Program} {l : Launch} {e : Env} {s : State} {m : MethodId} {args : Array Value} {below : List Frame} {meth : Method} {c : Code} {G : va_G} {g : Nat → ClassId} (X : cx p s m args meth c cL_tangent 12 (some .int) RL wsL_tangent) (K : amb G g s) (qn qf qv qe qw : Nat) (an : Nat → Int32) (af : Nat → Int32) (av : Nat → Int32) (ae : Nat → Int32) (aw : Nat → Int32) (v1 : Int32) (v2 : Int32) (v3 : Int32) (v4 : Int32) (hP : va_P G vwCl [(qn, .inl (g 0, 2, .inl an)), (qf, .inl (g 0, 16, .inl af)), (qv, .inl (g 0, 16, .inl av)), (qe, .inl (g 0, 16, .inl ae)), (qw, .inl (g 0, 16, .inl aw))] s.heap) (res : Int32) (hq : F_L_tangent_104 an af av ae aw v1 v2 v3 v4 = some res) : ∀ (ls : Array Slot), lv_has ls 12 [(1, .ref qf), (7, .int v1), (8, .int v2), (9, .int v3), (10, .int v4)] → W p l e (rmF 0 0) s m args below meth c s.heap [] 0 0 (roM below (some (.int res)) args s) (F0 m 104 ls []) := by
  obtain ⟨hx, hb, hml, hr, hown, hts, hk⟩ := id X
  intro ls hl
  unfold F_L_tangent_104 at hq
  refine lv_iconst (v := 1) hx hb dL_tangent_104 (by decide) ?_
  refine lv_goto (tgt := 109) hx hb dL_tangent_105 (by decide) ?_
  exact w_L_tangent_109 X K qn qf qv qe qw an af av ae aw v1 v2 v3 v4 1 hP _ hq ls (lv_sub hl [0, 1, 2, 3, 4] rfl)
def F_L_tangent_94 (an : Nat → Int32) (af : Nat → Int32) (av : Nat → Int32) (ae : Nat → Int32) (aw : Nat → Int32) (v1 : Int32) (v2 : Int32) (v3 : Int32) (v4 : Int32) : Option (Int32) := if (0 : Int32) ≤ v3 then (F_L_tangent_108 an af av ae aw v1 v2 v3 v4) else (if (0 : Int32) ≤ v4 then (F_L_tangent_108 an af av ae aw v1 v2 v3 v4) else (F_L_tangent_104 an af av ae aw v1 v2 v3 v4))
set_option maxHeartbeats 4000000 in
set_option maxRecDepth 100000 in
theorem w_L_tangent_94 {p : Program} {l : Launch} {e : Env} {s : State} {m : MethodId} {args : Array Value} {below : List Frame} {meth : Method} {c : Code} {G : va_G} {g : Nat → ClassId} (X : cx p s m args meth c cL_tangent 12 (some .int) RL wsL_tangent) (K : amb G g s) (qn qf qv qe qw : Nat) (an : Nat → Int32) (af : Nat → Int32) (av : Nat → Int32) (ae : Nat → Int32) (aw : Nat → Int32) (v1 : Int32) (v2 : Int32) (v3 : Int32) (v4 : Int32) (hP : va_P G vwCl [(qn, .inl (g 0, 2, .inl an)), (qf, .inl (g 0, 16, .inl af)), (qv, .inl (g 0, 16, .inl av)), (qe, .inl (g 0, 16, .inl ae)), (qw, .inl (g 0, 16, .inl aw))] s.heap) (res : Int32) (hq : F_L_tangent_94 an af av ae aw v1 v2 v3 v4 = some res) : ∀ (ls : Array Slot), lv_has ls 12 [(1, .ref qf), (7, .int v1), (8, .int v2), (9, .int v3), (10, .int v4)] → W p l e (rmF 0 0) s m args below meth c s.heap [] 0 0 (roM below (some (.int res)) args s) (F0 m 94 ls []) := by
  obtain ⟨hx, hb, hml, hr, hown, hts, hk⟩ := id X
  intro ls hl
  unfold F_L_tangent_94 at hq
  refine lv_iload hx hb dL_tangent_94 (lv_at hl 3 rfl) ?_
  refine lv_if_ge (tgt := 108) hx hb dL_tangent_96 (by decide) (fun c5 => ?_) (fun c5 => ?_)
  · have hq := q_if_t hq c5
    exact w_L_tangent_108 X K qn qf qv qe qw an af av ae aw v1 v2 v3 v4 hP _ hq ls (lv_sub hl [0, 1, 2, 3, 4] rfl)
  · have hq := q_if_f hq c5
    refine lv_iload hx hb dL_tangent_99 (lv_at hl 4 rfl) ?_
    refine lv_if_ge (tgt := 108) hx hb dL_tangent_101 (by decide) (fun c6 => ?_) (fun c6 => ?_)
    · have hq := q_if_t hq c6
      exact w_L_tangent_108 X K qn qf qv qe qw an af av ae aw v1 v2 v3 v4 hP _ hq ls (lv_sub hl [0, 1, 2, 3, 4] rfl)
    · have hq := q_if_f hq c6
      exact w_L_tangent_104 X K qn qf qv qe qw an af av ae aw v1 v2 v3 v4 hP _ hq ls (lv_sub hl [0, 1, 2, 3, 4] rfl)
def F_L_tangent (an : Nat → Int32) (af : Nat → Int32) (av : Nat → Int32) (ae : Nat → Int32) (aw : Nat → Int32) (p6 : Int32) (p7 : Int32) : Option (Int32) := vlet (((8 : Int32) * p6) + p7) fun x1 => vgd (ix (x1) 16) <| vlet (((ae x1.toNatClampNeg) / 10) - ((ae x1.toNatClampNeg) / 10) / 10 * 10) fun x3 => if x3 = 0 then (if x3 = 0 then (vgd (ix (x1) 16) <| some (aw x1.toNatClampNeg)) else (some (0))) else (if p7 = 0 then (if x3 = 0 then (vgd (ix (x1) 16) <| some (aw x1.toNatClampNeg)) else (some (0))) else (vgd (ix (p6) 2) <| if p7 = ((an p6.toNatClampNeg) - 1) then (if x3 = 0 then (vgd (ix (x1) 16) <| some (aw x1.toNatClampNeg)) else (some (0))) else (vgd (ix (x1) 16) <| vgd (ix (x1 - 1) 16) <| vlet ((av x1.toNatClampNeg) - (av (x1 - 1).toNatClampNeg)) fun x14 => vgd (ix (x1 + 1) 16) <| vgd (ix (x1) 16) <| vlet ((av (x1 + 1).toNatClampNeg) - (av x1.toNatClampNeg)) fun x17 => if x14 ≤ 0 then (F_L_tangent_94 an af av ae aw x1 x3 x14 x17) else (if (0 : Int32) < x17 then (F_L_tangent_104 an af av ae aw x1 x3 x14 x17) else (F_L_tangent_94 an af av ae aw x1 x3 x14 x17)))))
set_option maxHeartbeats 4000000 in
set_option maxRecDepth 100000 in
theorem k_L_tangent (l : Launch) (G : va_G) (g : Nat → ClassId) (qn qf qv qe qw : Nat) (an : Nat → Int32) (af : Nat → Int32) (av : Nat → Int32) (ae : Nat → Int32) (aw : Nat → Int32) (p6 : Int32) (p7 : Int32) (res : Int32) (hq : F_L_tangent an af av ae aw p6 p7 = some res) : roC l yL_tangent wsL_tangent (rmF 0 0) G g [.ref qn, .ref qf, .ref qv, .ref qe, .ref qw, .int p6, .int p7] [(qn, .inl (g 0, 2, .inl an)), (qf, .inl (g 0, 16, .inl af)), (qv, .inl (g 0, 16, .inl av)), (qe, .inl (g 0, 16, .inl ae)), (qw, .inl (g 0, 16, .inl aw))] (some (.int res)) := by
  refine roC.of (cc := cL_tangent) (maxL := 12) (ret := (some .int)) (by decide) rfl (Nat.le_of_ble_eq_true rfl) ?_
  intro p e s m below meth c ls X K hP hl
  obtain ⟨hx, hb, hml, hr, hown, hts, hk⟩ := id X
  have hl : lv_has ls 12 [(0, .ref qn), (1, .ref qf), (2, .ref qv), (3, .ref qe), (4, .ref qw), (5, .int p6), (6, .int p7)] := hl
  unfold F_L_tangent at hq
  refine lv_bipush (v := 8) hx hb dL_tangent_0 (by decide) ?_
  refine lv_iload hx hb dL_tangent_2 (lv_at hl 5 rfl) ?_
  refine lv_imul hx hb dL_tangent_4 ?_
  refine lv_iload hx hb dL_tangent_5 (lv_at hl 6 rfl) ?_
  refine lv_iadd hx hb dL_tangent_7 ?_
  refine lv_topi (fun x1 ex1 => ?_)
  have hq := q_let hq ex1
  refine lv_istore (lv' := [(7, .int x1), (0, .ref qn), (1, .ref qf), (2, .ref qv), (3, .ref qe), (4, .ref qw), (5, .int p6), (6, .int p7)]) hx hb dL_tangent_8 hl (by decide) rfl (fun ls hl => ?_)
  refine lv_aload_n hx hb dL_tangent_10 rfl (lv_at hl 4 rfl) ?_
  refine lv_iload hx hb dL_tangent_11 (lv_at hl 0 rfl) ?_
  obtain ⟨hh2, hq⟩ := q_gd hq
  refine va_iald hx hb K.1 hP 3 0 rfl rfl (vp_in_iff.mpr hh2) dL_tangent_13 ?_
  refine lv_bipush (v := 10) hx hb dL_tangent_14 (by decide) ?_
  refine lv_idiv hx hb dL_tangent_16 (by decide) ?_
  refine lv_bipush (v := 10) hx hb dL_tangent_17 (by decide) ?_
  refine lv_irem hx hb dL_tangent_19 (by decide) ?_
  refine lv_topi (fun x3 ex3 => ?_)
  have hq := q_let hq ex3
  refine lv_istore (lv' := [(8, .int x3), (7, .int x1), (0, .ref qn), (1, .ref qf), (2, .ref qv), (3, .ref qe), (4, .ref qw), (5, .int p6), (6, .int p7)]) hx hb dL_tangent_20 hl (by decide) rfl (fun ls hl => ?_)
  refine lv_iload hx hb dL_tangent_22 (lv_at hl 0 rfl) ?_
  refine lv_if_eq (tgt := 43) hx hb dL_tangent_24 (by decide) (fun c4 => ?_) (fun c4 => ?_)
  · have hq := q_if_t hq c4
    refine lv_iload hx hb dL_tangent_43 (lv_at hl 0 rfl) ?_
    refine lv_if_ne (tgt := 56) hx hb dL_tangent_45 (by decide) (fun c5 => ?_) (fun c5 => ?_)
    · have hq := q_if_f hq c5
      refine lv_iconst (v := 0) hx hb dL_tangent_56 (by decide) ?_
      obtain rfl := q_rt hq
      exact ro_iret hx hb hr hk dL_tangent_57
    · have hq := q_if_t hq c5
      refine lv_aload hx hb dL_tangent_48 (lv_at hl 6 rfl) ?_
      refine lv_iload hx hb dL_tangent_50 (lv_at hl 1 rfl) ?_
      obtain ⟨hh6, hq⟩ := q_gd hq
      refine va_iald hx hb K.1 hP 4 0 rfl rfl (vp_in_iff.mpr hh6) dL_tangent_52 ?_
      refine lv_goto (tgt := 57) hx hb dL_tangent_53 (by decide) ?_
      obtain rfl := q_rt hq
      exact ro_iret hx hb hr hk dL_tangent_57
  · have hq := q_if_f hq c4
    refine lv_iload hx hb dL_tangent_27 (lv_at hl 8 rfl) ?_
    refine lv_if_eq (tgt := 43) hx hb dL_tangent_29 (by decide) (fun c7 => ?_) (fun c7 => ?_)
    · have hq := q_if_t hq c7
      refine lv_iload hx hb dL_tangent_43 (lv_at hl 0 rfl) ?_
      refine lv_if_ne (tgt := 56) hx hb dL_tangent_45 (by decide) (fun c8 => ?_) (fun c8 => ?_)
      · have hq := q_if_f hq c8
        refine lv_iconst (v := 0) hx hb dL_tangent_56 (by decide) ?_
        obtain rfl := q_rt hq
        exact ro_iret hx hb hr hk dL_tangent_57
      · have hq := q_if_t hq c8
        refine lv_aload hx hb dL_tangent_48 (lv_at hl 6 rfl) ?_
        refine lv_iload hx hb dL_tangent_50 (lv_at hl 1 rfl) ?_
        obtain ⟨hh9, hq⟩ := q_gd hq
        refine va_iald hx hb K.1 hP 4 0 rfl rfl (vp_in_iff.mpr hh9) dL_tangent_52 ?_
        refine lv_goto (tgt := 57) hx hb dL_tangent_53 (by decide) ?_
        obtain rfl := q_rt hq
        exact ro_iret hx hb hr hk dL_tangent_57
    · have hq := q_if_f hq c7
      refine lv_iload hx hb dL_tangent_32 (lv_at hl 8 rfl) ?_
      refine lv_aload_n hx hb dL_tangent_34 rfl (lv_at hl 2 rfl) ?_
      refine lv_iload hx hb dL_tangent_35 (lv_at hl 7 rfl) ?_
      obtain ⟨hh10, hq⟩ := q_gd hq
      refine va_iald hx hb K.1 hP 0 0 rfl rfl (vp_in_iff.mpr hh10) dL_tangent_37 ?_
      refine lv_iconst (v := 1) hx hb dL_tangent_38 (by decide) ?_
      refine lv_isub hx hb dL_tangent_39 ?_
      refine lv_icmp_ne (tgt := 58) hx hb dL_tangent_40 (by decide) (fun c11 => ?_) (fun c11 => ?_)
      · have hq := q_if_f hq c11
        refine lv_aload_n hx hb dL_tangent_58 rfl (lv_at hl 4 rfl) ?_
        refine lv_iload hx hb dL_tangent_59 (lv_at hl 1 rfl) ?_
        obtain ⟨hh12, hq⟩ := q_gd hq
        refine va_iald hx hb K.1 hP 2 0 rfl rfl (vp_in_iff.mpr hh12) dL_tangent_61 ?_
        refine lv_aload_n hx hb dL_tangent_62 rfl (lv_at hl 4 rfl) ?_
        refine lv_iload hx hb dL_tangent_63 (lv_at hl 1 rfl) ?_
        refine lv_iconst (v := 1) hx hb dL_tangent_65 (by decide) ?_
        refine lv_isub hx hb dL_tangent_66 ?_
        obtain ⟨hh13, hq⟩ := q_gd hq
        refine va_iald hx hb K.1 hP 2 0 rfl rfl (vp_in_iff.mpr hh13) dL_tangent_67 ?_
        refine lv_isub hx hb dL_tangent_68 ?_
        refine lv_topi (fun x14 ex14 => ?_)
        have hq := q_let hq ex14
        refine lv_istore (lv' := [(9, .int x14), (8, .int x3), (7, .int x1), (0, .ref qn), (1, .ref qf), (2, .ref qv), (3, .ref qe), (4, .ref qw), (5, .int p6), (6, .int p7)]) hx hb dL_tangent_69 hl (by decide) rfl (fun ls hl => ?_)
        refine lv_aload_n hx hb dL_tangent_71 rfl (lv_at hl 5 rfl) ?_
        refine lv_iload hx hb dL_tangent_72 (lv_at hl 2 rfl) ?_
        refine lv_iconst (v := 1) hx hb dL_tangent_74 (by decide) ?_
        refine lv_iadd hx hb dL_tangent_75 ?_
        obtain ⟨hh15, hq⟩ := q_gd hq
        refine va_iald hx hb K.1 hP 2 0 rfl rfl (vp_in_iff.mpr hh15) dL_tangent_76 ?_
        refine lv_aload_n hx hb dL_tangent_77 rfl (lv_at hl 5 rfl) ?_
        refine lv_iload hx hb dL_tangent_78 (lv_at hl 2 rfl) ?_
        obtain ⟨hh16, hq⟩ := q_gd hq
        refine va_iald hx hb K.1 hP 2 0 rfl rfl (vp_in_iff.mpr hh16) dL_tangent_80 ?_
        refine lv_isub hx hb dL_tangent_81 ?_
        refine lv_topi (fun x17 ex17 => ?_)
        have hq := q_let hq ex17
        refine lv_istore (lv' := [(10, .int x17), (9, .int x14), (8, .int x3), (7, .int x1), (0, .ref qn), (1, .ref qf), (2, .ref qv), (3, .ref qe), (4, .ref qw), (5, .int p6), (6, .int p7)]) hx hb dL_tangent_82 hl (by decide) rfl (fun ls hl => ?_)
        refine lv_iload hx hb dL_tangent_84 (lv_at hl 1 rfl) ?_
        refine lv_if_le (tgt := 94) hx hb dL_tangent_86 (by decide) (fun c18 => ?_) (fun c18 => ?_)
        · have hq := q_if_t hq c18
          exact w_L_tangent_94 X K qn qf qv qe qw an af av ae aw x1 x3 x14 x17 hP _ hq ls (lv_sub hl [5, 3, 2, 1, 0] rfl)
        · have hq := q_if_f hq c18
          refine lv_iload hx hb dL_tangent_89 (lv_at hl 0 rfl) ?_
          refine lv_if_gt (tgt := 104) hx hb dL_tangent_91 (by decide) (fun c19 => ?_) (fun c19 => ?_)
          · have hq := q_if_t hq c19
            exact w_L_tangent_104 X K qn qf qv qe qw an af av ae aw x1 x3 x14 x17 hP _ hq ls (lv_sub hl [5, 3, 2, 1, 0] rfl)
          · have hq := q_if_f hq c19
            exact w_L_tangent_94 X K qn qf qv qe qw an af av ae aw x1 x3 x14 x17 hP _ hq ls (lv_sub hl [5, 3, 2, 1, 0] rfl)
      · have hq := q_if_t hq c11
        refine lv_iload hx hb dL_tangent_43 (lv_at hl 0 rfl) ?_
        refine lv_if_ne (tgt := 56) hx hb dL_tangent_45 (by decide) (fun c20 => ?_) (fun c20 => ?_)
        · have hq := q_if_f hq c20
          refine lv_iconst (v := 0) hx hb dL_tangent_56 (by decide) ?_
          obtain rfl := q_rt hq
          exact ro_iret hx hb hr hk dL_tangent_57
        · have hq := q_if_t hq c20
          refine lv_aload hx hb dL_tangent_48 (lv_at hl 6 rfl) ?_
          refine lv_iload hx hb dL_tangent_50 (lv_at hl 1 rfl) ?_
          obtain ⟨hh21, hq⟩ := q_gd hq
          refine va_iald hx hb K.1 hP 4 0 rfl rfl (vp_in_iff.mpr hh21) dL_tangent_52 ?_
          refine lv_goto (tgt := 57) hx hb dL_tangent_53 (by decide) ?_
          obtain rfl := q_rt hq
          exact ro_iret hx hb hr hk dL_tangent_57
theorem hd_L_tangent : ynm yL_tangent 7 := by unfold ynm; decide +kernel
def F_L_value_68 (an : Nat → Int32) (af : Nat → Int32) (av : Nat → Int32) (ae : Nat → Int32) (aw : Nat → Int32) (v1 : Int32) (v2 : Int32) (v3 : Int32) : Nat → Int32 → Option (Int32)
  | 0, _ => none
  | n + 1, v4 => vgd (ix ((v3 + v4) + 1) 16) <| if v2 < (af ((v3 + v4) + 1).toNatClampNeg) then (vgd (ix ((v3 + v4) + 1) 16) <| vgd (ix (v3 + v4) 16) <| vlet (((af ((v3 + v4) + 1).toNatClampNeg) - (af (v3 + v4).toNatClampNeg)).toInt64) fun x9 => vgd (ix (v3 + v4) 16) <| vgd (¬ x9 = 0) <| vlet (((1000 : Int64) * ((v2 - (af (v3 + v4).toNatClampNeg)).toInt64)) / x9) fun x12 => vgd (ix ((v3 + v4) + 1) 16) <| vgd (ix (v3 + v4) 16) <| vlet (((av ((v3 + v4) + 1).toNatClampNeg) - (av (v3 + v4).toNatClampNeg)).toInt64) fun x15 => vlet ((1000 : Int64) - x12) fun x16 => vgd (ix (v3 + v4) 16) <| vlet ((ae (v3 + v4).toNatClampNeg) / 100) fun x18 => if (5 : Int32) ≤ x18 then ((F_L_tangent an af av ae aw v1 v4).bind fun r20 => vlet ((x9 * (r20.toInt64)) / 1000) fun x22 => (F_L_tangent an af av ae aw v1 (v4 + 1)).bind fun r23 => vlet ((x9 * (r23.toInt64)) / 1000) fun x25 => vgd (ix (v3 + v4) 16) <| some ((av (v3 + v4).toNatClampNeg) + (((((((x15 * x12) * x12) * ((3000 : Int64) - ((2 : Int64) * x12))) + (((x22 * x12) * x16) * x16)) - (((x25 * x12) * x12) * x16)) / 1000000000).toInt32))) else (if x18 = 0 then (vgd (ix (v3 + v4) 16) <| some ((av (v3 + v4).toNatClampNeg) + ((0 : Int64).toInt32))) else (if x18 = 1 then (vlet ((x15 * x12) / 1000) fun x37 => vgd (ix (v3 + v4) 16) <| some ((av (v3 + v4).toNatClampNeg) + (x37.toInt32))) else (if x18 = 2 then (vlet (((x15 * x12) * x12) / 1000000) fun x35 => vgd (ix (v3 + v4) 16) <| some ((av (v3 + v4).toNatClampNeg) + (x35.toInt32))) else (if x18 = 3 then (vlet ((x15 * ((1000000 : Int64) - (x16 * x16))) / 1000000) fun x33 => vgd (ix (v3 + v4) 16) <| some ((av (v3 + v4).toNatClampNeg) + (x33.toInt32))) else (vlet ((((x15 * x12) * x12) * ((3000 : Int64) - ((2 : Int64) * x12))) / 1000000000) fun x31 => vgd (ix (v3 + v4) 16) <| some ((av (v3 + v4).toNatClampNeg) + (x31.toInt32)))))))) else (vlet ((v4 : Int32) + 1) fun x40 => F_L_value_68 an af av ae aw v1 v2 v3 n x40)
set_option maxHeartbeats 4000000 in
set_option maxRecDepth 100000 in
theorem w_L_value_68 {p : Program} {l : Launch} {e : Env} {s : State} {m : MethodId} {args : Array Value} {below : List Frame} {meth : Method} {c : Code} {G : va_G} {g : Nat → ClassId} (X : cx p s m args meth c cL_value 23 (some .int) RL wsL_value) (K : amb G g s) (qn qf qv qe qw : Nat) (an : Nat → Int32) (af : Nat → Int32) (av : Nat → Int32) (ae : Nat → Int32) (aw : Nat → Int32) (v1 : Int32) (v2 : Int32) (v3 : Int32) (hP : va_P G vwCl [(qn, .inl (g 0, 2, .inl an)), (qf, .inl (g 0, 16, .inl af)), (qv, .inl (g 0, 16, .inl av)), (qe, .inl (g 0, 16, .inl ae)), (qw, .inl (g 0, 16, .inl aw))] s.heap) (res : Int32) : ∀ (n : Nat) (v4 : Int32), F_L_value_68 an af av ae aw v1 v2 v3 n v4 = some res → ∀ (ls : Array Slot), lv_has ls 23 [(0, .ref qn), (1, .ref qf), (2, .ref qv), (3, .ref qe), (4, .ref qw), (5, .int v1), (6, .int v2), (7, .int v3), (9, .int v4)] → W p l e (rmF 1 31) s m args below meth c s.heap [] 0 0 (roM below (some (.int res)) args s) (F0 m 68 ls []) := by
  obtain ⟨hx, hb, hml, hr, hown, hts, hk⟩ := id X
  intro n
  induction n with
  | zero => intro v4 hq; exact q_no hq
  | succ n ih =>
    intro v4 hq ls hl
    rw [F_L_value_68] at hq
    refine lv_aload_n hx hb dL_value_68 rfl (lv_at hl 1 rfl) ?_
    refine lv_iload hx hb dL_value_69 (lv_at hl 7 rfl) ?_
    refine lv_iload hx hb dL_value_71 (lv_at hl 8 rfl) ?_
    refine lv_iadd hx hb dL_value_73 ?_
    refine lv_iconst (v := 1) hx hb dL_value_74 (by decide) ?_
    refine lv_iadd hx hb dL_value_75 ?_
    obtain ⟨hh5, hq⟩ := q_gd hq
    refine va_iald hx hb K.1 hP 1 0 rfl rfl (vp_in_iff.mpr hh5) dL_value_76 ?_
    refine lv_iload hx hb dL_value_77 (lv_at hl 6 rfl) ?_
    refine lv_icmp_gt (tgt := 88) hx hb dL_value_79 (by decide) (fun c6 => ?_) (fun c6 => ?_)
    · have hq := q_if_t hq c6
      refine lv_aload_n hx hb dL_value_88 rfl (lv_at hl 1 rfl) ?_
      refine lv_iload hx hb dL_value_89 (lv_at hl 7 rfl) ?_
      refine lv_iload hx hb dL_value_91 (lv_at hl 8 rfl) ?_
      refine lv_iadd hx hb dL_value_93 ?_
      refine lv_iconst (v := 1) hx hb dL_value_94 (by decide) ?_
      refine lv_iadd hx hb dL_value_95 ?_
      obtain ⟨hh7, hq⟩ := q_gd hq
      refine va_iald hx hb K.1 hP 1 0 rfl rfl (vp_in_iff.mpr hh7) dL_value_96 ?_
      refine lv_aload_n hx hb dL_value_97 rfl (lv_at hl 1 rfl) ?_
      refine lv_iload hx hb dL_value_98 (lv_at hl 7 rfl) ?_
      refine lv_iload hx hb dL_value_100 (lv_at hl 8 rfl) ?_
      refine lv_iadd hx hb dL_value_102 ?_
      obtain ⟨hh8, hq⟩ := q_gd hq
      refine va_iald hx hb K.1 hP 1 0 rfl rfl (vp_in_iff.mpr hh8) dL_value_103 ?_
      refine lv_isub hx hb dL_value_104 ?_
      refine lv_i2l (v := ((af ((v3 + v4) + 1).toNatClampNeg) - (af (v3 + v4).toNatClampNeg)).toInt64) hx hb dL_value_105 rfl ?_
      refine lv_topl (fun x9 ex9 => ?_)
      have hq := q_let hq ex9
      refine lv_lstore (lv' := [(10, .long x9), (0, .ref qn), (1, .ref qf), (2, .ref qv), (3, .ref qe), (4, .ref qw), (5, .int v1), (6, .int v2), (7, .int v3), (9, .int v4)]) hx hb dL_value_106 hl (by decide) rfl (fun ls hl => ?_)
      refine lv_ldc2 (v := 1000) hx hb hown (hts _ (List.mem_of_getElem? (i := 1) rfl)) dL_value_108 ?_
      refine lv_iload hx hb dL_value_111 (lv_at hl 7 rfl) ?_
      refine lv_aload_n hx hb dL_value_113 rfl (lv_at hl 2 rfl) ?_
      refine lv_iload hx hb dL_value_114 (lv_at hl 8 rfl) ?_
      refine lv_iload hx hb dL_value_116 (lv_at hl 9 rfl) ?_
      refine lv_iadd hx hb dL_value_118 ?_
      obtain ⟨hh10, hq⟩ := q_gd hq
      refine va_iald hx hb K.1 hP 1 0 rfl rfl (vp_in_iff.mpr hh10) dL_value_119 ?_
      refine lv_isub hx hb dL_value_120 ?_
      refine lv_i2l (v := (v2 - (af (v3 + v4).toNatClampNeg)).toInt64) hx hb dL_value_121 rfl ?_
      refine lv_lmul hx hb dL_value_122 ?_
      refine lv_lload hx hb dL_value_123 (lv_at hl 0 rfl) ?_
      obtain ⟨hh11, hq⟩ := q_gd hq
      refine lv_ldiv hx hb dL_value_125 hh11 ?_
      refine lv_topl (fun x12 ex12 => ?_)
      have hq := q_let hq ex12
      refine lv_lstore (lv' := [(12, .long x12), (10, .long x9), (0, .ref qn), (1, .ref qf), (2, .ref qv), (3, .ref qe), (4, .ref qw), (5, .int v1), (6, .int v2), (7, .int v3), (9, .int v4)]) hx hb dL_value_126 hl (by decide) rfl (fun ls hl => ?_)
      refine lv_aload_n hx hb dL_value_128 rfl (lv_at hl 4 rfl) ?_
      refine lv_iload hx hb dL_value_129 (lv_at hl 9 rfl) ?_
      refine lv_iload hx hb dL_value_131 (lv_at hl 10 rfl) ?_
      refine lv_iadd hx hb dL_value_133 ?_
      refine lv_iconst (v := 1) hx hb dL_value_134 (by decide) ?_
      refine lv_iadd hx hb dL_value_135 ?_
      obtain ⟨hh13, hq⟩ := q_gd hq
      refine va_iald hx hb K.1 hP 2 0 rfl rfl (vp_in_iff.mpr hh13) dL_value_136 ?_
      refine lv_aload_n hx hb dL_value_137 rfl (lv_at hl 4 rfl) ?_
      refine lv_iload hx hb dL_value_138 (lv_at hl 9 rfl) ?_
      refine lv_iload hx hb dL_value_140 (lv_at hl 10 rfl) ?_
      refine lv_iadd hx hb dL_value_142 ?_
      obtain ⟨hh14, hq⟩ := q_gd hq
      refine va_iald hx hb K.1 hP 2 0 rfl rfl (vp_in_iff.mpr hh14) dL_value_143 ?_
      refine lv_isub hx hb dL_value_144 ?_
      refine lv_i2l (v := ((av ((v3 + v4) + 1).toNatClampNeg) - (av (v3 + v4).toNatClampNeg)).toInt64) hx hb dL_value_145 rfl ?_
      refine lv_topl (fun x15 ex15 => ?_)
      have hq := q_let hq ex15
      refine lv_lstore (lv' := [(14, .long x15), (12, .long x12), (10, .long x9), (0, .ref qn), (1, .ref qf), (2, .ref qv), (3, .ref qe), (4, .ref qw), (5, .int v1), (6, .int v2), (7, .int v3), (9, .int v4)]) hx hb dL_value_146 hl (by decide) rfl (fun ls hl => ?_)
      refine lv_ldc2 (v := 1000) hx hb hown (hts _ (List.mem_of_getElem? (i := 1) rfl)) dL_value_148 ?_
      refine lv_lload hx hb dL_value_151 (lv_at hl 1 rfl) ?_
      refine lv_lsub hx hb dL_value_153 ?_
      refine lv_topl (fun x16 ex16 => ?_)
      have hq := q_let hq ex16
      refine lv_lstore (lv' := [(16, .long x16), (14, .long x15), (12, .long x12), (10, .long x9), (0, .ref qn), (1, .ref qf), (2, .ref qv), (3, .ref qe), (4, .ref qw), (5, .int v1), (6, .int v2), (7, .int v3), (9, .int v4)]) hx hb dL_value_154 hl (by decide) rfl (fun ls hl => ?_)
      refine lv_aload_n hx hb dL_value_156 rfl (lv_at hl 7 rfl) ?_
      refine lv_iload hx hb dL_value_157 (lv_at hl 11 rfl) ?_
      refine lv_iload hx hb dL_value_159 (lv_at hl 12 rfl) ?_
      refine lv_iadd hx hb dL_value_161 ?_
      obtain ⟨hh17, hq⟩ := q_gd hq
      refine va_iald hx hb K.1 hP 3 0 rfl rfl (vp_in_iff.mpr hh17) dL_value_162 ?_
      refine lv_bipush (v := 100) hx hb dL_value_163 (by decide) ?_
      refine lv_idiv hx hb dL_value_165 (by decide) ?_
      refine lv_topi (fun x18 ex18 => ?_)
      have hq := q_let hq ex18
      refine lv_istore (lv' := [(18, .int x18), (16, .long x16), (14, .long x15), (12, .long x12), (10, .long x9), (0, .ref qn), (1, .ref qf), (2, .ref qv), (3, .ref qe), (4, .ref qw), (5, .int v1), (6, .int v2), (7, .int v3), (9, .int v4)]) hx hb dL_value_166 hl (by decide) rfl (fun ls hl => ?_)
      refine lv_iload hx hb dL_value_168 (lv_at hl 0 rfl) ?_
      refine lv_iconst (v := 5) hx hb dL_value_170 (by decide) ?_
      refine lv_icmp_ge (tgt := 284) hx hb dL_value_171 (by decide) (fun c19 => ?_) (fun c19 => ?_)
      · have hq := q_if_t hq c19
        refine lv_lload hx hb dL_value_284 (lv_at hl 4 rfl) ?_
        refine lv_aload_n hx hb dL_value_286 rfl (lv_at hl 5 rfl) ?_
        refine lv_aload_n hx hb dL_value_287 rfl (lv_at hl 6 rfl) ?_
        refine lv_aload_n hx hb dL_value_288 rfl (lv_at hl 7 rfl) ?_
        refine lv_aload_n hx hb dL_value_289 rfl (lv_at hl 8 rfl) ?_
        refine lv_aload hx hb dL_value_290 (lv_at hl 9 rfl) ?_
        refine lv_iload hx hb dL_value_292 (lv_at hl 10 rfl) ?_
        refine lv_iload hx hb dL_value_294 (lv_at hl 13 rfl) ?_
        obtain ⟨r20, hh21, hq⟩ := q_bd hq
        refine roS (As := [.ref qn, .ref qf, .ref qv, .ref qe, .ref qw, .int v1, .int v4]) (rest := [.long x9]) X K (k_L_tangent l G g qn qf qv qe qw an af av ae aw v1 v4 _ hh21) hd_L_tangent gL_value_L_tangent hP hl.1 dL_value_296 rfl rfl ⟨Nat.le_of_ble_eq_true rfl, Nat.le_of_ble_eq_true rfl⟩ rfl (Nat.le_of_ble_eq_true rfl) ⟨Nat.zero_le _, Nat.zero_le _⟩ ?_
        refine lv_i2l (v := r20.toInt64) hx hb dL_value_299 rfl ?_
        refine lv_lmul hx hb dL_value_300 ?_
        refine lv_ldc2 (v := 1000) hx hb hown (hts _ (List.mem_of_getElem? (i := 1) rfl)) dL_value_301 ?_
        refine lv_ldiv hx hb dL_value_304 (by decide) ?_
        refine lv_topl (fun x22 ex22 => ?_)
        have hq := q_let hq ex22
        refine lv_lstore (lv' := [(19, .long x22), (18, .int x18), (16, .long x16), (14, .long x15), (12, .long x12), (10, .long x9), (0, .ref qn), (1, .ref qf), (2, .ref qv), (3, .ref qe), (4, .ref qw), (5, .int v1), (6, .int v2), (7, .int v3), (9, .int v4)]) hx hb dL_value_305 hl (by decide) rfl (fun ls hl => ?_)
        refine lv_lload hx hb dL_value_307 (lv_at hl 5 rfl) ?_
        refine lv_aload_n hx hb dL_value_309 rfl (lv_at hl 6 rfl) ?_
        refine lv_aload_n hx hb dL_value_310 rfl (lv_at hl 7 rfl) ?_
        refine lv_aload_n hx hb dL_value_311 rfl (lv_at hl 8 rfl) ?_
        refine lv_aload_n hx hb dL_value_312 rfl (lv_at hl 9 rfl) ?_
        refine lv_aload hx hb dL_value_313 (lv_at hl 10 rfl) ?_
        refine lv_iload hx hb dL_value_315 (lv_at hl 11 rfl) ?_
        refine lv_iload hx hb dL_value_317 (lv_at hl 14 rfl) ?_
        refine lv_iconst (v := 1) hx hb dL_value_319 (by decide) ?_
        refine lv_iadd hx hb dL_value_320 ?_
        obtain ⟨r23, hh24, hq⟩ := q_bd hq
        refine roS (As := [.ref qn, .ref qf, .ref qv, .ref qe, .ref qw, .int v1, .int (v4 + 1)]) (rest := [.long x9]) X K (k_L_tangent l G g qn qf qv qe qw an af av ae aw v1 (v4 + 1) _ hh24) hd_L_tangent gL_value_L_tangent hP hl.1 dL_value_321 rfl rfl ⟨Nat.le_of_ble_eq_true rfl, Nat.le_of_ble_eq_true rfl⟩ rfl (Nat.le_of_ble_eq_true rfl) ⟨Nat.zero_le _, Nat.zero_le _⟩ ?_
        refine lv_i2l (v := r23.toInt64) hx hb dL_value_324 rfl ?_
        refine lv_lmul hx hb dL_value_325 ?_
        refine lv_ldc2 (v := 1000) hx hb hown (hts _ (List.mem_of_getElem? (i := 1) rfl)) dL_value_326 ?_
        refine lv_ldiv hx hb dL_value_329 (by decide) ?_
        refine lv_topl (fun x25 ex25 => ?_)
        have hq := q_let hq ex25
        refine lv_lstore (lv' := [(21, .long x25), (19, .long x22), (18, .int x18), (16, .long x16), (14, .long x15), (12, .long x12), (10, .long x9), (0, .ref qn), (1, .ref qf), (2, .ref qv), (3, .ref qe), (4, .ref qw), (5, .int v1), (6, .int v2), (7, .int v3), (9, .int v4)]) hx hb dL_value_330 hl (by decide) rfl (fun ls hl => ?_)
        refine lv_aload_n hx hb dL_value_332 rfl (lv_at hl 9 rfl) ?_
        refine lv_iload hx hb dL_value_333 (lv_at hl 14 rfl) ?_
        refine lv_iload hx hb dL_value_335 (lv_at hl 15 rfl) ?_
        refine lv_iadd hx hb dL_value_337 ?_
        obtain ⟨hh26, hq⟩ := q_gd hq
        refine va_iald hx hb K.1 hP 2 0 rfl rfl (vp_in_iff.mpr hh26) dL_value_338 ?_
        refine lv_lload hx hb dL_value_339 (lv_at hl 4 rfl) ?_
        refine lv_lload hx hb dL_value_341 (lv_at hl 5 rfl) ?_
        refine lv_lmul hx hb dL_value_343 ?_
        refine lv_lload hx hb dL_value_344 (lv_at hl 5 rfl) ?_
        refine lv_lmul hx hb dL_value_346 ?_
        refine lv_ldc2 (v := 3000) hx hb hown (hts _ (List.mem_of_getElem? (i := 3) rfl)) dL_value_347 ?_
        refine lv_ldc2 (v := 2) hx hb hown (hts _ (List.mem_of_getElem? (i := 4) rfl)) dL_value_350 ?_
        refine lv_lload hx hb dL_value_353 (lv_at hl 5 rfl) ?_
        refine lv_lmul hx hb dL_value_355 ?_
        refine lv_lsub hx hb dL_value_356 ?_
        refine lv_lmul hx hb dL_value_357 ?_
        refine lv_lload hx hb dL_value_358 (lv_at hl 1 rfl) ?_
        refine lv_lload hx hb dL_value_360 (lv_at hl 5 rfl) ?_
        refine lv_lmul hx hb dL_value_362 ?_
        refine lv_lload hx hb dL_value_363 (lv_at hl 3 rfl) ?_
        refine lv_lmul hx hb dL_value_365 ?_
        refine lv_lload hx hb dL_value_366 (lv_at hl 3 rfl) ?_
        refine lv_lmul hx hb dL_value_368 ?_
        refine lv_ladd hx hb dL_value_369 ?_
        refine lv_lload hx hb dL_value_370 (lv_at hl 0 rfl) ?_
        refine lv_lload hx hb dL_value_372 (lv_at hl 5 rfl) ?_
        refine lv_lmul hx hb dL_value_374 ?_
        refine lv_lload hx hb dL_value_375 (lv_at hl 5 rfl) ?_
        refine lv_lmul hx hb dL_value_377 ?_
        refine lv_lload hx hb dL_value_378 (lv_at hl 3 rfl) ?_
        refine lv_lmul hx hb dL_value_380 ?_
        refine lv_lsub hx hb dL_value_381 ?_
        refine lv_ldc2 (v := 1000000000) hx hb hown (hts _ (List.mem_of_getElem? (i := 5) rfl)) dL_value_382 ?_
        refine lv_ldiv hx hb dL_value_385 (by decide) ?_
        refine lv_l2i (v := ((((((x15 * x12) * x12) * ((3000 : Int64) - ((2 : Int64) * x12))) + (((x22 * x12) * x16) * x16)) - (((x25 * x12) * x12) * x16)) / 1000000000).toInt32) hx hb dL_value_386 rfl ?_
        refine lv_iadd hx hb dL_value_387 ?_
        obtain rfl := q_rt hq
        exact ro_iret hx hb hr hk dL_value_388
      · have hq := q_if_f hq c19
        refine lv_iload hx hb dL_value_174 (lv_at hl 0 rfl) ?_
        refine lv_if_ne (tgt := 183) hx hb dL_value_176 (by decide) (fun c27 => ?_) (fun c27 => ?_)
        · have hq := q_if_f hq c27
          refine lv_iload hx hb dL_value_183 (lv_at hl 0 rfl) ?_
          refine lv_iconst (v := 1) hx hb dL_value_185 (by decide) ?_
          refine lv_icmp_ne (tgt := 201) hx hb dL_value_186 (by decide) (fun c28 => ?_) (fun c28 => ?_)
          · have hq := q_if_f hq c28
            refine lv_iload hx hb dL_value_201 (lv_at hl 0 rfl) ?_
            refine lv_iconst (v := 2) hx hb dL_value_203 (by decide) ?_
            refine lv_icmp_ne (tgt := 222) hx hb dL_value_204 (by decide) (fun c29 => ?_) (fun c29 => ?_)
            · have hq := q_if_f hq c29
              refine lv_iload hx hb dL_value_222 (lv_at hl 0 rfl) ?_
              refine lv_iconst (v := 3) hx hb dL_value_224 (by decide) ?_
              refine lv_icmp_ne (tgt := 247) hx hb dL_value_225 (by decide) (fun c30 => ?_) (fun c30 => ?_)
              · have hq := q_if_f hq c30
                refine lv_lload hx hb dL_value_247 (lv_at hl 2 rfl) ?_
                refine lv_lload hx hb dL_value_249 (lv_at hl 3 rfl) ?_
                refine lv_lmul hx hb dL_value_251 ?_
                refine lv_lload hx hb dL_value_252 (lv_at hl 3 rfl) ?_
                refine lv_lmul hx hb dL_value_254 ?_
                refine lv_ldc2 (v := 3000) hx hb hown (hts _ (List.mem_of_getElem? (i := 3) rfl)) dL_value_255 ?_
                refine lv_ldc2 (v := 2) hx hb hown (hts _ (List.mem_of_getElem? (i := 4) rfl)) dL_value_258 ?_
                refine lv_lload hx hb dL_value_261 (lv_at hl 3 rfl) ?_
                refine lv_lmul hx hb dL_value_263 ?_
                refine lv_lsub hx hb dL_value_264 ?_
                refine lv_lmul hx hb dL_value_265 ?_
                refine lv_ldc2 (v := 1000000000) hx hb hown (hts _ (List.mem_of_getElem? (i := 5) rfl)) dL_value_266 ?_
                refine lv_ldiv hx hb dL_value_269 (by decide) ?_
                refine lv_topl (fun x31 ex31 => ?_)
                have hq := q_let hq ex31
                refine lv_lstore (lv' := [(19, .long x31), (18, .int x18), (16, .long x16), (14, .long x15), (12, .long x12), (10, .long x9), (0, .ref qn), (1, .ref qf), (2, .ref qv), (3, .ref qe), (4, .ref qw), (5, .int v1), (6, .int v2), (7, .int v3), (9, .int v4)]) hx hb dL_value_270 hl (by decide) rfl (fun ls hl => ?_)
                refine lv_aload_n hx hb dL_value_272 rfl (lv_at hl 8 rfl) ?_
                refine lv_iload hx hb dL_value_273 (lv_at hl 13 rfl) ?_
                refine lv_iload hx hb dL_value_275 (lv_at hl 14 rfl) ?_
                refine lv_iadd hx hb dL_value_277 ?_
                obtain ⟨hh32, hq⟩ := q_gd hq
                refine va_iald hx hb K.1 hP 2 0 rfl rfl (vp_in_iff.mpr hh32) dL_value_278 ?_
                refine lv_lload hx hb dL_value_279 (lv_at hl 0 rfl) ?_
                refine lv_l2i (v := x31.toInt32) hx hb dL_value_281 rfl ?_
                refine lv_iadd hx hb dL_value_282 ?_
                obtain rfl := q_rt hq
                exact ro_iret hx hb hr hk dL_value_283
              · have hq := q_if_t hq c30
                refine lv_lload hx hb dL_value_228 (lv_at hl 2 rfl) ?_
                refine lv_ldc2 (v := 1000000) hx hb hown (hts _ (List.mem_of_getElem? (i := 2) rfl)) dL_value_230 ?_
                refine lv_lload hx hb dL_value_233 (lv_at hl 1 rfl) ?_
                refine lv_lload hx hb dL_value_235 (lv_at hl 1 rfl) ?_
                refine lv_lmul hx hb dL_value_237 ?_
                refine lv_lsub hx hb dL_value_238 ?_
                refine lv_lmul hx hb dL_value_239 ?_
                refine lv_ldc2 (v := 1000000) hx hb hown (hts _ (List.mem_of_getElem? (i := 2) rfl)) dL_value_240 ?_
                refine lv_ldiv hx hb dL_value_243 (by decide) ?_
                refine lv_goto (tgt := 270) hx hb dL_value_244 (by decide) ?_
                refine lv_topl (fun x33 ex33 => ?_)
                have hq := q_let hq ex33
                refine lv_lstore (lv' := [(19, .long x33), (18, .int x18), (16, .long x16), (14, .long x15), (12, .long x12), (10, .long x9), (0, .ref qn), (1, .ref qf), (2, .ref qv), (3, .ref qe), (4, .ref qw), (5, .int v1), (6, .int v2), (7, .int v3), (9, .int v4)]) hx hb dL_value_270 hl (by decide) rfl (fun ls hl => ?_)
                refine lv_aload_n hx hb dL_value_272 rfl (lv_at hl 8 rfl) ?_
                refine lv_iload hx hb dL_value_273 (lv_at hl 13 rfl) ?_
                refine lv_iload hx hb dL_value_275 (lv_at hl 14 rfl) ?_
                refine lv_iadd hx hb dL_value_277 ?_
                obtain ⟨hh34, hq⟩ := q_gd hq
                refine va_iald hx hb K.1 hP 2 0 rfl rfl (vp_in_iff.mpr hh34) dL_value_278 ?_
                refine lv_lload hx hb dL_value_279 (lv_at hl 0 rfl) ?_
                refine lv_l2i (v := x33.toInt32) hx hb dL_value_281 rfl ?_
                refine lv_iadd hx hb dL_value_282 ?_
                obtain rfl := q_rt hq
                exact ro_iret hx hb hr hk dL_value_283
            · have hq := q_if_t hq c29
              refine lv_lload hx hb dL_value_207 (lv_at hl 2 rfl) ?_
              refine lv_lload hx hb dL_value_209 (lv_at hl 3 rfl) ?_
              refine lv_lmul hx hb dL_value_211 ?_
              refine lv_lload hx hb dL_value_212 (lv_at hl 3 rfl) ?_
              refine lv_lmul hx hb dL_value_214 ?_
              refine lv_ldc2 (v := 1000000) hx hb hown (hts _ (List.mem_of_getElem? (i := 2) rfl)) dL_value_215 ?_
              refine lv_ldiv hx hb dL_value_218 (by decide) ?_
              refine lv_goto (tgt := 270) hx hb dL_value_219 (by decide) ?_
              refine lv_topl (fun x35 ex35 => ?_)
              have hq := q_let hq ex35
              refine lv_lstore (lv' := [(19, .long x35), (18, .int x18), (16, .long x16), (14, .long x15), (12, .long x12), (10, .long x9), (0, .ref qn), (1, .ref qf), (2, .ref qv), (3, .ref qe), (4, .ref qw), (5, .int v1), (6, .int v2), (7, .int v3), (9, .int v4)]) hx hb dL_value_270 hl (by decide) rfl (fun ls hl => ?_)
              refine lv_aload_n hx hb dL_value_272 rfl (lv_at hl 8 rfl) ?_
              refine lv_iload hx hb dL_value_273 (lv_at hl 13 rfl) ?_
              refine lv_iload hx hb dL_value_275 (lv_at hl 14 rfl) ?_
              refine lv_iadd hx hb dL_value_277 ?_
              obtain ⟨hh36, hq⟩ := q_gd hq
              refine va_iald hx hb K.1 hP 2 0 rfl rfl (vp_in_iff.mpr hh36) dL_value_278 ?_
              refine lv_lload hx hb dL_value_279 (lv_at hl 0 rfl) ?_
              refine lv_l2i (v := x35.toInt32) hx hb dL_value_281 rfl ?_
              refine lv_iadd hx hb dL_value_282 ?_
              obtain rfl := q_rt hq
              exact ro_iret hx hb hr hk dL_value_283
          · have hq := q_if_t hq c28
            refine lv_lload hx hb dL_value_189 (lv_at hl 2 rfl) ?_
            refine lv_lload hx hb dL_value_191 (lv_at hl 3 rfl) ?_
            refine lv_lmul hx hb dL_value_193 ?_
            refine lv_ldc2 (v := 1000) hx hb hown (hts _ (List.mem_of_getElem? (i := 1) rfl)) dL_value_194 ?_
            refine lv_ldiv hx hb dL_value_197 (by decide) ?_
            refine lv_goto (tgt := 270) hx hb dL_value_198 (by decide) ?_
            refine lv_topl (fun x37 ex37 => ?_)
            have hq := q_let hq ex37
            refine lv_lstore (lv' := [(19, .long x37), (18, .int x18), (16, .long x16), (14, .long x15), (12, .long x12), (10, .long x9), (0, .ref qn), (1, .ref qf), (2, .ref qv), (3, .ref qe), (4, .ref qw), (5, .int v1), (6, .int v2), (7, .int v3), (9, .int v4)]) hx hb dL_value_270 hl (by decide) rfl (fun ls hl => ?_)
            refine lv_aload_n hx hb dL_value_272 rfl (lv_at hl 8 rfl) ?_
            refine lv_iload hx hb dL_value_273 (lv_at hl 13 rfl) ?_
            refine lv_iload hx hb dL_value_275 (lv_at hl 14 rfl) ?_
            refine lv_iadd hx hb dL_value_277 ?_
            obtain ⟨hh38, hq⟩ := q_gd hq
            refine va_iald hx hb K.1 hP 2 0 rfl rfl (vp_in_iff.mpr hh38) dL_value_278 ?_
            refine lv_lload hx hb dL_value_279 (lv_at hl 0 rfl) ?_
            refine lv_l2i (v := x37.toInt32) hx hb dL_value_281 rfl ?_
            refine lv_iadd hx hb dL_value_282 ?_
            obtain rfl := q_rt hq
            exact ro_iret hx hb hr hk dL_value_283
        · have hq := q_if_t hq c27
          refine lv_lconst (v := 0) hx hb dL_value_179 (by decide) ?_
          refine lv_goto (tgt := 270) hx hb dL_value_180 (by decide) ?_
          refine lv_lstore (lv' := [(19, .long 0), (18, .int x18), (16, .long x16), (14, .long x15), (12, .long x12), (10, .long x9), (0, .ref qn), (1, .ref qf), (2, .ref qv), (3, .ref qe), (4, .ref qw), (5, .int v1), (6, .int v2), (7, .int v3), (9, .int v4)]) hx hb dL_value_270 hl (by decide) rfl (fun ls hl => ?_)
          refine lv_aload_n hx hb dL_value_272 rfl (lv_at hl 8 rfl) ?_
          refine lv_iload hx hb dL_value_273 (lv_at hl 13 rfl) ?_
          refine lv_iload hx hb dL_value_275 (lv_at hl 14 rfl) ?_
          refine lv_iadd hx hb dL_value_277 ?_
          obtain ⟨hh39, hq⟩ := q_gd hq
          refine va_iald hx hb K.1 hP 2 0 rfl rfl (vp_in_iff.mpr hh39) dL_value_278 ?_
          refine lv_lload hx hb dL_value_279 (lv_at hl 0 rfl) ?_
          refine lv_l2i (v := (0 : Int64).toInt32) hx hb dL_value_281 rfl ?_
          refine lv_iadd hx hb dL_value_282 ?_
          obtain rfl := q_rt hq
          exact ro_iret hx hb hr hk dL_value_283
    · have hq := q_if_f hq c6
      obtain ⟨x40, ex40⟩ : ∃ y : Int32, y = (v4 : Int32) + 1 := ⟨_, rfl⟩
      have hq := q_let hq ex40
      refine lv_iinc (v := x40) (lv' := [(9, .int x40), (0, .ref qn), (1, .ref qf), (2, .ref qv), (3, .ref qe), (4, .ref qw), (5, .int v1), (6, .int v2), (7, .int v3)]) hx hb dL_value_82 hl (k := 8) rfl (by rw [ex40]; rfl) (by decide) rfl (fun ls hl => ?_)
      refine lv_goto (tgt := 68) hx hb dL_value_85 (by decide) ?_
      exact ih x40 hq ls (lv_sub hl [1, 2, 3, 4, 5, 6, 7, 8, 0] rfl)
def F_L_value (an : Nat → Int32) (af : Nat → Int32) (av : Nat → Int32) (ae : Nat → Int32) (aw : Nat → Int32) (p6 : Int32) (p7 : Int32) : Option (Int32) := vlet ((8 : Int32) * p6) fun x1 => vgd (ix (p6) 2) <| vlet (an p6.toNatClampNeg) fun x3 => if x3 = 0 then (if x3 = 0 then (some (0)) else (vgd (ix (x1) 16) <| some (av x1.toNatClampNeg))) else (vgd (ix (x1) 16) <| if (af x1.toNatClampNeg) < p7 then (vgd (ix ((x1 + x3) - 1) 16) <| if p7 < (af ((x1 + x3) - 1).toNatClampNeg) then (F_L_value_68 an af av ae aw p6 p7 x1 2000 0) else (vgd (ix ((x1 + x3) - 1) 16) <| some (av ((x1 + x3) - 1).toNatClampNeg))) else (if x3 = 0 then (some (0)) else (vgd (ix (x1) 16) <| some (av x1.toNatClampNeg))))
set_option maxHeartbeats 4000000 in
set_option maxRecDepth 100000 in
theorem k_L_value (l : Launch) (G : va_G) (g : Nat → ClassId) (qn qf qv qe qw : Nat) (an : Nat → Int32) (af : Nat → Int32) (av : Nat → Int32) (ae : Nat → Int32) (aw : Nat → Int32) (p6 : Int32) (p7 : Int32) (res : Int32) (hq : F_L_value an af av ae aw p6 p7 = some res) : roC l yL_value wsL_value (rmF 1 31) G g [.ref qn, .ref qf, .ref qv, .ref qe, .ref qw, .int p6, .int p7] [(qn, .inl (g 0, 2, .inl an)), (qf, .inl (g 0, 16, .inl af)), (qv, .inl (g 0, 16, .inl av)), (qe, .inl (g 0, 16, .inl ae)), (qw, .inl (g 0, 16, .inl aw))] (some (.int res)) := by
  refine roC.of (cc := cL_value) (maxL := 23) (ret := (some .int)) (by decide) rfl (Nat.le_of_ble_eq_true rfl) ?_
  intro p e s m below meth c ls X K hP hl
  obtain ⟨hx, hb, hml, hr, hown, hts, hk⟩ := id X
  have hl : lv_has ls 23 [(0, .ref qn), (1, .ref qf), (2, .ref qv), (3, .ref qe), (4, .ref qw), (5, .int p6), (6, .int p7)] := hl
  unfold F_L_value at hq
  refine lv_bipush (v := 8) hx hb dL_value_0 (by decide) ?_
  refine lv_iload hx hb dL_value_2 (lv_at hl 5 rfl) ?_
  refine lv_imul hx hb dL_value_4 ?_
  refine lv_topi (fun x1 ex1 => ?_)
  have hq := q_let hq ex1
  refine lv_istore (lv' := [(7, .int x1), (0, .ref qn), (1, .ref qf), (2, .ref qv), (3, .ref qe), (4, .ref qw), (5, .int p6), (6, .int p7)]) hx hb dL_value_5 hl (by decide) rfl (fun ls hl => ?_)
  refine lv_aload_n hx hb dL_value_7 rfl (lv_at hl 1 rfl) ?_
  refine lv_iload hx hb dL_value_8 (lv_at hl 6 rfl) ?_
  obtain ⟨hh2, hq⟩ := q_gd hq
  refine va_iald hx hb K.1 hP 0 0 rfl rfl (vp_in_iff.mpr hh2) dL_value_10 ?_
  refine lv_topi (fun x3 ex3 => ?_)
  have hq := q_let hq ex3
  refine lv_istore (lv' := [(8, .int x3), (7, .int x1), (0, .ref qn), (1, .ref qf), (2, .ref qv), (3, .ref qe), (4, .ref qw), (5, .int p6), (6, .int p7)]) hx hb dL_value_11 hl (by decide) rfl (fun ls hl => ?_)
  refine lv_iload hx hb dL_value_13 (lv_at hl 0 rfl) ?_
  refine lv_if_eq (tgt := 27) hx hb dL_value_15 (by decide) (fun c4 => ?_) (fun c4 => ?_)
  · have hq := q_if_t hq c4
    refine lv_iload hx hb dL_value_27 (lv_at hl 0 rfl) ?_
    refine lv_if_ne (tgt := 36) hx hb dL_value_29 (by decide) (fun c5 => ?_) (fun c5 => ?_)
    · have hq := q_if_f hq c5
      refine lv_aload_n hx hb dL_value_36 rfl (lv_at hl 4 rfl) ?_
      refine lv_iload hx hb dL_value_37 (lv_at hl 1 rfl) ?_
      obtain ⟨hh6, hq⟩ := q_gd hq
      refine va_iald hx hb K.1 hP 2 0 rfl rfl (vp_in_iff.mpr hh6) dL_value_39 ?_
      obtain rfl := q_rt hq
      exact ro_iret hx hb hr hk dL_value_40
    · have hq := q_if_t hq c5
      refine lv_iconst (v := 0) hx hb dL_value_32 (by decide) ?_
      refine lv_goto (tgt := 40) hx hb dL_value_33 (by decide) ?_
      obtain rfl := q_rt hq
      exact ro_iret hx hb hr hk dL_value_40
  · have hq := q_if_f hq c4
    refine lv_iload hx hb dL_value_18 (lv_at hl 8 rfl) ?_
    refine lv_aload_n hx hb dL_value_20 rfl (lv_at hl 3 rfl) ?_
    refine lv_iload hx hb dL_value_21 (lv_at hl 1 rfl) ?_
    obtain ⟨hh7, hq⟩ := q_gd hq
    refine va_iald hx hb K.1 hP 1 0 rfl rfl (vp_in_iff.mpr hh7) dL_value_23 ?_
    refine lv_icmp_gt (tgt := 41) hx hb dL_value_24 (by decide) (fun c8 => ?_) (fun c8 => ?_)
    · have hq := q_if_t hq c8
      refine lv_iload hx hb dL_value_41 (lv_at hl 8 rfl) ?_
      refine lv_aload_n hx hb dL_value_43 rfl (lv_at hl 3 rfl) ?_
      refine lv_iload hx hb dL_value_44 (lv_at hl 1 rfl) ?_
      refine lv_iload hx hb dL_value_46 (lv_at hl 0 rfl) ?_
      refine lv_iadd hx hb dL_value_48 ?_
      refine lv_iconst (v := 1) hx hb dL_value_49 (by decide) ?_
      refine lv_isub hx hb dL_value_50 ?_
      obtain ⟨hh9, hq⟩ := q_gd hq
      refine va_iald hx hb K.1 hP 1 0 rfl rfl (vp_in_iff.mpr hh9) dL_value_51 ?_
      refine lv_icmp_lt (tgt := 65) hx hb dL_value_52 (by decide) (fun c10 => ?_) (fun c10 => ?_)
      · have hq := q_if_t hq c10
        refine lv_iconst (v := 0) hx hb dL_value_65 (by decide) ?_
        refine lv_istore (lv' := [(9, .int 0), (8, .int x3), (7, .int x1), (0, .ref qn), (1, .ref qf), (2, .ref qv), (3, .ref qe), (4, .ref qw), (5, .int p6), (6, .int p7)]) hx hb dL_value_66 hl (by decide) rfl (fun ls hl => ?_)
        exact w_L_value_68 X K qn qf qv qe qw an af av ae aw p6 p7 x1 hP _ 2000 0 hq ls (lv_sub hl [3, 4, 5, 6, 7, 8, 9, 2, 0] rfl)
      · have hq := q_if_f hq c10
        refine lv_aload_n hx hb dL_value_55 rfl (lv_at hl 4 rfl) ?_
        refine lv_iload hx hb dL_value_56 (lv_at hl 1 rfl) ?_
        refine lv_iload hx hb dL_value_58 (lv_at hl 0 rfl) ?_
        refine lv_iadd hx hb dL_value_60 ?_
        refine lv_iconst (v := 1) hx hb dL_value_61 (by decide) ?_
        refine lv_isub hx hb dL_value_62 ?_
        obtain ⟨hh11, hq⟩ := q_gd hq
        refine va_iald hx hb K.1 hP 2 0 rfl rfl (vp_in_iff.mpr hh11) dL_value_63 ?_
        obtain rfl := q_rt hq
        exact ro_iret hx hb hr hk dL_value_64
    · have hq := q_if_f hq c8
      refine lv_iload hx hb dL_value_27 (lv_at hl 0 rfl) ?_
      refine lv_if_ne (tgt := 36) hx hb dL_value_29 (by decide) (fun c12 => ?_) (fun c12 => ?_)
      · have hq := q_if_f hq c12
        refine lv_aload_n hx hb dL_value_36 rfl (lv_at hl 4 rfl) ?_
        refine lv_iload hx hb dL_value_37 (lv_at hl 1 rfl) ?_
        obtain ⟨hh13, hq⟩ := q_gd hq
        refine va_iald hx hb K.1 hP 2 0 rfl rfl (vp_in_iff.mpr hh13) dL_value_39 ?_
        obtain rfl := q_rt hq
        exact ro_iret hx hb hr hk dL_value_40
      · have hq := q_if_t hq c12
        refine lv_iconst (v := 0) hx hb dL_value_32 (by decide) ?_
        refine lv_goto (tgt := 40) hx hb dL_value_33 (by decide) ?_
        obtain rfl := q_rt hq
        exact ro_iret hx hb hr hk dL_value_40
theorem hd_L_swap : ynm yL_swap 3 := by unfold ynm; decide +kernel
def F_L_sinks_4 (an : Nat → Int32) (v1 : Int32) : Nat → (Nat → Int32) → (Nat → Int32) → (Nat → Int32) → (Nat → Int32) → Int32 → Option (Int32 × (Nat → Int32) × (Nat → Int32) × (Nat → Int32) × (Nat → Int32))
  | 0, _, _, _, _, _ => none
  | n + 1, af, av, ae, aw, v2 => if v2 ≤ 0 then (vgd (ix (v1) 2) <| if (an v1.toNatClampNeg) ≤ (v2 + 1) then (some (v2, af, av, ae, aw)) else (vgd (ix ((((8 : Int32) * v1) + v2) + 1) 16) <| vgd (ix (((8 : Int32) * v1) + v2) 16) <| if (af (((8 : Int32) * v1) + v2).toNatClampNeg) ≤ (af ((((8 : Int32) * v1) + v2) + 1).toNatClampNeg) then (some (v2, af, av, ae, aw)) else (if v2 ≤ 0 then (vlet (v2 + 1) fun x10 => (F_L_swap af (((8 : Int32) * v1) + v2) (((8 : Int32) * v1) + x10)).bind fun y11 => (F_L_swap av (((8 : Int32) * v1) + v2) (((8 : Int32) * v1) + x10)).bind fun y13 => (F_L_swap ae (((8 : Int32) * v1) + v2) (((8 : Int32) * v1) + x10)).bind fun y15 => (F_L_swap aw (((8 : Int32) * v1) + v2) (((8 : Int32) * v1) + x10)).bind fun y17 => F_L_sinks_4 an v1 n y11 y13 y15 y17 x10) else (vgd (ix ((((8 : Int32) * v1) + v2) - 1) 16) <| vgd (ix (((8 : Int32) * v1) + v2) 16) <| if (af ((((8 : Int32) * v1) + v2) - 1).toNatClampNeg) ≤ (af (((8 : Int32) * v1) + v2).toNatClampNeg) then (vlet (v2 + 1) fun x22 => (F_L_swap af (((8 : Int32) * v1) + v2) (((8 : Int32) * v1) + x22)).bind fun y23 => (F_L_swap av (((8 : Int32) * v1) + v2) (((8 : Int32) * v1) + x22)).bind fun y25 => (F_L_swap ae (((8 : Int32) * v1) + v2) (((8 : Int32) * v1) + x22)).bind fun y27 => (F_L_swap aw (((8 : Int32) * v1) + v2) (((8 : Int32) * v1) + x22)).bind fun y29 => F_L_sinks_4 an v1 n y23 y25 y27 y29 x22) else (vlet (v2 - 1) fun x31 => (F_L_swap af (((8 : Int32) * v1) + v2) (((8 : Int32) * v1) + x31)).bind fun y32 => (F_L_swap av (((8 : Int32) * v1) + v2) (((8 : Int32) * v1) + x31)).bind fun y34 => (F_L_swap ae (((8 : Int32) * v1) + v2) (((8 : Int32) * v1) + x31)).bind fun y36 => (F_L_swap aw (((8 : Int32) * v1) + v2) (((8 : Int32) * v1) + x31)).bind fun y38 => F_L_sinks_4 an v1 n y32 y34 y36 y38 x31))))) else (vgd (ix ((((8 : Int32) * v1) + v2) - 1) 16) <| vgd (ix (((8 : Int32) * v1) + v2) 16) <| if (af (((8 : Int32) * v1) + v2).toNatClampNeg) < (af ((((8 : Int32) * v1) + v2) - 1).toNatClampNeg) then (if v2 ≤ 0 then (vlet (v2 + 1) fun x44 => (F_L_swap af (((8 : Int32) * v1) + v2) (((8 : Int32) * v1) + x44)).bind fun y45 => (F_L_swap av (((8 : Int32) * v1) + v2) (((8 : Int32) * v1) + x44)).bind fun y47 => (F_L_swap ae (((8 : Int32) * v1) + v2) (((8 : Int32) * v1) + x44)).bind fun y49 => (F_L_swap aw (((8 : Int32) * v1) + v2) (((8 : Int32) * v1) + x44)).bind fun y51 => F_L_sinks_4 an v1 n y45 y47 y49 y51 x44) else (vgd (ix ((((8 : Int32) * v1) + v2) - 1) 16) <| vgd (ix (((8 : Int32) * v1) + v2) 16) <| if (af ((((8 : Int32) * v1) + v2) - 1).toNatClampNeg) ≤ (af (((8 : Int32) * v1) + v2).toNatClampNeg) then (vlet (v2 + 1) fun x56 => (F_L_swap af (((8 : Int32) * v1) + v2) (((8 : Int32) * v1) + x56)).bind fun y57 => (F_L_swap av (((8 : Int32) * v1) + v2) (((8 : Int32) * v1) + x56)).bind fun y59 => (F_L_swap ae (((8 : Int32) * v1) + v2) (((8 : Int32) * v1) + x56)).bind fun y61 => (F_L_swap aw (((8 : Int32) * v1) + v2) (((8 : Int32) * v1) + x56)).bind fun y63 => F_L_sinks_4 an v1 n y57 y59 y61 y63 x56) else (vlet (v2 - 1) fun x65 => (F_L_swap af (((8 : Int32) * v1) + v2) (((8 : Int32) * v1) + x65)).bind fun y66 => (F_L_swap av (((8 : Int32) * v1) + v2) (((8 : Int32) * v1) + x65)).bind fun y68 => (F_L_swap ae (((8 : Int32) * v1) + v2) (((8 : Int32) * v1) + x65)).bind fun y70 => (F_L_swap aw (((8 : Int32) * v1) + v2) (((8 : Int32) * v1) + x65)).bind fun y72 => F_L_sinks_4 an v1 n y66 y68 y70 y72 x65))) else (vgd (ix (v1) 2) <| if (an v1.toNatClampNeg) ≤ (v2 + 1) then (some (v2, af, av, ae, aw)) else (vgd (ix ((((8 : Int32) * v1) + v2) + 1) 16) <| vgd (ix (((8 : Int32) * v1) + v2) 16) <| if (af (((8 : Int32) * v1) + v2).toNatClampNeg) ≤ (af ((((8 : Int32) * v1) + v2) + 1).toNatClampNeg) then (some (v2, af, av, ae, aw)) else (if v2 ≤ 0 then (vlet (v2 + 1) fun x80 => (F_L_swap af (((8 : Int32) * v1) + v2) (((8 : Int32) * v1) + x80)).bind fun y81 => (F_L_swap av (((8 : Int32) * v1) + v2) (((8 : Int32) * v1) + x80)).bind fun y83 => (F_L_swap ae (((8 : Int32) * v1) + v2) (((8 : Int32) * v1) + x80)).bind fun y85 => (F_L_swap aw (((8 : Int32) * v1) + v2) (((8 : Int32) * v1) + x80)).bind fun y87 => F_L_sinks_4 an v1 n y81 y83 y85 y87 x80) else (vgd (ix ((((8 : Int32) * v1) + v2) - 1) 16) <| vgd (ix (((8 : Int32) * v1) + v2) 16) <| if (af ((((8 : Int32) * v1) + v2) - 1).toNatClampNeg) ≤ (af (((8 : Int32) * v1) + v2).toNatClampNeg) then (vlet (v2 + 1) fun x92 => (F_L_swap af (((8 : Int32) * v1) + v2) (((8 : Int32) * v1) + x92)).bind fun y93 => (F_L_swap av (((8 : Int32) * v1) + v2) (((8 : Int32) * v1) + x92)).bind fun y95 => (F_L_swap ae (((8 : Int32) * v1) + v2) (((8 : Int32) * v1) + x92)).bind fun y97 => (F_L_swap aw (((8 : Int32) * v1) + v2) (((8 : Int32) * v1) + x92)).bind fun y99 => F_L_sinks_4 an v1 n y93 y95 y97 y99 x92) else (vlet (v2 - 1) fun x101 => (F_L_swap af (((8 : Int32) * v1) + v2) (((8 : Int32) * v1) + x101)).bind fun y102 => (F_L_swap av (((8 : Int32) * v1) + v2) (((8 : Int32) * v1) + x101)).bind fun y104 => (F_L_swap ae (((8 : Int32) * v1) + v2) (((8 : Int32) * v1) + x101)).bind fun y106 => (F_L_swap aw (((8 : Int32) * v1) + v2) (((8 : Int32) * v1) + x101)).bind fun y108 => F_L_sinks_4 an v1 n y102 y104 y106 y108 x101))))))
set_option maxHeartbeats 4000000 in
set_option maxRecDepth 100000 in
theorem w_L_sinks_4 {p : Program} {l : Launch} {e : Env} {s : State} {m : MethodId} {args : Array Value} {below : List Frame} {meth : Method} {c : Code} {G : va_G} {g : Nat → ClassId} (X : cx p s m args meth c cL_sinks 9 (some .int) RL wsL_sinks) (K : amb G g s) {A : Nat → Prop} (hA : ∀ q : Nat, s.heap.size ≤ q → A q) (qn qf qv qe qw : Nat) (an : Nat → Int32) (v1 : Int32) (res : Int32 × (Nat → Int32) × (Nat → Int32) × (Nat → Int32) × (Nat → Int32)) : ∀ (n : Nat) (af : Nat → Int32) (av : Nat → Int32) (ae : Nat → Int32) (aw : Nat → Int32) (v2 : Int32), F_L_sinks_4 an v1 n af av ae aw v2 = some res → ∀ (H : Heap) (locs : List Loc), va_P G vwCl [(qn, .inl (g 0, 2, .inl an)), (qf, .inl (g 0, 16, .inl af)), (qv, .inl (g 0, 16, .inl av)), (qe, .inl (g 0, 16, .inl ae)), (qw, .inl (g 0, 16, .inl aw))] H → va_D A [(qn, .inl (g 0, 2, .inl an)), (qf, .inl (g 0, 16, .inl af)), (qv, .inl (g 0, 16, .inl av)), (qe, .inl (g 0, 16, .inl ae)), (qw, .inl (g 0, 16, .inl aw))] → va_S A s.heap H locs → ∀ (ls : Array Slot), lv_has ls 9 [(0, .ref qn), (1, .ref qf), (2, .ref qv), (3, .ref qe), (4, .ref qw), (5, .int v1), (7, .int v2)] → W p l e (rmF 1 23) s m args below meth c H locs 0 0 (rwM G A below (some (.int res.1)) [(qn, .inl (g 0, 2, .inl an)), (qf, .inl (g 0, 16, .inl res.2.1)), (qv, .inl (g 0, 16, .inl res.2.2.1)), (qe, .inl (g 0, 16, .inl res.2.2.2.1)), (qw, .inl (g 0, 16, .inl res.2.2.2.2))] args s) (F0 m 4 ls []) := by
  obtain ⟨hx, hb, hml, hr, hown, hts, hk⟩ := id X
  intro n
  induction n with
  | zero => intro af av ae aw v2 hq; exact q_no hq
  | succ n ih =>
    intro af av ae aw v2 hq H locs hP hD hS ls hl
    rw [F_L_sinks_4] at hq
    refine lv_iload hx hb dL_sinks_4 (lv_at hl 6 rfl) ?_
    refine lv_if_le (tgt := 34) hx hb dL_sinks_6 (by decide) (fun c3 => ?_) (fun c3 => ?_)
    · have hq := q_if_t hq c3
      refine lv_iload hx hb dL_sinks_34 (lv_at hl 6 rfl) ?_
      refine lv_iconst (v := 1) hx hb dL_sinks_36 (by decide) ?_
      refine lv_iadd hx hb dL_sinks_37 ?_
      refine lv_aload_n hx hb dL_sinks_38 rfl (lv_at hl 0 rfl) ?_
      refine lv_iload hx hb dL_sinks_39 (lv_at hl 5 rfl) ?_
      obtain ⟨hh4, hq⟩ := q_gd hq
      refine va_iald hx hb K.1 hP 0 0 rfl rfl (vp_in_iff.mpr hh4) dL_sinks_41 ?_
      refine lv_icmp_ge (tgt := 201) hx hb dL_sinks_42 (by decide) (fun c5 => ?_) (fun c5 => ?_)
      · have hq := q_if_t hq c5
        refine lv_iload hx hb dL_sinks_201 (lv_at hl 6 rfl) ?_
        obtain rfl := q_rt hq
        exact rw_iret hx hb hr hk hP hD hS dL_sinks_203
      · have hq := q_if_f hq c5
        refine lv_aload_n hx hb dL_sinks_45 rfl (lv_at hl 1 rfl) ?_
        refine lv_bipush (v := 8) hx hb dL_sinks_46 (by decide) ?_
        refine lv_iload hx hb dL_sinks_48 (lv_at hl 5 rfl) ?_
        refine lv_imul hx hb dL_sinks_50 ?_
        refine lv_iload hx hb dL_sinks_51 (lv_at hl 6 rfl) ?_
        refine lv_iadd hx hb dL_sinks_53 ?_
        refine lv_iconst (v := 1) hx hb dL_sinks_54 (by decide) ?_
        refine lv_iadd hx hb dL_sinks_55 ?_
        obtain ⟨hh6, hq⟩ := q_gd hq
        refine va_iald hx hb K.1 hP 1 0 rfl rfl (vp_in_iff.mpr hh6) dL_sinks_56 ?_
        refine lv_aload_n hx hb dL_sinks_57 rfl (lv_at hl 1 rfl) ?_
        refine lv_bipush (v := 8) hx hb dL_sinks_58 (by decide) ?_
        refine lv_iload hx hb dL_sinks_60 (lv_at hl 5 rfl) ?_
        refine lv_imul hx hb dL_sinks_62 ?_
        refine lv_iload hx hb dL_sinks_63 (lv_at hl 6 rfl) ?_
        refine lv_iadd hx hb dL_sinks_65 ?_
        obtain ⟨hh7, hq⟩ := q_gd hq
        refine va_iald hx hb K.1 hP 1 0 rfl rfl (vp_in_iff.mpr hh7) dL_sinks_66 ?_
        refine lv_icmp_ge (tgt := 201) hx hb dL_sinks_67 (by decide) (fun c8 => ?_) (fun c8 => ?_)
        · have hq := q_if_t hq c8
          refine lv_iload hx hb dL_sinks_201 (lv_at hl 6 rfl) ?_
          obtain rfl := q_rt hq
          exact rw_iret hx hb hr hk hP hD hS dL_sinks_203
        · have hq := q_if_f hq c8
          refine lv_iload hx hb dL_sinks_70 (lv_at hl 6 rfl) ?_
          refine lv_if_le (tgt := 107) hx hb dL_sinks_72 (by decide) (fun c9 => ?_) (fun c9 => ?_)
          · have hq := q_if_t hq c9
            refine lv_iload hx hb dL_sinks_107 (lv_at hl 6 rfl) ?_
            refine lv_iconst (v := 1) hx hb dL_sinks_109 (by decide) ?_
            refine lv_iadd hx hb dL_sinks_110 ?_
            refine lv_topi (fun x10 ex10 => ?_)
            have hq := q_let hq ex10
            refine lv_istore (lv' := [(8, .int x10), (0, .ref qn), (1, .ref qf), (2, .ref qv), (3, .ref qe), (4, .ref qw), (5, .int v1), (7, .int v2)]) hx hb dL_sinks_111 hl (by decide) rfl (fun ls hl => ?_)
            refine lv_aload_n hx hb dL_sinks_113 rfl (lv_at hl 2 rfl) ?_
            refine lv_bipush (v := 8) hx hb dL_sinks_114 (by decide) ?_
            refine lv_iload hx hb dL_sinks_116 (lv_at hl 6 rfl) ?_
            refine lv_imul hx hb dL_sinks_118 ?_
            refine lv_iload hx hb dL_sinks_119 (lv_at hl 7 rfl) ?_
            refine lv_iadd hx hb dL_sinks_121 ?_
            refine lv_bipush (v := 8) hx hb dL_sinks_122 (by decide) ?_
            refine lv_iload hx hb dL_sinks_124 (lv_at hl 6 rfl) ?_
            refine lv_imul hx hb dL_sinks_126 ?_
            refine lv_iload hx hb dL_sinks_127 (lv_at hl 0 rfl) ?_
            refine lv_iadd hx hb dL_sinks_129 ?_
            obtain ⟨y11, hh12, hq⟩ := q_bd hq
            refine rwS (wr := [(qn, .inl (g 0, 2, .inl an)), (qv, .inl (g 0, 16, .inl av)), (qe, .inl (g 0, 16, .inl ae)), (qw, .inl (g 0, 16, .inl aw))]) (As := [.ref qf, .int (((8 : Int32) * v1) + v2), .int (((8 : Int32) * v1) + x10)]) (rest := []) X K (k_L_swap l G g qf af (((8 : Int32) * v1) + v2) (((8 : Int32) * v1) + x10) _ hh12) hd_L_swap gL_sinks_L_swap hP hD hS hA [1] [0, 2, 3, 4] rfl rfl ⟨by decide, by decide, by decide⟩ hl.1 dL_sinks_130 rfl rfl ⟨Nat.le_of_ble_eq_true rfl, Nat.le_of_ble_eq_true rfl⟩ rfl (Nat.le_of_ble_eq_true rfl) ⟨Nat.zero_le _, Nat.zero_le _⟩ (fun H locs hP hD hS => ?_)
            have hP : va_P G vwCl [(qn, .inl (g 0, 2, .inl an)), (qf, .inl (g 0, 16, .inl y11)), (qv, .inl (g 0, 16, .inl av)), (qe, .inl (g 0, 16, .inl ae)), (qw, .inl (g 0, 16, .inl aw))] H := hP.sub [0, 4, 1, 2, 3] rfl
            have hD : va_D A [(qn, .inl (g 0, 2, .inl an)), (qf, .inl (g 0, 16, .inl y11)), (qv, .inl (g 0, 16, .inl av)), (qe, .inl (g 0, 16, .inl ae)), (qw, .inl (g 0, 16, .inl aw))] := hD.sub [0, 4, 1, 2, 3] (by decide) rfl
            refine lv_aload_n hx hb dL_sinks_133 rfl (lv_at hl 3 rfl) ?_
            refine lv_bipush (v := 8) hx hb dL_sinks_134 (by decide) ?_
            refine lv_iload hx hb dL_sinks_136 (lv_at hl 6 rfl) ?_
            refine lv_imul hx hb dL_sinks_138 ?_
            refine lv_iload hx hb dL_sinks_139 (lv_at hl 7 rfl) ?_
            refine lv_iadd hx hb dL_sinks_141 ?_
            refine lv_bipush (v := 8) hx hb dL_sinks_142 (by decide) ?_
            refine lv_iload hx hb dL_sinks_144 (lv_at hl 6 rfl) ?_
            refine lv_imul hx hb dL_sinks_146 ?_
            refine lv_iload hx hb dL_sinks_147 (lv_at hl 0 rfl) ?_
            refine lv_iadd hx hb dL_sinks_149 ?_
            obtain ⟨y13, hh14, hq⟩ := q_bd hq
            refine rwS (wr := [(qn, .inl (g 0, 2, .inl an)), (qf, .inl (g 0, 16, .inl y11)), (qe, .inl (g 0, 16, .inl ae)), (qw, .inl (g 0, 16, .inl aw))]) (As := [.ref qv, .int (((8 : Int32) * v1) + v2), .int (((8 : Int32) * v1) + x10)]) (rest := []) X K (k_L_swap l G g qv av (((8 : Int32) * v1) + v2) (((8 : Int32) * v1) + x10) _ hh14) hd_L_swap gL_sinks_L_swap hP hD hS hA [2] [0, 1, 3, 4] rfl rfl ⟨by decide, by decide, by decide⟩ hl.1 dL_sinks_150 rfl rfl ⟨Nat.le_of_ble_eq_true rfl, Nat.le_of_ble_eq_true rfl⟩ rfl (Nat.le_of_ble_eq_true rfl) ⟨Nat.zero_le _, Nat.zero_le _⟩ (fun H locs hP hD hS => ?_)
            have hP : va_P G vwCl [(qn, .inl (g 0, 2, .inl an)), (qf, .inl (g 0, 16, .inl y11)), (qv, .inl (g 0, 16, .inl y13)), (qe, .inl (g 0, 16, .inl ae)), (qw, .inl (g 0, 16, .inl aw))] H := hP.sub [0, 1, 4, 2, 3] rfl
            have hD : va_D A [(qn, .inl (g 0, 2, .inl an)), (qf, .inl (g 0, 16, .inl y11)), (qv, .inl (g 0, 16, .inl y13)), (qe, .inl (g 0, 16, .inl ae)), (qw, .inl (g 0, 16, .inl aw))] := hD.sub [0, 1, 4, 2, 3] (by decide) rfl
            refine lv_aload_n hx hb dL_sinks_153 rfl (lv_at hl 4 rfl) ?_
            refine lv_bipush (v := 8) hx hb dL_sinks_154 (by decide) ?_
            refine lv_iload hx hb dL_sinks_156 (lv_at hl 6 rfl) ?_
            refine lv_imul hx hb dL_sinks_158 ?_
            refine lv_iload hx hb dL_sinks_159 (lv_at hl 7 rfl) ?_
            refine lv_iadd hx hb dL_sinks_161 ?_
            refine lv_bipush (v := 8) hx hb dL_sinks_162 (by decide) ?_
            refine lv_iload hx hb dL_sinks_164 (lv_at hl 6 rfl) ?_
            refine lv_imul hx hb dL_sinks_166 ?_
            refine lv_iload hx hb dL_sinks_167 (lv_at hl 0 rfl) ?_
            refine lv_iadd hx hb dL_sinks_169 ?_
            obtain ⟨y15, hh16, hq⟩ := q_bd hq
            refine rwS (wr := [(qn, .inl (g 0, 2, .inl an)), (qf, .inl (g 0, 16, .inl y11)), (qv, .inl (g 0, 16, .inl y13)), (qw, .inl (g 0, 16, .inl aw))]) (As := [.ref qe, .int (((8 : Int32) * v1) + v2), .int (((8 : Int32) * v1) + x10)]) (rest := []) X K (k_L_swap l G g qe ae (((8 : Int32) * v1) + v2) (((8 : Int32) * v1) + x10) _ hh16) hd_L_swap gL_sinks_L_swap hP hD hS hA [3] [0, 1, 2, 4] rfl rfl ⟨by decide, by decide, by decide⟩ hl.1 dL_sinks_170 rfl rfl ⟨Nat.le_of_ble_eq_true rfl, Nat.le_of_ble_eq_true rfl⟩ rfl (Nat.le_of_ble_eq_true rfl) ⟨Nat.zero_le _, Nat.zero_le _⟩ (fun H locs hP hD hS => ?_)
            have hP : va_P G vwCl [(qn, .inl (g 0, 2, .inl an)), (qf, .inl (g 0, 16, .inl y11)), (qv, .inl (g 0, 16, .inl y13)), (qe, .inl (g 0, 16, .inl y15)), (qw, .inl (g 0, 16, .inl aw))] H := hP.sub [0, 1, 2, 4, 3] rfl
            have hD : va_D A [(qn, .inl (g 0, 2, .inl an)), (qf, .inl (g 0, 16, .inl y11)), (qv, .inl (g 0, 16, .inl y13)), (qe, .inl (g 0, 16, .inl y15)), (qw, .inl (g 0, 16, .inl aw))] := hD.sub [0, 1, 2, 4, 3] (by decide) rfl
            refine lv_aload hx hb dL_sinks_173 (lv_at hl 5 rfl) ?_
            refine lv_bipush (v := 8) hx hb dL_sinks_175 (by decide) ?_
            refine lv_iload hx hb dL_sinks_177 (lv_at hl 6 rfl) ?_
            refine lv_imul hx hb dL_sinks_179 ?_
            refine lv_iload hx hb dL_sinks_180 (lv_at hl 7 rfl) ?_
            refine lv_iadd hx hb dL_sinks_182 ?_
            refine lv_bipush (v := 8) hx hb dL_sinks_183 (by decide) ?_
            refine lv_iload hx hb dL_sinks_185 (lv_at hl 6 rfl) ?_
            refine lv_imul hx hb dL_sinks_187 ?_
            refine lv_iload hx hb dL_sinks_188 (lv_at hl 0 rfl) ?_
            refine lv_iadd hx hb dL_sinks_190 ?_
            obtain ⟨y17, hh18, hq⟩ := q_bd hq
            refine rwS (wr := [(qn, .inl (g 0, 2, .inl an)), (qf, .inl (g 0, 16, .inl y11)), (qv, .inl (g 0, 16, .inl y13)), (qe, .inl (g 0, 16, .inl y15))]) (As := [.ref qw, .int (((8 : Int32) * v1) + v2), .int (((8 : Int32) * v1) + x10)]) (rest := []) X K (k_L_swap l G g qw aw (((8 : Int32) * v1) + v2) (((8 : Int32) * v1) + x10) _ hh18) hd_L_swap gL_sinks_L_swap hP hD hS hA [4] [0, 1, 2, 3] rfl rfl ⟨by decide, by decide, by decide⟩ hl.1 dL_sinks_191 rfl rfl ⟨Nat.le_of_ble_eq_true rfl, Nat.le_of_ble_eq_true rfl⟩ rfl (Nat.le_of_ble_eq_true rfl) ⟨Nat.zero_le _, Nat.zero_le _⟩ (fun H locs hP hD hS => ?_)
            have hP : va_P G vwCl [(qn, .inl (g 0, 2, .inl an)), (qf, .inl (g 0, 16, .inl y11)), (qv, .inl (g 0, 16, .inl y13)), (qe, .inl (g 0, 16, .inl y15)), (qw, .inl (g 0, 16, .inl y17))] H := hP
            have hD : va_D A [(qn, .inl (g 0, 2, .inl an)), (qf, .inl (g 0, 16, .inl y11)), (qv, .inl (g 0, 16, .inl y13)), (qe, .inl (g 0, 16, .inl y15)), (qw, .inl (g 0, 16, .inl y17))] := hD
            refine lv_iload hx hb dL_sinks_194 (lv_at hl 0 rfl) ?_
            refine lv_istore (lv' := [(7, .int x10), (8, .int x10), (0, .ref qn), (1, .ref qf), (2, .ref qv), (3, .ref qe), (4, .ref qw), (5, .int v1)]) hx hb dL_sinks_196 hl (by decide) rfl (fun ls hl => ?_)
            refine lv_goto (tgt := 4) hx hb dL_sinks_198 (by decide) ?_
            exact ih y11 y13 y15 y17 x10 hq _ _ hP hD hS ls (lv_sub hl [2, 3, 4, 5, 6, 7, 0] rfl)
          · have hq := q_if_f hq c9
            refine lv_aload_n hx hb dL_sinks_75 rfl (lv_at hl 1 rfl) ?_
            refine lv_bipush (v := 8) hx hb dL_sinks_76 (by decide) ?_
            refine lv_iload hx hb dL_sinks_78 (lv_at hl 5 rfl) ?_
            refine lv_imul hx hb dL_sinks_80 ?_
            refine lv_iload hx hb dL_sinks_81 (lv_at hl 6 rfl) ?_
            refine lv_iadd hx hb dL_sinks_83 ?_
            refine lv_iconst (v := 1) hx hb dL_sinks_84 (by decide) ?_
            refine lv_isub hx hb dL_sinks_85 ?_
            obtain ⟨hh19, hq⟩ := q_gd hq
            refine va_iald hx hb K.1 hP 1 0 rfl rfl (vp_in_iff.mpr hh19) dL_sinks_86 ?_
            refine lv_aload_n hx hb dL_sinks_87 rfl (lv_at hl 1 rfl) ?_
            refine lv_bipush (v := 8) hx hb dL_sinks_88 (by decide) ?_
            refine lv_iload hx hb dL_sinks_90 (lv_at hl 5 rfl) ?_
            refine lv_imul hx hb dL_sinks_92 ?_
            refine lv_iload hx hb dL_sinks_93 (lv_at hl 6 rfl) ?_
            refine lv_iadd hx hb dL_sinks_95 ?_
            obtain ⟨hh20, hq⟩ := q_gd hq
            refine va_iald hx hb K.1 hP 1 0 rfl rfl (vp_in_iff.mpr hh20) dL_sinks_96 ?_
            refine lv_icmp_le (tgt := 107) hx hb dL_sinks_97 (by decide) (fun c21 => ?_) (fun c21 => ?_)
            · have hq := q_if_t hq c21
              refine lv_iload hx hb dL_sinks_107 (lv_at hl 6 rfl) ?_
              refine lv_iconst (v := 1) hx hb dL_sinks_109 (by decide) ?_
              refine lv_iadd hx hb dL_sinks_110 ?_
              refine lv_topi (fun x22 ex22 => ?_)
              have hq := q_let hq ex22
              refine lv_istore (lv' := [(8, .int x22), (0, .ref qn), (1, .ref qf), (2, .ref qv), (3, .ref qe), (4, .ref qw), (5, .int v1), (7, .int v2)]) hx hb dL_sinks_111 hl (by decide) rfl (fun ls hl => ?_)
              refine lv_aload_n hx hb dL_sinks_113 rfl (lv_at hl 2 rfl) ?_
              refine lv_bipush (v := 8) hx hb dL_sinks_114 (by decide) ?_
              refine lv_iload hx hb dL_sinks_116 (lv_at hl 6 rfl) ?_
              refine lv_imul hx hb dL_sinks_118 ?_
              refine lv_iload hx hb dL_sinks_119 (lv_at hl 7 rfl) ?_
              refine lv_iadd hx hb dL_sinks_121 ?_
              refine lv_bipush (v := 8) hx hb dL_sinks_122 (by decide) ?_
              refine lv_iload hx hb dL_sinks_124 (lv_at hl 6 rfl) ?_
              refine lv_imul hx hb dL_sinks_126 ?_
              refine lv_iload hx hb dL_sinks_127 (lv_at hl 0 rfl) ?_
              refine lv_iadd hx hb dL_sinks_129 ?_
              obtain ⟨y23, hh24, hq⟩ := q_bd hq
              refine rwS (wr := [(qn, .inl (g 0, 2, .inl an)), (qv, .inl (g 0, 16, .inl av)), (qe, .inl (g 0, 16, .inl ae)), (qw, .inl (g 0, 16, .inl aw))]) (As := [.ref qf, .int (((8 : Int32) * v1) + v2), .int (((8 : Int32) * v1) + x22)]) (rest := []) X K (k_L_swap l G g qf af (((8 : Int32) * v1) + v2) (((8 : Int32) * v1) + x22) _ hh24) hd_L_swap gL_sinks_L_swap hP hD hS hA [1] [0, 2, 3, 4] rfl rfl ⟨by decide, by decide, by decide⟩ hl.1 dL_sinks_130 rfl rfl ⟨Nat.le_of_ble_eq_true rfl, Nat.le_of_ble_eq_true rfl⟩ rfl (Nat.le_of_ble_eq_true rfl) ⟨Nat.zero_le _, Nat.zero_le _⟩ (fun H locs hP hD hS => ?_)
              have hP : va_P G vwCl [(qn, .inl (g 0, 2, .inl an)), (qf, .inl (g 0, 16, .inl y23)), (qv, .inl (g 0, 16, .inl av)), (qe, .inl (g 0, 16, .inl ae)), (qw, .inl (g 0, 16, .inl aw))] H := hP.sub [0, 4, 1, 2, 3] rfl
              have hD : va_D A [(qn, .inl (g 0, 2, .inl an)), (qf, .inl (g 0, 16, .inl y23)), (qv, .inl (g 0, 16, .inl av)), (qe, .inl (g 0, 16, .inl ae)), (qw, .inl (g 0, 16, .inl aw))] := hD.sub [0, 4, 1, 2, 3] (by decide) rfl
              refine lv_aload_n hx hb dL_sinks_133 rfl (lv_at hl 3 rfl) ?_
              refine lv_bipush (v := 8) hx hb dL_sinks_134 (by decide) ?_
              refine lv_iload hx hb dL_sinks_136 (lv_at hl 6 rfl) ?_
              refine lv_imul hx hb dL_sinks_138 ?_
              refine lv_iload hx hb dL_sinks_139 (lv_at hl 7 rfl) ?_
              refine lv_iadd hx hb dL_sinks_141 ?_
              refine lv_bipush (v := 8) hx hb dL_sinks_142 (by decide) ?_
              refine lv_iload hx hb dL_sinks_144 (lv_at hl 6 rfl) ?_
              refine lv_imul hx hb dL_sinks_146 ?_
              refine lv_iload hx hb dL_sinks_147 (lv_at hl 0 rfl) ?_
              refine lv_iadd hx hb dL_sinks_149 ?_
              obtain ⟨y25, hh26, hq⟩ := q_bd hq
              refine rwS (wr := [(qn, .inl (g 0, 2, .inl an)), (qf, .inl (g 0, 16, .inl y23)), (qe, .inl (g 0, 16, .inl ae)), (qw, .inl (g 0, 16, .inl aw))]) (As := [.ref qv, .int (((8 : Int32) * v1) + v2), .int (((8 : Int32) * v1) + x22)]) (rest := []) X K (k_L_swap l G g qv av (((8 : Int32) * v1) + v2) (((8 : Int32) * v1) + x22) _ hh26) hd_L_swap gL_sinks_L_swap hP hD hS hA [2] [0, 1, 3, 4] rfl rfl ⟨by decide, by decide, by decide⟩ hl.1 dL_sinks_150 rfl rfl ⟨Nat.le_of_ble_eq_true rfl, Nat.le_of_ble_eq_true rfl⟩ rfl (Nat.le_of_ble_eq_true rfl) ⟨Nat.zero_le _, Nat.zero_le _⟩ (fun H locs hP hD hS => ?_)
              have hP : va_P G vwCl [(qn, .inl (g 0, 2, .inl an)), (qf, .inl (g 0, 16, .inl y23)), (qv, .inl (g 0, 16, .inl y25)), (qe, .inl (g 0, 16, .inl ae)), (qw, .inl (g 0, 16, .inl aw))] H := hP.sub [0, 1, 4, 2, 3] rfl
              have hD : va_D A [(qn, .inl (g 0, 2, .inl an)), (qf, .inl (g 0, 16, .inl y23)), (qv, .inl (g 0, 16, .inl y25)), (qe, .inl (g 0, 16, .inl ae)), (qw, .inl (g 0, 16, .inl aw))] := hD.sub [0, 1, 4, 2, 3] (by decide) rfl
              refine lv_aload_n hx hb dL_sinks_153 rfl (lv_at hl 4 rfl) ?_
              refine lv_bipush (v := 8) hx hb dL_sinks_154 (by decide) ?_
              refine lv_iload hx hb dL_sinks_156 (lv_at hl 6 rfl) ?_
              refine lv_imul hx hb dL_sinks_158 ?_
              refine lv_iload hx hb dL_sinks_159 (lv_at hl 7 rfl) ?_
              refine lv_iadd hx hb dL_sinks_161 ?_
              refine lv_bipush (v := 8) hx hb dL_sinks_162 (by decide) ?_
              refine lv_iload hx hb dL_sinks_164 (lv_at hl 6 rfl) ?_
              refine lv_imul hx hb dL_sinks_166 ?_
              refine lv_iload hx hb dL_sinks_167 (lv_at hl 0 rfl) ?_
              refine lv_iadd hx hb dL_sinks_169 ?_
              obtain ⟨y27, hh28, hq⟩ := q_bd hq
              refine rwS (wr := [(qn, .inl (g 0, 2, .inl an)), (qf, .inl (g 0, 16, .inl y23)), (qv, .inl (g 0, 16, .inl y25)), (qw, .inl (g 0, 16, .inl aw))]) (As := [.ref qe, .int (((8 : Int32) * v1) + v2), .int (((8 : Int32) * v1) + x22)]) (rest := []) X K (k_L_swap l G g qe ae (((8 : Int32) * v1) + v2) (((8 : Int32) * v1) + x22) _ hh28) hd_L_swap gL_sinks_L_swap hP hD hS hA [3] [0, 1, 2, 4] rfl rfl ⟨by decide, by decide, by decide⟩ hl.1 dL_sinks_170 rfl rfl ⟨Nat.le_of_ble_eq_true rfl, Nat.le_of_ble_eq_true rfl⟩ rfl (Nat.le_of_ble_eq_true rfl) ⟨Nat.zero_le _, Nat.zero_le _⟩ (fun H locs hP hD hS => ?_)
              have hP : va_P G vwCl [(qn, .inl (g 0, 2, .inl an)), (qf, .inl (g 0, 16, .inl y23)), (qv, .inl (g 0, 16, .inl y25)), (qe, .inl (g 0, 16, .inl y27)), (qw, .inl (g 0, 16, .inl aw))] H := hP.sub [0, 1, 2, 4, 3] rfl
              have hD : va_D A [(qn, .inl (g 0, 2, .inl an)), (qf, .inl (g 0, 16, .inl y23)), (qv, .inl (g 0, 16, .inl y25)), (qe, .inl (g 0, 16, .inl y27)), (qw, .inl (g 0, 16, .inl aw))] := hD.sub [0, 1, 2, 4, 3] (by decide) rfl
              refine lv_aload hx hb dL_sinks_173 (lv_at hl 5 rfl) ?_
              refine lv_bipush (v := 8) hx hb dL_sinks_175 (by decide) ?_
              refine lv_iload hx hb dL_sinks_177 (lv_at hl 6 rfl) ?_
              refine lv_imul hx hb dL_sinks_179 ?_
              refine lv_iload hx hb dL_sinks_180 (lv_at hl 7 rfl) ?_
              refine lv_iadd hx hb dL_sinks_182 ?_
              refine lv_bipush (v := 8) hx hb dL_sinks_183 (by decide) ?_
              refine lv_iload hx hb dL_sinks_185 (lv_at hl 6 rfl) ?_
              refine lv_imul hx hb dL_sinks_187 ?_
              refine lv_iload hx hb dL_sinks_188 (lv_at hl 0 rfl) ?_
              refine lv_iadd hx hb dL_sinks_190 ?_
              obtain ⟨y29, hh30, hq⟩ := q_bd hq
              refine rwS (wr := [(qn, .inl (g 0, 2, .inl an)), (qf, .inl (g 0, 16, .inl y23)), (qv, .inl (g 0, 16, .inl y25)), (qe, .inl (g 0, 16, .inl y27))]) (As := [.ref qw, .int (((8 : Int32) * v1) + v2), .int (((8 : Int32) * v1) + x22)]) (rest := []) X K (k_L_swap l G g qw aw (((8 : Int32) * v1) + v2) (((8 : Int32) * v1) + x22) _ hh30) hd_L_swap gL_sinks_L_swap hP hD hS hA [4] [0, 1, 2, 3] rfl rfl ⟨by decide, by decide, by decide⟩ hl.1 dL_sinks_191 rfl rfl ⟨Nat.le_of_ble_eq_true rfl, Nat.le_of_ble_eq_true rfl⟩ rfl (Nat.le_of_ble_eq_true rfl) ⟨Nat.zero_le _, Nat.zero_le _⟩ (fun H locs hP hD hS => ?_)
              have hP : va_P G vwCl [(qn, .inl (g 0, 2, .inl an)), (qf, .inl (g 0, 16, .inl y23)), (qv, .inl (g 0, 16, .inl y25)), (qe, .inl (g 0, 16, .inl y27)), (qw, .inl (g 0, 16, .inl y29))] H := hP
              have hD : va_D A [(qn, .inl (g 0, 2, .inl an)), (qf, .inl (g 0, 16, .inl y23)), (qv, .inl (g 0, 16, .inl y25)), (qe, .inl (g 0, 16, .inl y27)), (qw, .inl (g 0, 16, .inl y29))] := hD
              refine lv_iload hx hb dL_sinks_194 (lv_at hl 0 rfl) ?_
              refine lv_istore (lv' := [(7, .int x22), (8, .int x22), (0, .ref qn), (1, .ref qf), (2, .ref qv), (3, .ref qe), (4, .ref qw), (5, .int v1)]) hx hb dL_sinks_196 hl (by decide) rfl (fun ls hl => ?_)
              refine lv_goto (tgt := 4) hx hb dL_sinks_198 (by decide) ?_
              exact ih y23 y25 y27 y29 x22 hq _ _ hP hD hS ls (lv_sub hl [2, 3, 4, 5, 6, 7, 0] rfl)
            · have hq := q_if_f hq c21
              refine lv_iload hx hb dL_sinks_100 (lv_at hl 6 rfl) ?_
              refine lv_iconst (v := 1) hx hb dL_sinks_102 (by decide) ?_
              refine lv_isub hx hb dL_sinks_103 ?_
              refine lv_goto (tgt := 111) hx hb dL_sinks_104 (by decide) ?_
              refine lv_topi (fun x31 ex31 => ?_)
              have hq := q_let hq ex31
              refine lv_istore (lv' := [(8, .int x31), (0, .ref qn), (1, .ref qf), (2, .ref qv), (3, .ref qe), (4, .ref qw), (5, .int v1), (7, .int v2)]) hx hb dL_sinks_111 hl (by decide) rfl (fun ls hl => ?_)
              refine lv_aload_n hx hb dL_sinks_113 rfl (lv_at hl 2 rfl) ?_
              refine lv_bipush (v := 8) hx hb dL_sinks_114 (by decide) ?_
              refine lv_iload hx hb dL_sinks_116 (lv_at hl 6 rfl) ?_
              refine lv_imul hx hb dL_sinks_118 ?_
              refine lv_iload hx hb dL_sinks_119 (lv_at hl 7 rfl) ?_
              refine lv_iadd hx hb dL_sinks_121 ?_
              refine lv_bipush (v := 8) hx hb dL_sinks_122 (by decide) ?_
              refine lv_iload hx hb dL_sinks_124 (lv_at hl 6 rfl) ?_
              refine lv_imul hx hb dL_sinks_126 ?_
              refine lv_iload hx hb dL_sinks_127 (lv_at hl 0 rfl) ?_
              refine lv_iadd hx hb dL_sinks_129 ?_
              obtain ⟨y32, hh33, hq⟩ := q_bd hq
              refine rwS (wr := [(qn, .inl (g 0, 2, .inl an)), (qv, .inl (g 0, 16, .inl av)), (qe, .inl (g 0, 16, .inl ae)), (qw, .inl (g 0, 16, .inl aw))]) (As := [.ref qf, .int (((8 : Int32) * v1) + v2), .int (((8 : Int32) * v1) + x31)]) (rest := []) X K (k_L_swap l G g qf af (((8 : Int32) * v1) + v2) (((8 : Int32) * v1) + x31) _ hh33) hd_L_swap gL_sinks_L_swap hP hD hS hA [1] [0, 2, 3, 4] rfl rfl ⟨by decide, by decide, by decide⟩ hl.1 dL_sinks_130 rfl rfl ⟨Nat.le_of_ble_eq_true rfl, Nat.le_of_ble_eq_true rfl⟩ rfl (Nat.le_of_ble_eq_true rfl) ⟨Nat.zero_le _, Nat.zero_le _⟩ (fun H locs hP hD hS => ?_)
              have hP : va_P G vwCl [(qn, .inl (g 0, 2, .inl an)), (qf, .inl (g 0, 16, .inl y32)), (qv, .inl (g 0, 16, .inl av)), (qe, .inl (g 0, 16, .inl ae)), (qw, .inl (g 0, 16, .inl aw))] H := hP.sub [0, 4, 1, 2, 3] rfl
              have hD : va_D A [(qn, .inl (g 0, 2, .inl an)), (qf, .inl (g 0, 16, .inl y32)), (qv, .inl (g 0, 16, .inl av)), (qe, .inl (g 0, 16, .inl ae)), (qw, .inl (g 0, 16, .inl aw))] := hD.sub [0, 4, 1, 2, 3] (by decide) rfl
              refine lv_aload_n hx hb dL_sinks_133 rfl (lv_at hl 3 rfl) ?_
              refine lv_bipush (v := 8) hx hb dL_sinks_134 (by decide) ?_
              refine lv_iload hx hb dL_sinks_136 (lv_at hl 6 rfl) ?_
              refine lv_imul hx hb dL_sinks_138 ?_
              refine lv_iload hx hb dL_sinks_139 (lv_at hl 7 rfl) ?_
              refine lv_iadd hx hb dL_sinks_141 ?_
              refine lv_bipush (v := 8) hx hb dL_sinks_142 (by decide) ?_
              refine lv_iload hx hb dL_sinks_144 (lv_at hl 6 rfl) ?_
              refine lv_imul hx hb dL_sinks_146 ?_
              refine lv_iload hx hb dL_sinks_147 (lv_at hl 0 rfl) ?_
              refine lv_iadd hx hb dL_sinks_149 ?_
              obtain ⟨y34, hh35, hq⟩ := q_bd hq
              refine rwS (wr := [(qn, .inl (g 0, 2, .inl an)), (qf, .inl (g 0, 16, .inl y32)), (qe, .inl (g 0, 16, .inl ae)), (qw, .inl (g 0, 16, .inl aw))]) (As := [.ref qv, .int (((8 : Int32) * v1) + v2), .int (((8 : Int32) * v1) + x31)]) (rest := []) X K (k_L_swap l G g qv av (((8 : Int32) * v1) + v2) (((8 : Int32) * v1) + x31) _ hh35) hd_L_swap gL_sinks_L_swap hP hD hS hA [2] [0, 1, 3, 4] rfl rfl ⟨by decide, by decide, by decide⟩ hl.1 dL_sinks_150 rfl rfl ⟨Nat.le_of_ble_eq_true rfl, Nat.le_of_ble_eq_true rfl⟩ rfl (Nat.le_of_ble_eq_true rfl) ⟨Nat.zero_le _, Nat.zero_le _⟩ (fun H locs hP hD hS => ?_)
              have hP : va_P G vwCl [(qn, .inl (g 0, 2, .inl an)), (qf, .inl (g 0, 16, .inl y32)), (qv, .inl (g 0, 16, .inl y34)), (qe, .inl (g 0, 16, .inl ae)), (qw, .inl (g 0, 16, .inl aw))] H := hP.sub [0, 1, 4, 2, 3] rfl
              have hD : va_D A [(qn, .inl (g 0, 2, .inl an)), (qf, .inl (g 0, 16, .inl y32)), (qv, .inl (g 0, 16, .inl y34)), (qe, .inl (g 0, 16, .inl ae)), (qw, .inl (g 0, 16, .inl aw))] := hD.sub [0, 1, 4, 2, 3] (by decide) rfl
              refine lv_aload_n hx hb dL_sinks_153 rfl (lv_at hl 4 rfl) ?_
              refine lv_bipush (v := 8) hx hb dL_sinks_154 (by decide) ?_
              refine lv_iload hx hb dL_sinks_156 (lv_at hl 6 rfl) ?_
              refine lv_imul hx hb dL_sinks_158 ?_
              refine lv_iload hx hb dL_sinks_159 (lv_at hl 7 rfl) ?_
              refine lv_iadd hx hb dL_sinks_161 ?_
              refine lv_bipush (v := 8) hx hb dL_sinks_162 (by decide) ?_
              refine lv_iload hx hb dL_sinks_164 (lv_at hl 6 rfl) ?_
              refine lv_imul hx hb dL_sinks_166 ?_
              refine lv_iload hx hb dL_sinks_167 (lv_at hl 0 rfl) ?_
              refine lv_iadd hx hb dL_sinks_169 ?_
              obtain ⟨y36, hh37, hq⟩ := q_bd hq
              refine rwS (wr := [(qn, .inl (g 0, 2, .inl an)), (qf, .inl (g 0, 16, .inl y32)), (qv, .inl (g 0, 16, .inl y34)), (qw, .inl (g 0, 16, .inl aw))]) (As := [.ref qe, .int (((8 : Int32) * v1) + v2), .int (((8 : Int32) * v1) + x31)]) (rest := []) X K (k_L_swap l G g qe ae (((8 : Int32) * v1) + v2) (((8 : Int32) * v1) + x31) _ hh37) hd_L_swap gL_sinks_L_swap hP hD hS hA [3] [0, 1, 2, 4] rfl rfl ⟨by decide, by decide, by decide⟩ hl.1 dL_sinks_170 rfl rfl ⟨Nat.le_of_ble_eq_true rfl, Nat.le_of_ble_eq_true rfl⟩ rfl (Nat.le_of_ble_eq_true rfl) ⟨Nat.zero_le _, Nat.zero_le _⟩ (fun H locs hP hD hS => ?_)
              have hP : va_P G vwCl [(qn, .inl (g 0, 2, .inl an)), (qf, .inl (g 0, 16, .inl y32)), (qv, .inl (g 0, 16, .inl y34)), (qe, .inl (g 0, 16, .inl y36)), (qw, .inl (g 0, 16, .inl aw))] H := hP.sub [0, 1, 2, 4, 3] rfl
              have hD : va_D A [(qn, .inl (g 0, 2, .inl an)), (qf, .inl (g 0, 16, .inl y32)), (qv, .inl (g 0, 16, .inl y34)), (qe, .inl (g 0, 16, .inl y36)), (qw, .inl (g 0, 16, .inl aw))] := hD.sub [0, 1, 2, 4, 3] (by decide) rfl
              refine lv_aload hx hb dL_sinks_173 (lv_at hl 5 rfl) ?_
              refine lv_bipush (v := 8) hx hb dL_sinks_175 (by decide) ?_
              refine lv_iload hx hb dL_sinks_177 (lv_at hl 6 rfl) ?_
              refine lv_imul hx hb dL_sinks_179 ?_
              refine lv_iload hx hb dL_sinks_180 (lv_at hl 7 rfl) ?_
              refine lv_iadd hx hb dL_sinks_182 ?_
              refine lv_bipush (v := 8) hx hb dL_sinks_183 (by decide) ?_
              refine lv_iload hx hb dL_sinks_185 (lv_at hl 6 rfl) ?_
              refine lv_imul hx hb dL_sinks_187 ?_
              refine lv_iload hx hb dL_sinks_188 (lv_at hl 0 rfl) ?_
              refine lv_iadd hx hb dL_sinks_190 ?_
              obtain ⟨y38, hh39, hq⟩ := q_bd hq
              refine rwS (wr := [(qn, .inl (g 0, 2, .inl an)), (qf, .inl (g 0, 16, .inl y32)), (qv, .inl (g 0, 16, .inl y34)), (qe, .inl (g 0, 16, .inl y36))]) (As := [.ref qw, .int (((8 : Int32) * v1) + v2), .int (((8 : Int32) * v1) + x31)]) (rest := []) X K (k_L_swap l G g qw aw (((8 : Int32) * v1) + v2) (((8 : Int32) * v1) + x31) _ hh39) hd_L_swap gL_sinks_L_swap hP hD hS hA [4] [0, 1, 2, 3] rfl rfl ⟨by decide, by decide, by decide⟩ hl.1 dL_sinks_191 rfl rfl ⟨Nat.le_of_ble_eq_true rfl, Nat.le_of_ble_eq_true rfl⟩ rfl (Nat.le_of_ble_eq_true rfl) ⟨Nat.zero_le _, Nat.zero_le _⟩ (fun H locs hP hD hS => ?_)
              have hP : va_P G vwCl [(qn, .inl (g 0, 2, .inl an)), (qf, .inl (g 0, 16, .inl y32)), (qv, .inl (g 0, 16, .inl y34)), (qe, .inl (g 0, 16, .inl y36)), (qw, .inl (g 0, 16, .inl y38))] H := hP
              have hD : va_D A [(qn, .inl (g 0, 2, .inl an)), (qf, .inl (g 0, 16, .inl y32)), (qv, .inl (g 0, 16, .inl y34)), (qe, .inl (g 0, 16, .inl y36)), (qw, .inl (g 0, 16, .inl y38))] := hD
              refine lv_iload hx hb dL_sinks_194 (lv_at hl 0 rfl) ?_
              refine lv_istore (lv' := [(7, .int x31), (8, .int x31), (0, .ref qn), (1, .ref qf), (2, .ref qv), (3, .ref qe), (4, .ref qw), (5, .int v1)]) hx hb dL_sinks_196 hl (by decide) rfl (fun ls hl => ?_)
              refine lv_goto (tgt := 4) hx hb dL_sinks_198 (by decide) ?_
              exact ih y32 y34 y36 y38 x31 hq _ _ hP hD hS ls (lv_sub hl [2, 3, 4, 5, 6, 7, 0] rfl)
    · have hq := q_if_f hq c3
      refine lv_aload_n hx hb dL_sinks_9 rfl (lv_at hl 1 rfl) ?_
      refine lv_bipush (v := 8) hx hb dL_sinks_10 (by decide) ?_
      refine lv_iload hx hb dL_sinks_12 (lv_at hl 5 rfl) ?_
      refine lv_imul hx hb dL_sinks_14 ?_
      refine lv_iload hx hb dL_sinks_15 (lv_at hl 6 rfl) ?_
      refine lv_iadd hx hb dL_sinks_17 ?_
      refine lv_iconst (v := 1) hx hb dL_sinks_18 (by decide) ?_
      refine lv_isub hx hb dL_sinks_19 ?_
      obtain ⟨hh40, hq⟩ := q_gd hq
      refine va_iald hx hb K.1 hP 1 0 rfl rfl (vp_in_iff.mpr hh40) dL_sinks_20 ?_
      refine lv_aload_n hx hb dL_sinks_21 rfl (lv_at hl 1 rfl) ?_
      refine lv_bipush (v := 8) hx hb dL_sinks_22 (by decide) ?_
      refine lv_iload hx hb dL_sinks_24 (lv_at hl 5 rfl) ?_
      refine lv_imul hx hb dL_sinks_26 ?_
      refine lv_iload hx hb dL_sinks_27 (lv_at hl 6 rfl) ?_
      refine lv_iadd hx hb dL_sinks_29 ?_
      obtain ⟨hh41, hq⟩ := q_gd hq
      refine va_iald hx hb K.1 hP 1 0 rfl rfl (vp_in_iff.mpr hh41) dL_sinks_30 ?_
      refine lv_icmp_gt (tgt := 70) hx hb dL_sinks_31 (by decide) (fun c42 => ?_) (fun c42 => ?_)
      · have hq := q_if_t hq c42
        refine lv_iload hx hb dL_sinks_70 (lv_at hl 6 rfl) ?_
        refine lv_if_le (tgt := 107) hx hb dL_sinks_72 (by decide) (fun c43 => ?_) (fun c43 => ?_)
        · have hq := q_if_t hq c43
          refine lv_iload hx hb dL_sinks_107 (lv_at hl 6 rfl) ?_
          refine lv_iconst (v := 1) hx hb dL_sinks_109 (by decide) ?_
          refine lv_iadd hx hb dL_sinks_110 ?_
          refine lv_topi (fun x44 ex44 => ?_)
          have hq := q_let hq ex44
          refine lv_istore (lv' := [(8, .int x44), (0, .ref qn), (1, .ref qf), (2, .ref qv), (3, .ref qe), (4, .ref qw), (5, .int v1), (7, .int v2)]) hx hb dL_sinks_111 hl (by decide) rfl (fun ls hl => ?_)
          refine lv_aload_n hx hb dL_sinks_113 rfl (lv_at hl 2 rfl) ?_
          refine lv_bipush (v := 8) hx hb dL_sinks_114 (by decide) ?_
          refine lv_iload hx hb dL_sinks_116 (lv_at hl 6 rfl) ?_
          refine lv_imul hx hb dL_sinks_118 ?_
          refine lv_iload hx hb dL_sinks_119 (lv_at hl 7 rfl) ?_
          refine lv_iadd hx hb dL_sinks_121 ?_
          refine lv_bipush (v := 8) hx hb dL_sinks_122 (by decide) ?_
          refine lv_iload hx hb dL_sinks_124 (lv_at hl 6 rfl) ?_
          refine lv_imul hx hb dL_sinks_126 ?_
          refine lv_iload hx hb dL_sinks_127 (lv_at hl 0 rfl) ?_
          refine lv_iadd hx hb dL_sinks_129 ?_
          obtain ⟨y45, hh46, hq⟩ := q_bd hq
          refine rwS (wr := [(qn, .inl (g 0, 2, .inl an)), (qv, .inl (g 0, 16, .inl av)), (qe, .inl (g 0, 16, .inl ae)), (qw, .inl (g 0, 16, .inl aw))]) (As := [.ref qf, .int (((8 : Int32) * v1) + v2), .int (((8 : Int32) * v1) + x44)]) (rest := []) X K (k_L_swap l G g qf af (((8 : Int32) * v1) + v2) (((8 : Int32) * v1) + x44) _ hh46) hd_L_swap gL_sinks_L_swap hP hD hS hA [1] [0, 2, 3, 4] rfl rfl ⟨by decide, by decide, by decide⟩ hl.1 dL_sinks_130 rfl rfl ⟨Nat.le_of_ble_eq_true rfl, Nat.le_of_ble_eq_true rfl⟩ rfl (Nat.le_of_ble_eq_true rfl) ⟨Nat.zero_le _, Nat.zero_le _⟩ (fun H locs hP hD hS => ?_)
          have hP : va_P G vwCl [(qn, .inl (g 0, 2, .inl an)), (qf, .inl (g 0, 16, .inl y45)), (qv, .inl (g 0, 16, .inl av)), (qe, .inl (g 0, 16, .inl ae)), (qw, .inl (g 0, 16, .inl aw))] H := hP.sub [0, 4, 1, 2, 3] rfl
          have hD : va_D A [(qn, .inl (g 0, 2, .inl an)), (qf, .inl (g 0, 16, .inl y45)), (qv, .inl (g 0, 16, .inl av)), (qe, .inl (g 0, 16, .inl ae)), (qw, .inl (g 0, 16, .inl aw))] := hD.sub [0, 4, 1, 2, 3] (by decide) rfl
          refine lv_aload_n hx hb dL_sinks_133 rfl (lv_at hl 3 rfl) ?_
          refine lv_bipush (v := 8) hx hb dL_sinks_134 (by decide) ?_
          refine lv_iload hx hb dL_sinks_136 (lv_at hl 6 rfl) ?_
          refine lv_imul hx hb dL_sinks_138 ?_
          refine lv_iload hx hb dL_sinks_139 (lv_at hl 7 rfl) ?_
          refine lv_iadd hx hb dL_sinks_141 ?_
          refine lv_bipush (v := 8) hx hb dL_sinks_142 (by decide) ?_
          refine lv_iload hx hb dL_sinks_144 (lv_at hl 6 rfl) ?_
          refine lv_imul hx hb dL_sinks_146 ?_
          refine lv_iload hx hb dL_sinks_147 (lv_at hl 0 rfl) ?_
          refine lv_iadd hx hb dL_sinks_149 ?_
          obtain ⟨y47, hh48, hq⟩ := q_bd hq
          refine rwS (wr := [(qn, .inl (g 0, 2, .inl an)), (qf, .inl (g 0, 16, .inl y45)), (qe, .inl (g 0, 16, .inl ae)), (qw, .inl (g 0, 16, .inl aw))]) (As := [.ref qv, .int (((8 : Int32) * v1) + v2), .int (((8 : Int32) * v1) + x44)]) (rest := []) X K (k_L_swap l G g qv av (((8 : Int32) * v1) + v2) (((8 : Int32) * v1) + x44) _ hh48) hd_L_swap gL_sinks_L_swap hP hD hS hA [2] [0, 1, 3, 4] rfl rfl ⟨by decide, by decide, by decide⟩ hl.1 dL_sinks_150 rfl rfl ⟨Nat.le_of_ble_eq_true rfl, Nat.le_of_ble_eq_true rfl⟩ rfl (Nat.le_of_ble_eq_true rfl) ⟨Nat.zero_le _, Nat.zero_le _⟩ (fun H locs hP hD hS => ?_)
          have hP : va_P G vwCl [(qn, .inl (g 0, 2, .inl an)), (qf, .inl (g 0, 16, .inl y45)), (qv, .inl (g 0, 16, .inl y47)), (qe, .inl (g 0, 16, .inl ae)), (qw, .inl (g 0, 16, .inl aw))] H := hP.sub [0, 1, 4, 2, 3] rfl
          have hD : va_D A [(qn, .inl (g 0, 2, .inl an)), (qf, .inl (g 0, 16, .inl y45)), (qv, .inl (g 0, 16, .inl y47)), (qe, .inl (g 0, 16, .inl ae)), (qw, .inl (g 0, 16, .inl aw))] := hD.sub [0, 1, 4, 2, 3] (by decide) rfl
          refine lv_aload_n hx hb dL_sinks_153 rfl (lv_at hl 4 rfl) ?_
          refine lv_bipush (v := 8) hx hb dL_sinks_154 (by decide) ?_
          refine lv_iload hx hb dL_sinks_156 (lv_at hl 6 rfl) ?_
          refine lv_imul hx hb dL_sinks_158 ?_
          refine lv_iload hx hb dL_sinks_159 (lv_at hl 7 rfl) ?_
          refine lv_iadd hx hb dL_sinks_161 ?_
          refine lv_bipush (v := 8) hx hb dL_sinks_162 (by decide) ?_
          refine lv_iload hx hb dL_sinks_164 (lv_at hl 6 rfl) ?_
          refine lv_imul hx hb dL_sinks_166 ?_
          refine lv_iload hx hb dL_sinks_167 (lv_at hl 0 rfl) ?_
          refine lv_iadd hx hb dL_sinks_169 ?_
          obtain ⟨y49, hh50, hq⟩ := q_bd hq
          refine rwS (wr := [(qn, .inl (g 0, 2, .inl an)), (qf, .inl (g 0, 16, .inl y45)), (qv, .inl (g 0, 16, .inl y47)), (qw, .inl (g 0, 16, .inl aw))]) (As := [.ref qe, .int (((8 : Int32) * v1) + v2), .int (((8 : Int32) * v1) + x44)]) (rest := []) X K (k_L_swap l G g qe ae (((8 : Int32) * v1) + v2) (((8 : Int32) * v1) + x44) _ hh50) hd_L_swap gL_sinks_L_swap hP hD hS hA [3] [0, 1, 2, 4] rfl rfl ⟨by decide, by decide, by decide⟩ hl.1 dL_sinks_170 rfl rfl ⟨Nat.le_of_ble_eq_true rfl, Nat.le_of_ble_eq_true rfl⟩ rfl (Nat.le_of_ble_eq_true rfl) ⟨Nat.zero_le _, Nat.zero_le _⟩ (fun H locs hP hD hS => ?_)
          have hP : va_P G vwCl [(qn, .inl (g 0, 2, .inl an)), (qf, .inl (g 0, 16, .inl y45)), (qv, .inl (g 0, 16, .inl y47)), (qe, .inl (g 0, 16, .inl y49)), (qw, .inl (g 0, 16, .inl aw))] H := hP.sub [0, 1, 2, 4, 3] rfl
          have hD : va_D A [(qn, .inl (g 0, 2, .inl an)), (qf, .inl (g 0, 16, .inl y45)), (qv, .inl (g 0, 16, .inl y47)), (qe, .inl (g 0, 16, .inl y49)), (qw, .inl (g 0, 16, .inl aw))] := hD.sub [0, 1, 2, 4, 3] (by decide) rfl
          refine lv_aload hx hb dL_sinks_173 (lv_at hl 5 rfl) ?_
          refine lv_bipush (v := 8) hx hb dL_sinks_175 (by decide) ?_
          refine lv_iload hx hb dL_sinks_177 (lv_at hl 6 rfl) ?_
          refine lv_imul hx hb dL_sinks_179 ?_
          refine lv_iload hx hb dL_sinks_180 (lv_at hl 7 rfl) ?_
          refine lv_iadd hx hb dL_sinks_182 ?_
          refine lv_bipush (v := 8) hx hb dL_sinks_183 (by decide) ?_
          refine lv_iload hx hb dL_sinks_185 (lv_at hl 6 rfl) ?_
          refine lv_imul hx hb dL_sinks_187 ?_
          refine lv_iload hx hb dL_sinks_188 (lv_at hl 0 rfl) ?_
          refine lv_iadd hx hb dL_sinks_190 ?_
          obtain ⟨y51, hh52, hq⟩ := q_bd hq
          refine rwS (wr := [(qn, .inl (g 0, 2, .inl an)), (qf, .inl (g 0, 16, .inl y45)), (qv, .inl (g 0, 16, .inl y47)), (qe, .inl (g 0, 16, .inl y49))]) (As := [.ref qw, .int (((8 : Int32) * v1) + v2), .int (((8 : Int32) * v1) + x44)]) (rest := []) X K (k_L_swap l G g qw aw (((8 : Int32) * v1) + v2) (((8 : Int32) * v1) + x44) _ hh52) hd_L_swap gL_sinks_L_swap hP hD hS hA [4] [0, 1, 2, 3] rfl rfl ⟨by decide, by decide, by decide⟩ hl.1 dL_sinks_191 rfl rfl ⟨Nat.le_of_ble_eq_true rfl, Nat.le_of_ble_eq_true rfl⟩ rfl (Nat.le_of_ble_eq_true rfl) ⟨Nat.zero_le _, Nat.zero_le _⟩ (fun H locs hP hD hS => ?_)
          have hP : va_P G vwCl [(qn, .inl (g 0, 2, .inl an)), (qf, .inl (g 0, 16, .inl y45)), (qv, .inl (g 0, 16, .inl y47)), (qe, .inl (g 0, 16, .inl y49)), (qw, .inl (g 0, 16, .inl y51))] H := hP
          have hD : va_D A [(qn, .inl (g 0, 2, .inl an)), (qf, .inl (g 0, 16, .inl y45)), (qv, .inl (g 0, 16, .inl y47)), (qe, .inl (g 0, 16, .inl y49)), (qw, .inl (g 0, 16, .inl y51))] := hD
          refine lv_iload hx hb dL_sinks_194 (lv_at hl 0 rfl) ?_
          refine lv_istore (lv' := [(7, .int x44), (8, .int x44), (0, .ref qn), (1, .ref qf), (2, .ref qv), (3, .ref qe), (4, .ref qw), (5, .int v1)]) hx hb dL_sinks_196 hl (by decide) rfl (fun ls hl => ?_)
          refine lv_goto (tgt := 4) hx hb dL_sinks_198 (by decide) ?_
          exact ih y45 y47 y49 y51 x44 hq _ _ hP hD hS ls (lv_sub hl [2, 3, 4, 5, 6, 7, 0] rfl)
        · have hq := q_if_f hq c43
          refine lv_aload_n hx hb dL_sinks_75 rfl (lv_at hl 1 rfl) ?_
          refine lv_bipush (v := 8) hx hb dL_sinks_76 (by decide) ?_
          refine lv_iload hx hb dL_sinks_78 (lv_at hl 5 rfl) ?_
          refine lv_imul hx hb dL_sinks_80 ?_
          refine lv_iload hx hb dL_sinks_81 (lv_at hl 6 rfl) ?_
          refine lv_iadd hx hb dL_sinks_83 ?_
          refine lv_iconst (v := 1) hx hb dL_sinks_84 (by decide) ?_
          refine lv_isub hx hb dL_sinks_85 ?_
          obtain ⟨hh53, hq⟩ := q_gd hq
          refine va_iald hx hb K.1 hP 1 0 rfl rfl (vp_in_iff.mpr hh53) dL_sinks_86 ?_
          refine lv_aload_n hx hb dL_sinks_87 rfl (lv_at hl 1 rfl) ?_
          refine lv_bipush (v := 8) hx hb dL_sinks_88 (by decide) ?_
          refine lv_iload hx hb dL_sinks_90 (lv_at hl 5 rfl) ?_
          refine lv_imul hx hb dL_sinks_92 ?_
          refine lv_iload hx hb dL_sinks_93 (lv_at hl 6 rfl) ?_
          refine lv_iadd hx hb dL_sinks_95 ?_
          obtain ⟨hh54, hq⟩ := q_gd hq
          refine va_iald hx hb K.1 hP 1 0 rfl rfl (vp_in_iff.mpr hh54) dL_sinks_96 ?_
          refine lv_icmp_le (tgt := 107) hx hb dL_sinks_97 (by decide) (fun c55 => ?_) (fun c55 => ?_)
          · have hq := q_if_t hq c55
            refine lv_iload hx hb dL_sinks_107 (lv_at hl 6 rfl) ?_
            refine lv_iconst (v := 1) hx hb dL_sinks_109 (by decide) ?_
            refine lv_iadd hx hb dL_sinks_110 ?_
            refine lv_topi (fun x56 ex56 => ?_)
            have hq := q_let hq ex56
            refine lv_istore (lv' := [(8, .int x56), (0, .ref qn), (1, .ref qf), (2, .ref qv), (3, .ref qe), (4, .ref qw), (5, .int v1), (7, .int v2)]) hx hb dL_sinks_111 hl (by decide) rfl (fun ls hl => ?_)
            refine lv_aload_n hx hb dL_sinks_113 rfl (lv_at hl 2 rfl) ?_
            refine lv_bipush (v := 8) hx hb dL_sinks_114 (by decide) ?_
            refine lv_iload hx hb dL_sinks_116 (lv_at hl 6 rfl) ?_
            refine lv_imul hx hb dL_sinks_118 ?_
            refine lv_iload hx hb dL_sinks_119 (lv_at hl 7 rfl) ?_
            refine lv_iadd hx hb dL_sinks_121 ?_
            refine lv_bipush (v := 8) hx hb dL_sinks_122 (by decide) ?_
            refine lv_iload hx hb dL_sinks_124 (lv_at hl 6 rfl) ?_
            refine lv_imul hx hb dL_sinks_126 ?_
            refine lv_iload hx hb dL_sinks_127 (lv_at hl 0 rfl) ?_
            refine lv_iadd hx hb dL_sinks_129 ?_
            obtain ⟨y57, hh58, hq⟩ := q_bd hq
            refine rwS (wr := [(qn, .inl (g 0, 2, .inl an)), (qv, .inl (g 0, 16, .inl av)), (qe, .inl (g 0, 16, .inl ae)), (qw, .inl (g 0, 16, .inl aw))]) (As := [.ref qf, .int (((8 : Int32) * v1) + v2), .int (((8 : Int32) * v1) + x56)]) (rest := []) X K (k_L_swap l G g qf af (((8 : Int32) * v1) + v2) (((8 : Int32) * v1) + x56) _ hh58) hd_L_swap gL_sinks_L_swap hP hD hS hA [1] [0, 2, 3, 4] rfl rfl ⟨by decide, by decide, by decide⟩ hl.1 dL_sinks_130 rfl rfl ⟨Nat.le_of_ble_eq_true rfl, Nat.le_of_ble_eq_true rfl⟩ rfl (Nat.le_of_ble_eq_true rfl) ⟨Nat.zero_le _, Nat.zero_le _⟩ (fun H locs hP hD hS => ?_)
            have hP : va_P G vwCl [(qn, .inl (g 0, 2, .inl an)), (qf, .inl (g 0, 16, .inl y57)), (qv, .inl (g 0, 16, .inl av)), (qe, .inl (g 0, 16, .inl ae)), (qw, .inl (g 0, 16, .inl aw))] H := hP.sub [0, 4, 1, 2, 3] rfl
            have hD : va_D A [(qn, .inl (g 0, 2, .inl an)), (qf, .inl (g 0, 16, .inl y57)), (qv, .inl (g 0, 16, .inl av)), (qe, .inl (g 0, 16, .inl ae)), (qw, .inl (g 0, 16, .inl aw))] := hD.sub [0, 4, 1, 2, 3] (by decide) rfl
            refine lv_aload_n hx hb dL_sinks_133 rfl (lv_at hl 3 rfl) ?_
            refine lv_bipush (v := 8) hx hb dL_sinks_134 (by decide) ?_
            refine lv_iload hx hb dL_sinks_136 (lv_at hl 6 rfl) ?_
            refine lv_imul hx hb dL_sinks_138 ?_
            refine lv_iload hx hb dL_sinks_139 (lv_at hl 7 rfl) ?_
            refine lv_iadd hx hb dL_sinks_141 ?_
            refine lv_bipush (v := 8) hx hb dL_sinks_142 (by decide) ?_
            refine lv_iload hx hb dL_sinks_144 (lv_at hl 6 rfl) ?_
            refine lv_imul hx hb dL_sinks_146 ?_
            refine lv_iload hx hb dL_sinks_147 (lv_at hl 0 rfl) ?_
            refine lv_iadd hx hb dL_sinks_149 ?_
            obtain ⟨y59, hh60, hq⟩ := q_bd hq
            refine rwS (wr := [(qn, .inl (g 0, 2, .inl an)), (qf, .inl (g 0, 16, .inl y57)), (qe, .inl (g 0, 16, .inl ae)), (qw, .inl (g 0, 16, .inl aw))]) (As := [.ref qv, .int (((8 : Int32) * v1) + v2), .int (((8 : Int32) * v1) + x56)]) (rest := []) X K (k_L_swap l G g qv av (((8 : Int32) * v1) + v2) (((8 : Int32) * v1) + x56) _ hh60) hd_L_swap gL_sinks_L_swap hP hD hS hA [2] [0, 1, 3, 4] rfl rfl ⟨by decide, by decide, by decide⟩ hl.1 dL_sinks_150 rfl rfl ⟨Nat.le_of_ble_eq_true rfl, Nat.le_of_ble_eq_true rfl⟩ rfl (Nat.le_of_ble_eq_true rfl) ⟨Nat.zero_le _, Nat.zero_le _⟩ (fun H locs hP hD hS => ?_)
            have hP : va_P G vwCl [(qn, .inl (g 0, 2, .inl an)), (qf, .inl (g 0, 16, .inl y57)), (qv, .inl (g 0, 16, .inl y59)), (qe, .inl (g 0, 16, .inl ae)), (qw, .inl (g 0, 16, .inl aw))] H := hP.sub [0, 1, 4, 2, 3] rfl
            have hD : va_D A [(qn, .inl (g 0, 2, .inl an)), (qf, .inl (g 0, 16, .inl y57)), (qv, .inl (g 0, 16, .inl y59)), (qe, .inl (g 0, 16, .inl ae)), (qw, .inl (g 0, 16, .inl aw))] := hD.sub [0, 1, 4, 2, 3] (by decide) rfl
            refine lv_aload_n hx hb dL_sinks_153 rfl (lv_at hl 4 rfl) ?_
            refine lv_bipush (v := 8) hx hb dL_sinks_154 (by decide) ?_
            refine lv_iload hx hb dL_sinks_156 (lv_at hl 6 rfl) ?_
            refine lv_imul hx hb dL_sinks_158 ?_
            refine lv_iload hx hb dL_sinks_159 (lv_at hl 7 rfl) ?_
            refine lv_iadd hx hb dL_sinks_161 ?_
            refine lv_bipush (v := 8) hx hb dL_sinks_162 (by decide) ?_
            refine lv_iload hx hb dL_sinks_164 (lv_at hl 6 rfl) ?_
            refine lv_imul hx hb dL_sinks_166 ?_
            refine lv_iload hx hb dL_sinks_167 (lv_at hl 0 rfl) ?_
            refine lv_iadd hx hb dL_sinks_169 ?_
            obtain ⟨y61, hh62, hq⟩ := q_bd hq
            refine rwS (wr := [(qn, .inl (g 0, 2, .inl an)), (qf, .inl (g 0, 16, .inl y57)), (qv, .inl (g 0, 16, .inl y59)), (qw, .inl (g 0, 16, .inl aw))]) (As := [.ref qe, .int (((8 : Int32) * v1) + v2), .int (((8 : Int32) * v1) + x56)]) (rest := []) X K (k_L_swap l G g qe ae (((8 : Int32) * v1) + v2) (((8 : Int32) * v1) + x56) _ hh62) hd_L_swap gL_sinks_L_swap hP hD hS hA [3] [0, 1, 2, 4] rfl rfl ⟨by decide, by decide, by decide⟩ hl.1 dL_sinks_170 rfl rfl ⟨Nat.le_of_ble_eq_true rfl, Nat.le_of_ble_eq_true rfl⟩ rfl (Nat.le_of_ble_eq_true rfl) ⟨Nat.zero_le _, Nat.zero_le _⟩ (fun H locs hP hD hS => ?_)
            have hP : va_P G vwCl [(qn, .inl (g 0, 2, .inl an)), (qf, .inl (g 0, 16, .inl y57)), (qv, .inl (g 0, 16, .inl y59)), (qe, .inl (g 0, 16, .inl y61)), (qw, .inl (g 0, 16, .inl aw))] H := hP.sub [0, 1, 2, 4, 3] rfl
            have hD : va_D A [(qn, .inl (g 0, 2, .inl an)), (qf, .inl (g 0, 16, .inl y57)), (qv, .inl (g 0, 16, .inl y59)), (qe, .inl (g 0, 16, .inl y61)), (qw, .inl (g 0, 16, .inl aw))] := hD.sub [0, 1, 2, 4, 3] (by decide) rfl
            refine lv_aload hx hb dL_sinks_173 (lv_at hl 5 rfl) ?_
            refine lv_bipush (v := 8) hx hb dL_sinks_175 (by decide) ?_
            refine lv_iload hx hb dL_sinks_177 (lv_at hl 6 rfl) ?_
            refine lv_imul hx hb dL_sinks_179 ?_
            refine lv_iload hx hb dL_sinks_180 (lv_at hl 7 rfl) ?_
            refine lv_iadd hx hb dL_sinks_182 ?_
            refine lv_bipush (v := 8) hx hb dL_sinks_183 (by decide) ?_
            refine lv_iload hx hb dL_sinks_185 (lv_at hl 6 rfl) ?_
            refine lv_imul hx hb dL_sinks_187 ?_
            refine lv_iload hx hb dL_sinks_188 (lv_at hl 0 rfl) ?_
            refine lv_iadd hx hb dL_sinks_190 ?_
            obtain ⟨y63, hh64, hq⟩ := q_bd hq
            refine rwS (wr := [(qn, .inl (g 0, 2, .inl an)), (qf, .inl (g 0, 16, .inl y57)), (qv, .inl (g 0, 16, .inl y59)), (qe, .inl (g 0, 16, .inl y61))]) (As := [.ref qw, .int (((8 : Int32) * v1) + v2), .int (((8 : Int32) * v1) + x56)]) (rest := []) X K (k_L_swap l G g qw aw (((8 : Int32) * v1) + v2) (((8 : Int32) * v1) + x56) _ hh64) hd_L_swap gL_sinks_L_swap hP hD hS hA [4] [0, 1, 2, 3] rfl rfl ⟨by decide, by decide, by decide⟩ hl.1 dL_sinks_191 rfl rfl ⟨Nat.le_of_ble_eq_true rfl, Nat.le_of_ble_eq_true rfl⟩ rfl (Nat.le_of_ble_eq_true rfl) ⟨Nat.zero_le _, Nat.zero_le _⟩ (fun H locs hP hD hS => ?_)
            have hP : va_P G vwCl [(qn, .inl (g 0, 2, .inl an)), (qf, .inl (g 0, 16, .inl y57)), (qv, .inl (g 0, 16, .inl y59)), (qe, .inl (g 0, 16, .inl y61)), (qw, .inl (g 0, 16, .inl y63))] H := hP
            have hD : va_D A [(qn, .inl (g 0, 2, .inl an)), (qf, .inl (g 0, 16, .inl y57)), (qv, .inl (g 0, 16, .inl y59)), (qe, .inl (g 0, 16, .inl y61)), (qw, .inl (g 0, 16, .inl y63))] := hD
            refine lv_iload hx hb dL_sinks_194 (lv_at hl 0 rfl) ?_
            refine lv_istore (lv' := [(7, .int x56), (8, .int x56), (0, .ref qn), (1, .ref qf), (2, .ref qv), (3, .ref qe), (4, .ref qw), (5, .int v1)]) hx hb dL_sinks_196 hl (by decide) rfl (fun ls hl => ?_)
            refine lv_goto (tgt := 4) hx hb dL_sinks_198 (by decide) ?_
            exact ih y57 y59 y61 y63 x56 hq _ _ hP hD hS ls (lv_sub hl [2, 3, 4, 5, 6, 7, 0] rfl)
          · have hq := q_if_f hq c55
            refine lv_iload hx hb dL_sinks_100 (lv_at hl 6 rfl) ?_
            refine lv_iconst (v := 1) hx hb dL_sinks_102 (by decide) ?_
            refine lv_isub hx hb dL_sinks_103 ?_
            refine lv_goto (tgt := 111) hx hb dL_sinks_104 (by decide) ?_
            refine lv_topi (fun x65 ex65 => ?_)
            have hq := q_let hq ex65
            refine lv_istore (lv' := [(8, .int x65), (0, .ref qn), (1, .ref qf), (2, .ref qv), (3, .ref qe), (4, .ref qw), (5, .int v1), (7, .int v2)]) hx hb dL_sinks_111 hl (by decide) rfl (fun ls hl => ?_)
            refine lv_aload_n hx hb dL_sinks_113 rfl (lv_at hl 2 rfl) ?_
            refine lv_bipush (v := 8) hx hb dL_sinks_114 (by decide) ?_
            refine lv_iload hx hb dL_sinks_116 (lv_at hl 6 rfl) ?_
            refine lv_imul hx hb dL_sinks_118 ?_
            refine lv_iload hx hb dL_sinks_119 (lv_at hl 7 rfl) ?_
            refine lv_iadd hx hb dL_sinks_121 ?_
            refine lv_bipush (v := 8) hx hb dL_sinks_122 (by decide) ?_
            refine lv_iload hx hb dL_sinks_124 (lv_at hl 6 rfl) ?_
            refine lv_imul hx hb dL_sinks_126 ?_
            refine lv_iload hx hb dL_sinks_127 (lv_at hl 0 rfl) ?_
            refine lv_iadd hx hb dL_sinks_129 ?_
            obtain ⟨y66, hh67, hq⟩ := q_bd hq
            refine rwS (wr := [(qn, .inl (g 0, 2, .inl an)), (qv, .inl (g 0, 16, .inl av)), (qe, .inl (g 0, 16, .inl ae)), (qw, .inl (g 0, 16, .inl aw))]) (As := [.ref qf, .int (((8 : Int32) * v1) + v2), .int (((8 : Int32) * v1) + x65)]) (rest := []) X K (k_L_swap l G g qf af (((8 : Int32) * v1) + v2) (((8 : Int32) * v1) + x65) _ hh67) hd_L_swap gL_sinks_L_swap hP hD hS hA [1] [0, 2, 3, 4] rfl rfl ⟨by decide, by decide, by decide⟩ hl.1 dL_sinks_130 rfl rfl ⟨Nat.le_of_ble_eq_true rfl, Nat.le_of_ble_eq_true rfl⟩ rfl (Nat.le_of_ble_eq_true rfl) ⟨Nat.zero_le _, Nat.zero_le _⟩ (fun H locs hP hD hS => ?_)
            have hP : va_P G vwCl [(qn, .inl (g 0, 2, .inl an)), (qf, .inl (g 0, 16, .inl y66)), (qv, .inl (g 0, 16, .inl av)), (qe, .inl (g 0, 16, .inl ae)), (qw, .inl (g 0, 16, .inl aw))] H := hP.sub [0, 4, 1, 2, 3] rfl
            have hD : va_D A [(qn, .inl (g 0, 2, .inl an)), (qf, .inl (g 0, 16, .inl y66)), (qv, .inl (g 0, 16, .inl av)), (qe, .inl (g 0, 16, .inl ae)), (qw, .inl (g 0, 16, .inl aw))] := hD.sub [0, 4, 1, 2, 3] (by decide) rfl
            refine lv_aload_n hx hb dL_sinks_133 rfl (lv_at hl 3 rfl) ?_
            refine lv_bipush (v := 8) hx hb dL_sinks_134 (by decide) ?_
            refine lv_iload hx hb dL_sinks_136 (lv_at hl 6 rfl) ?_
            refine lv_imul hx hb dL_sinks_138 ?_
            refine lv_iload hx hb dL_sinks_139 (lv_at hl 7 rfl) ?_
            refine lv_iadd hx hb dL_sinks_141 ?_
            refine lv_bipush (v := 8) hx hb dL_sinks_142 (by decide) ?_
            refine lv_iload hx hb dL_sinks_144 (lv_at hl 6 rfl) ?_
            refine lv_imul hx hb dL_sinks_146 ?_
            refine lv_iload hx hb dL_sinks_147 (lv_at hl 0 rfl) ?_
            refine lv_iadd hx hb dL_sinks_149 ?_
            obtain ⟨y68, hh69, hq⟩ := q_bd hq
            refine rwS (wr := [(qn, .inl (g 0, 2, .inl an)), (qf, .inl (g 0, 16, .inl y66)), (qe, .inl (g 0, 16, .inl ae)), (qw, .inl (g 0, 16, .inl aw))]) (As := [.ref qv, .int (((8 : Int32) * v1) + v2), .int (((8 : Int32) * v1) + x65)]) (rest := []) X K (k_L_swap l G g qv av (((8 : Int32) * v1) + v2) (((8 : Int32) * v1) + x65) _ hh69) hd_L_swap gL_sinks_L_swap hP hD hS hA [2] [0, 1, 3, 4] rfl rfl ⟨by decide, by decide, by decide⟩ hl.1 dL_sinks_150 rfl rfl ⟨Nat.le_of_ble_eq_true rfl, Nat.le_of_ble_eq_true rfl⟩ rfl (Nat.le_of_ble_eq_true rfl) ⟨Nat.zero_le _, Nat.zero_le _⟩ (fun H locs hP hD hS => ?_)
            have hP : va_P G vwCl [(qn, .inl (g 0, 2, .inl an)), (qf, .inl (g 0, 16, .inl y66)), (qv, .inl (g 0, 16, .inl y68)), (qe, .inl (g 0, 16, .inl ae)), (qw, .inl (g 0, 16, .inl aw))] H := hP.sub [0, 1, 4, 2, 3] rfl
            have hD : va_D A [(qn, .inl (g 0, 2, .inl an)), (qf, .inl (g 0, 16, .inl y66)), (qv, .inl (g 0, 16, .inl y68)), (qe, .inl (g 0, 16, .inl ae)), (qw, .inl (g 0, 16, .inl aw))] := hD.sub [0, 1, 4, 2, 3] (by decide) rfl
            refine lv_aload_n hx hb dL_sinks_153 rfl (lv_at hl 4 rfl) ?_
            refine lv_bipush (v := 8) hx hb dL_sinks_154 (by decide) ?_
            refine lv_iload hx hb dL_sinks_156 (lv_at hl 6 rfl) ?_
            refine lv_imul hx hb dL_sinks_158 ?_
            refine lv_iload hx hb dL_sinks_159 (lv_at hl 7 rfl) ?_
            refine lv_iadd hx hb dL_sinks_161 ?_
            refine lv_bipush (v := 8) hx hb dL_sinks_162 (by decide) ?_
            refine lv_iload hx hb dL_sinks_164 (lv_at hl 6 rfl) ?_
            refine lv_imul hx hb dL_sinks_166 ?_
            refine lv_iload hx hb dL_sinks_167 (lv_at hl 0 rfl) ?_
            refine lv_iadd hx hb dL_sinks_169 ?_
            obtain ⟨y70, hh71, hq⟩ := q_bd hq
            refine rwS (wr := [(qn, .inl (g 0, 2, .inl an)), (qf, .inl (g 0, 16, .inl y66)), (qv, .inl (g 0, 16, .inl y68)), (qw, .inl (g 0, 16, .inl aw))]) (As := [.ref qe, .int (((8 : Int32) * v1) + v2), .int (((8 : Int32) * v1) + x65)]) (rest := []) X K (k_L_swap l G g qe ae (((8 : Int32) * v1) + v2) (((8 : Int32) * v1) + x65) _ hh71) hd_L_swap gL_sinks_L_swap hP hD hS hA [3] [0, 1, 2, 4] rfl rfl ⟨by decide, by decide, by decide⟩ hl.1 dL_sinks_170 rfl rfl ⟨Nat.le_of_ble_eq_true rfl, Nat.le_of_ble_eq_true rfl⟩ rfl (Nat.le_of_ble_eq_true rfl) ⟨Nat.zero_le _, Nat.zero_le _⟩ (fun H locs hP hD hS => ?_)
            have hP : va_P G vwCl [(qn, .inl (g 0, 2, .inl an)), (qf, .inl (g 0, 16, .inl y66)), (qv, .inl (g 0, 16, .inl y68)), (qe, .inl (g 0, 16, .inl y70)), (qw, .inl (g 0, 16, .inl aw))] H := hP.sub [0, 1, 2, 4, 3] rfl
            have hD : va_D A [(qn, .inl (g 0, 2, .inl an)), (qf, .inl (g 0, 16, .inl y66)), (qv, .inl (g 0, 16, .inl y68)), (qe, .inl (g 0, 16, .inl y70)), (qw, .inl (g 0, 16, .inl aw))] := hD.sub [0, 1, 2, 4, 3] (by decide) rfl
            refine lv_aload hx hb dL_sinks_173 (lv_at hl 5 rfl) ?_
            refine lv_bipush (v := 8) hx hb dL_sinks_175 (by decide) ?_
            refine lv_iload hx hb dL_sinks_177 (lv_at hl 6 rfl) ?_
            refine lv_imul hx hb dL_sinks_179 ?_
            refine lv_iload hx hb dL_sinks_180 (lv_at hl 7 rfl) ?_
            refine lv_iadd hx hb dL_sinks_182 ?_
            refine lv_bipush (v := 8) hx hb dL_sinks_183 (by decide) ?_
            refine lv_iload hx hb dL_sinks_185 (lv_at hl 6 rfl) ?_
            refine lv_imul hx hb dL_sinks_187 ?_
            refine lv_iload hx hb dL_sinks_188 (lv_at hl 0 rfl) ?_
            refine lv_iadd hx hb dL_sinks_190 ?_
            obtain ⟨y72, hh73, hq⟩ := q_bd hq
            refine rwS (wr := [(qn, .inl (g 0, 2, .inl an)), (qf, .inl (g 0, 16, .inl y66)), (qv, .inl (g 0, 16, .inl y68)), (qe, .inl (g 0, 16, .inl y70))]) (As := [.ref qw, .int (((8 : Int32) * v1) + v2), .int (((8 : Int32) * v1) + x65)]) (rest := []) X K (k_L_swap l G g qw aw (((8 : Int32) * v1) + v2) (((8 : Int32) * v1) + x65) _ hh73) hd_L_swap gL_sinks_L_swap hP hD hS hA [4] [0, 1, 2, 3] rfl rfl ⟨by decide, by decide, by decide⟩ hl.1 dL_sinks_191 rfl rfl ⟨Nat.le_of_ble_eq_true rfl, Nat.le_of_ble_eq_true rfl⟩ rfl (Nat.le_of_ble_eq_true rfl) ⟨Nat.zero_le _, Nat.zero_le _⟩ (fun H locs hP hD hS => ?_)
            have hP : va_P G vwCl [(qn, .inl (g 0, 2, .inl an)), (qf, .inl (g 0, 16, .inl y66)), (qv, .inl (g 0, 16, .inl y68)), (qe, .inl (g 0, 16, .inl y70)), (qw, .inl (g 0, 16, .inl y72))] H := hP
            have hD : va_D A [(qn, .inl (g 0, 2, .inl an)), (qf, .inl (g 0, 16, .inl y66)), (qv, .inl (g 0, 16, .inl y68)), (qe, .inl (g 0, 16, .inl y70)), (qw, .inl (g 0, 16, .inl y72))] := hD
            refine lv_iload hx hb dL_sinks_194 (lv_at hl 0 rfl) ?_
            refine lv_istore (lv' := [(7, .int x65), (8, .int x65), (0, .ref qn), (1, .ref qf), (2, .ref qv), (3, .ref qe), (4, .ref qw), (5, .int v1)]) hx hb dL_sinks_196 hl (by decide) rfl (fun ls hl => ?_)
            refine lv_goto (tgt := 4) hx hb dL_sinks_198 (by decide) ?_
            exact ih y66 y68 y70 y72 x65 hq _ _ hP hD hS ls (lv_sub hl [2, 3, 4, 5, 6, 7, 0] rfl)
      · have hq := q_if_f hq c42
        refine lv_iload hx hb dL_sinks_34 (lv_at hl 6 rfl) ?_
        refine lv_iconst (v := 1) hx hb dL_sinks_36 (by decide) ?_
        refine lv_iadd hx hb dL_sinks_37 ?_
        refine lv_aload_n hx hb dL_sinks_38 rfl (lv_at hl 0 rfl) ?_
        refine lv_iload hx hb dL_sinks_39 (lv_at hl 5 rfl) ?_
        obtain ⟨hh74, hq⟩ := q_gd hq
        refine va_iald hx hb K.1 hP 0 0 rfl rfl (vp_in_iff.mpr hh74) dL_sinks_41 ?_
        refine lv_icmp_ge (tgt := 201) hx hb dL_sinks_42 (by decide) (fun c75 => ?_) (fun c75 => ?_)
        · have hq := q_if_t hq c75
          refine lv_iload hx hb dL_sinks_201 (lv_at hl 6 rfl) ?_
          obtain rfl := q_rt hq
          exact rw_iret hx hb hr hk hP hD hS dL_sinks_203
        · have hq := q_if_f hq c75
          refine lv_aload_n hx hb dL_sinks_45 rfl (lv_at hl 1 rfl) ?_
          refine lv_bipush (v := 8) hx hb dL_sinks_46 (by decide) ?_
          refine lv_iload hx hb dL_sinks_48 (lv_at hl 5 rfl) ?_
          refine lv_imul hx hb dL_sinks_50 ?_
          refine lv_iload hx hb dL_sinks_51 (lv_at hl 6 rfl) ?_
          refine lv_iadd hx hb dL_sinks_53 ?_
          refine lv_iconst (v := 1) hx hb dL_sinks_54 (by decide) ?_
          refine lv_iadd hx hb dL_sinks_55 ?_
          obtain ⟨hh76, hq⟩ := q_gd hq
          refine va_iald hx hb K.1 hP 1 0 rfl rfl (vp_in_iff.mpr hh76) dL_sinks_56 ?_
          refine lv_aload_n hx hb dL_sinks_57 rfl (lv_at hl 1 rfl) ?_
          refine lv_bipush (v := 8) hx hb dL_sinks_58 (by decide) ?_
          refine lv_iload hx hb dL_sinks_60 (lv_at hl 5 rfl) ?_
          refine lv_imul hx hb dL_sinks_62 ?_
          refine lv_iload hx hb dL_sinks_63 (lv_at hl 6 rfl) ?_
          refine lv_iadd hx hb dL_sinks_65 ?_
          obtain ⟨hh77, hq⟩ := q_gd hq
          refine va_iald hx hb K.1 hP 1 0 rfl rfl (vp_in_iff.mpr hh77) dL_sinks_66 ?_
          refine lv_icmp_ge (tgt := 201) hx hb dL_sinks_67 (by decide) (fun c78 => ?_) (fun c78 => ?_)
          · have hq := q_if_t hq c78
            refine lv_iload hx hb dL_sinks_201 (lv_at hl 6 rfl) ?_
            obtain rfl := q_rt hq
            exact rw_iret hx hb hr hk hP hD hS dL_sinks_203
          · have hq := q_if_f hq c78
            refine lv_iload hx hb dL_sinks_70 (lv_at hl 6 rfl) ?_
            refine lv_if_le (tgt := 107) hx hb dL_sinks_72 (by decide) (fun c79 => ?_) (fun c79 => ?_)
            · have hq := q_if_t hq c79
              refine lv_iload hx hb dL_sinks_107 (lv_at hl 6 rfl) ?_
              refine lv_iconst (v := 1) hx hb dL_sinks_109 (by decide) ?_
              refine lv_iadd hx hb dL_sinks_110 ?_
              refine lv_topi (fun x80 ex80 => ?_)
              have hq := q_let hq ex80
              refine lv_istore (lv' := [(8, .int x80), (0, .ref qn), (1, .ref qf), (2, .ref qv), (3, .ref qe), (4, .ref qw), (5, .int v1), (7, .int v2)]) hx hb dL_sinks_111 hl (by decide) rfl (fun ls hl => ?_)
              refine lv_aload_n hx hb dL_sinks_113 rfl (lv_at hl 2 rfl) ?_
              refine lv_bipush (v := 8) hx hb dL_sinks_114 (by decide) ?_
              refine lv_iload hx hb dL_sinks_116 (lv_at hl 6 rfl) ?_
              refine lv_imul hx hb dL_sinks_118 ?_
              refine lv_iload hx hb dL_sinks_119 (lv_at hl 7 rfl) ?_
              refine lv_iadd hx hb dL_sinks_121 ?_
              refine lv_bipush (v := 8) hx hb dL_sinks_122 (by decide) ?_
              refine lv_iload hx hb dL_sinks_124 (lv_at hl 6 rfl) ?_
              refine lv_imul hx hb dL_sinks_126 ?_
              refine lv_iload hx hb dL_sinks_127 (lv_at hl 0 rfl) ?_
              refine lv_iadd hx hb dL_sinks_129 ?_
              obtain ⟨y81, hh82, hq⟩ := q_bd hq
              refine rwS (wr := [(qn, .inl (g 0, 2, .inl an)), (qv, .inl (g 0, 16, .inl av)), (qe, .inl (g 0, 16, .inl ae)), (qw, .inl (g 0, 16, .inl aw))]) (As := [.ref qf, .int (((8 : Int32) * v1) + v2), .int (((8 : Int32) * v1) + x80)]) (rest := []) X K (k_L_swap l G g qf af (((8 : Int32) * v1) + v2) (((8 : Int32) * v1) + x80) _ hh82) hd_L_swap gL_sinks_L_swap hP hD hS hA [1] [0, 2, 3, 4] rfl rfl ⟨by decide, by decide, by decide⟩ hl.1 dL_sinks_130 rfl rfl ⟨Nat.le_of_ble_eq_true rfl, Nat.le_of_ble_eq_true rfl⟩ rfl (Nat.le_of_ble_eq_true rfl) ⟨Nat.zero_le _, Nat.zero_le _⟩ (fun H locs hP hD hS => ?_)
              have hP : va_P G vwCl [(qn, .inl (g 0, 2, .inl an)), (qf, .inl (g 0, 16, .inl y81)), (qv, .inl (g 0, 16, .inl av)), (qe, .inl (g 0, 16, .inl ae)), (qw, .inl (g 0, 16, .inl aw))] H := hP.sub [0, 4, 1, 2, 3] rfl
              have hD : va_D A [(qn, .inl (g 0, 2, .inl an)), (qf, .inl (g 0, 16, .inl y81)), (qv, .inl (g 0, 16, .inl av)), (qe, .inl (g 0, 16, .inl ae)), (qw, .inl (g 0, 16, .inl aw))] := hD.sub [0, 4, 1, 2, 3] (by decide) rfl
              refine lv_aload_n hx hb dL_sinks_133 rfl (lv_at hl 3 rfl) ?_
              refine lv_bipush (v := 8) hx hb dL_sinks_134 (by decide) ?_
              refine lv_iload hx hb dL_sinks_136 (lv_at hl 6 rfl) ?_
              refine lv_imul hx hb dL_sinks_138 ?_
              refine lv_iload hx hb dL_sinks_139 (lv_at hl 7 rfl) ?_
              refine lv_iadd hx hb dL_sinks_141 ?_
              refine lv_bipush (v := 8) hx hb dL_sinks_142 (by decide) ?_
              refine lv_iload hx hb dL_sinks_144 (lv_at hl 6 rfl) ?_
              refine lv_imul hx hb dL_sinks_146 ?_
              refine lv_iload hx hb dL_sinks_147 (lv_at hl 0 rfl) ?_
              refine lv_iadd hx hb dL_sinks_149 ?_
              obtain ⟨y83, hh84, hq⟩ := q_bd hq
              refine rwS (wr := [(qn, .inl (g 0, 2, .inl an)), (qf, .inl (g 0, 16, .inl y81)), (qe, .inl (g 0, 16, .inl ae)), (qw, .inl (g 0, 16, .inl aw))]) (As := [.ref qv, .int (((8 : Int32) * v1) + v2), .int (((8 : Int32) * v1) + x80)]) (rest := []) X K (k_L_swap l G g qv av (((8 : Int32) * v1) + v2) (((8 : Int32) * v1) + x80) _ hh84) hd_L_swap gL_sinks_L_swap hP hD hS hA [2] [0, 1, 3, 4] rfl rfl ⟨by decide, by decide, by decide⟩ hl.1 dL_sinks_150 rfl rfl ⟨Nat.le_of_ble_eq_true rfl, Nat.le_of_ble_eq_true rfl⟩ rfl (Nat.le_of_ble_eq_true rfl) ⟨Nat.zero_le _, Nat.zero_le _⟩ (fun H locs hP hD hS => ?_)
              have hP : va_P G vwCl [(qn, .inl (g 0, 2, .inl an)), (qf, .inl (g 0, 16, .inl y81)), (qv, .inl (g 0, 16, .inl y83)), (qe, .inl (g 0, 16, .inl ae)), (qw, .inl (g 0, 16, .inl aw))] H := hP.sub [0, 1, 4, 2, 3] rfl
              have hD : va_D A [(qn, .inl (g 0, 2, .inl an)), (qf, .inl (g 0, 16, .inl y81)), (qv, .inl (g 0, 16, .inl y83)), (qe, .inl (g 0, 16, .inl ae)), (qw, .inl (g 0, 16, .inl aw))] := hD.sub [0, 1, 4, 2, 3] (by decide) rfl
              refine lv_aload_n hx hb dL_sinks_153 rfl (lv_at hl 4 rfl) ?_
              refine lv_bipush (v := 8) hx hb dL_sinks_154 (by decide) ?_
              refine lv_iload hx hb dL_sinks_156 (lv_at hl 6 rfl) ?_
              refine lv_imul hx hb dL_sinks_158 ?_
              refine lv_iload hx hb dL_sinks_159 (lv_at hl 7 rfl) ?_
              refine lv_iadd hx hb dL_sinks_161 ?_
              refine lv_bipush (v := 8) hx hb dL_sinks_162 (by decide) ?_
              refine lv_iload hx hb dL_sinks_164 (lv_at hl 6 rfl) ?_
              refine lv_imul hx hb dL_sinks_166 ?_
              refine lv_iload hx hb dL_sinks_167 (lv_at hl 0 rfl) ?_
              refine lv_iadd hx hb dL_sinks_169 ?_
              obtain ⟨y85, hh86, hq⟩ := q_bd hq
              refine rwS (wr := [(qn, .inl (g 0, 2, .inl an)), (qf, .inl (g 0, 16, .inl y81)), (qv, .inl (g 0, 16, .inl y83)), (qw, .inl (g 0, 16, .inl aw))]) (As := [.ref qe, .int (((8 : Int32) * v1) + v2), .int (((8 : Int32) * v1) + x80)]) (rest := []) X K (k_L_swap l G g qe ae (((8 : Int32) * v1) + v2) (((8 : Int32) * v1) + x80) _ hh86) hd_L_swap gL_sinks_L_swap hP hD hS hA [3] [0, 1, 2, 4] rfl rfl ⟨by decide, by decide, by decide⟩ hl.1 dL_sinks_170 rfl rfl ⟨Nat.le_of_ble_eq_true rfl, Nat.le_of_ble_eq_true rfl⟩ rfl (Nat.le_of_ble_eq_true rfl) ⟨Nat.zero_le _, Nat.zero_le _⟩ (fun H locs hP hD hS => ?_)
              have hP : va_P G vwCl [(qn, .inl (g 0, 2, .inl an)), (qf, .inl (g 0, 16, .inl y81)), (qv, .inl (g 0, 16, .inl y83)), (qe, .inl (g 0, 16, .inl y85)), (qw, .inl (g 0, 16, .inl aw))] H := hP.sub [0, 1, 2, 4, 3] rfl
              have hD : va_D A [(qn, .inl (g 0, 2, .inl an)), (qf, .inl (g 0, 16, .inl y81)), (qv, .inl (g 0, 16, .inl y83)), (qe, .inl (g 0, 16, .inl y85)), (qw, .inl (g 0, 16, .inl aw))] := hD.sub [0, 1, 2, 4, 3] (by decide) rfl
              refine lv_aload hx hb dL_sinks_173 (lv_at hl 5 rfl) ?_
              refine lv_bipush (v := 8) hx hb dL_sinks_175 (by decide) ?_
              refine lv_iload hx hb dL_sinks_177 (lv_at hl 6 rfl) ?_
              refine lv_imul hx hb dL_sinks_179 ?_
              refine lv_iload hx hb dL_sinks_180 (lv_at hl 7 rfl) ?_
              refine lv_iadd hx hb dL_sinks_182 ?_
              refine lv_bipush (v := 8) hx hb dL_sinks_183 (by decide) ?_
              refine lv_iload hx hb dL_sinks_185 (lv_at hl 6 rfl) ?_
              refine lv_imul hx hb dL_sinks_187 ?_
              refine lv_iload hx hb dL_sinks_188 (lv_at hl 0 rfl) ?_
              refine lv_iadd hx hb dL_sinks_190 ?_
              obtain ⟨y87, hh88, hq⟩ := q_bd hq
              refine rwS (wr := [(qn, .inl (g 0, 2, .inl an)), (qf, .inl (g 0, 16, .inl y81)), (qv, .inl (g 0, 16, .inl y83)), (qe, .inl (g 0, 16, .inl y85))]) (As := [.ref qw, .int (((8 : Int32) * v1) + v2), .int (((8 : Int32) * v1) + x80)]) (rest := []) X K (k_L_swap l G g qw aw (((8 : Int32) * v1) + v2) (((8 : Int32) * v1) + x80) _ hh88) hd_L_swap gL_sinks_L_swap hP hD hS hA [4] [0, 1, 2, 3] rfl rfl ⟨by decide, by decide, by decide⟩ hl.1 dL_sinks_191 rfl rfl ⟨Nat.le_of_ble_eq_true rfl, Nat.le_of_ble_eq_true rfl⟩ rfl (Nat.le_of_ble_eq_true rfl) ⟨Nat.zero_le _, Nat.zero_le _⟩ (fun H locs hP hD hS => ?_)
              have hP : va_P G vwCl [(qn, .inl (g 0, 2, .inl an)), (qf, .inl (g 0, 16, .inl y81)), (qv, .inl (g 0, 16, .inl y83)), (qe, .inl (g 0, 16, .inl y85)), (qw, .inl (g 0, 16, .inl y87))] H := hP
              have hD : va_D A [(qn, .inl (g 0, 2, .inl an)), (qf, .inl (g 0, 16, .inl y81)), (qv, .inl (g 0, 16, .inl y83)), (qe, .inl (g 0, 16, .inl y85)), (qw, .inl (g 0, 16, .inl y87))] := hD
              refine lv_iload hx hb dL_sinks_194 (lv_at hl 0 rfl) ?_
              refine lv_istore (lv' := [(7, .int x80), (8, .int x80), (0, .ref qn), (1, .ref qf), (2, .ref qv), (3, .ref qe), (4, .ref qw), (5, .int v1)]) hx hb dL_sinks_196 hl (by decide) rfl (fun ls hl => ?_)
              refine lv_goto (tgt := 4) hx hb dL_sinks_198 (by decide) ?_
              exact ih y81 y83 y85 y87 x80 hq _ _ hP hD hS ls (lv_sub hl [2, 3, 4, 5, 6, 7, 0] rfl)
            · have hq := q_if_f hq c79
              refine lv_aload_n hx hb dL_sinks_75 rfl (lv_at hl 1 rfl) ?_
              refine lv_bipush (v := 8) hx hb dL_sinks_76 (by decide) ?_
              refine lv_iload hx hb dL_sinks_78 (lv_at hl 5 rfl) ?_
              refine lv_imul hx hb dL_sinks_80 ?_
              refine lv_iload hx hb dL_sinks_81 (lv_at hl 6 rfl) ?_
              refine lv_iadd hx hb dL_sinks_83 ?_
              refine lv_iconst (v := 1) hx hb dL_sinks_84 (by decide) ?_
              refine lv_isub hx hb dL_sinks_85 ?_
              obtain ⟨hh89, hq⟩ := q_gd hq
              refine va_iald hx hb K.1 hP 1 0 rfl rfl (vp_in_iff.mpr hh89) dL_sinks_86 ?_
              refine lv_aload_n hx hb dL_sinks_87 rfl (lv_at hl 1 rfl) ?_
              refine lv_bipush (v := 8) hx hb dL_sinks_88 (by decide) ?_
              refine lv_iload hx hb dL_sinks_90 (lv_at hl 5 rfl) ?_
              refine lv_imul hx hb dL_sinks_92 ?_
              refine lv_iload hx hb dL_sinks_93 (lv_at hl 6 rfl) ?_
              refine lv_iadd hx hb dL_sinks_95 ?_
              obtain ⟨hh90, hq⟩ := q_gd hq
              refine va_iald hx hb K.1 hP 1 0 rfl rfl (vp_in_iff.mpr hh90) dL_sinks_96 ?_
              refine lv_icmp_le (tgt := 107) hx hb dL_sinks_97 (by decide) (fun c91 => ?_) (fun c91 => ?_)
              · have hq := q_if_t hq c91
                refine lv_iload hx hb dL_sinks_107 (lv_at hl 6 rfl) ?_
                refine lv_iconst (v := 1) hx hb dL_sinks_109 (by decide) ?_
                refine lv_iadd hx hb dL_sinks_110 ?_
                refine lv_topi (fun x92 ex92 => ?_)
                have hq := q_let hq ex92
                refine lv_istore (lv' := [(8, .int x92), (0, .ref qn), (1, .ref qf), (2, .ref qv), (3, .ref qe), (4, .ref qw), (5, .int v1), (7, .int v2)]) hx hb dL_sinks_111 hl (by decide) rfl (fun ls hl => ?_)
                refine lv_aload_n hx hb dL_sinks_113 rfl (lv_at hl 2 rfl) ?_
                refine lv_bipush (v := 8) hx hb dL_sinks_114 (by decide) ?_
                refine lv_iload hx hb dL_sinks_116 (lv_at hl 6 rfl) ?_
                refine lv_imul hx hb dL_sinks_118 ?_
                refine lv_iload hx hb dL_sinks_119 (lv_at hl 7 rfl) ?_
                refine lv_iadd hx hb dL_sinks_121 ?_
                refine lv_bipush (v := 8) hx hb dL_sinks_122 (by decide) ?_
                refine lv_iload hx hb dL_sinks_124 (lv_at hl 6 rfl) ?_
                refine lv_imul hx hb dL_sinks_126 ?_
                refine lv_iload hx hb dL_sinks_127 (lv_at hl 0 rfl) ?_
                refine lv_iadd hx hb dL_sinks_129 ?_
                obtain ⟨y93, hh94, hq⟩ := q_bd hq
                refine rwS (wr := [(qn, .inl (g 0, 2, .inl an)), (qv, .inl (g 0, 16, .inl av)), (qe, .inl (g 0, 16, .inl ae)), (qw, .inl (g 0, 16, .inl aw))]) (As := [.ref qf, .int (((8 : Int32) * v1) + v2), .int (((8 : Int32) * v1) + x92)]) (rest := []) X K (k_L_swap l G g qf af (((8 : Int32) * v1) + v2) (((8 : Int32) * v1) + x92) _ hh94) hd_L_swap gL_sinks_L_swap hP hD hS hA [1] [0, 2, 3, 4] rfl rfl ⟨by decide, by decide, by decide⟩ hl.1 dL_sinks_130 rfl rfl ⟨Nat.le_of_ble_eq_true rfl, Nat.le_of_ble_eq_true rfl⟩ rfl (Nat.le_of_ble_eq_true rfl) ⟨Nat.zero_le _, Nat.zero_le _⟩ (fun H locs hP hD hS => ?_)
                have hP : va_P G vwCl [(qn, .inl (g 0, 2, .inl an)), (qf, .inl (g 0, 16, .inl y93)), (qv, .inl (g 0, 16, .inl av)), (qe, .inl (g 0, 16, .inl ae)), (qw, .inl (g 0, 16, .inl aw))] H := hP.sub [0, 4, 1, 2, 3] rfl
                have hD : va_D A [(qn, .inl (g 0, 2, .inl an)), (qf, .inl (g 0, 16, .inl y93)), (qv, .inl (g 0, 16, .inl av)), (qe, .inl (g 0, 16, .inl ae)), (qw, .inl (g 0, 16, .inl aw))] := hD.sub [0, 4, 1, 2, 3] (by decide) rfl
                refine lv_aload_n hx hb dL_sinks_133 rfl (lv_at hl 3 rfl) ?_
                refine lv_bipush (v := 8) hx hb dL_sinks_134 (by decide) ?_
                refine lv_iload hx hb dL_sinks_136 (lv_at hl 6 rfl) ?_
                refine lv_imul hx hb dL_sinks_138 ?_
                refine lv_iload hx hb dL_sinks_139 (lv_at hl 7 rfl) ?_
                refine lv_iadd hx hb dL_sinks_141 ?_
                refine lv_bipush (v := 8) hx hb dL_sinks_142 (by decide) ?_
                refine lv_iload hx hb dL_sinks_144 (lv_at hl 6 rfl) ?_
                refine lv_imul hx hb dL_sinks_146 ?_
                refine lv_iload hx hb dL_sinks_147 (lv_at hl 0 rfl) ?_
                refine lv_iadd hx hb dL_sinks_149 ?_
                obtain ⟨y95, hh96, hq⟩ := q_bd hq
                refine rwS (wr := [(qn, .inl (g 0, 2, .inl an)), (qf, .inl (g 0, 16, .inl y93)), (qe, .inl (g 0, 16, .inl ae)), (qw, .inl (g 0, 16, .inl aw))]) (As := [.ref qv, .int (((8 : Int32) * v1) + v2), .int (((8 : Int32) * v1) + x92)]) (rest := []) X K (k_L_swap l G g qv av (((8 : Int32) * v1) + v2) (((8 : Int32) * v1) + x92) _ hh96) hd_L_swap gL_sinks_L_swap hP hD hS hA [2] [0, 1, 3, 4] rfl rfl ⟨by decide, by decide, by decide⟩ hl.1 dL_sinks_150 rfl rfl ⟨Nat.le_of_ble_eq_true rfl, Nat.le_of_ble_eq_true rfl⟩ rfl (Nat.le_of_ble_eq_true rfl) ⟨Nat.zero_le _, Nat.zero_le _⟩ (fun H locs hP hD hS => ?_)
                have hP : va_P G vwCl [(qn, .inl (g 0, 2, .inl an)), (qf, .inl (g 0, 16, .inl y93)), (qv, .inl (g 0, 16, .inl y95)), (qe, .inl (g 0, 16, .inl ae)), (qw, .inl (g 0, 16, .inl aw))] H := hP.sub [0, 1, 4, 2, 3] rfl
                have hD : va_D A [(qn, .inl (g 0, 2, .inl an)), (qf, .inl (g 0, 16, .inl y93)), (qv, .inl (g 0, 16, .inl y95)), (qe, .inl (g 0, 16, .inl ae)), (qw, .inl (g 0, 16, .inl aw))] := hD.sub [0, 1, 4, 2, 3] (by decide) rfl
                refine lv_aload_n hx hb dL_sinks_153 rfl (lv_at hl 4 rfl) ?_
                refine lv_bipush (v := 8) hx hb dL_sinks_154 (by decide) ?_
                refine lv_iload hx hb dL_sinks_156 (lv_at hl 6 rfl) ?_
                refine lv_imul hx hb dL_sinks_158 ?_
                refine lv_iload hx hb dL_sinks_159 (lv_at hl 7 rfl) ?_
                refine lv_iadd hx hb dL_sinks_161 ?_
                refine lv_bipush (v := 8) hx hb dL_sinks_162 (by decide) ?_
                refine lv_iload hx hb dL_sinks_164 (lv_at hl 6 rfl) ?_
                refine lv_imul hx hb dL_sinks_166 ?_
                refine lv_iload hx hb dL_sinks_167 (lv_at hl 0 rfl) ?_
                refine lv_iadd hx hb dL_sinks_169 ?_
                obtain ⟨y97, hh98, hq⟩ := q_bd hq
                refine rwS (wr := [(qn, .inl (g 0, 2, .inl an)), (qf, .inl (g 0, 16, .inl y93)), (qv, .inl (g 0, 16, .inl y95)), (qw, .inl (g 0, 16, .inl aw))]) (As := [.ref qe, .int (((8 : Int32) * v1) + v2), .int (((8 : Int32) * v1) + x92)]) (rest := []) X K (k_L_swap l G g qe ae (((8 : Int32) * v1) + v2) (((8 : Int32) * v1) + x92) _ hh98) hd_L_swap gL_sinks_L_swap hP hD hS hA [3] [0, 1, 2, 4] rfl rfl ⟨by decide, by decide, by decide⟩ hl.1 dL_sinks_170 rfl rfl ⟨Nat.le_of_ble_eq_true rfl, Nat.le_of_ble_eq_true rfl⟩ rfl (Nat.le_of_ble_eq_true rfl) ⟨Nat.zero_le _, Nat.zero_le _⟩ (fun H locs hP hD hS => ?_)
                have hP : va_P G vwCl [(qn, .inl (g 0, 2, .inl an)), (qf, .inl (g 0, 16, .inl y93)), (qv, .inl (g 0, 16, .inl y95)), (qe, .inl (g 0, 16, .inl y97)), (qw, .inl (g 0, 16, .inl aw))] H := hP.sub [0, 1, 2, 4, 3] rfl
                have hD : va_D A [(qn, .inl (g 0, 2, .inl an)), (qf, .inl (g 0, 16, .inl y93)), (qv, .inl (g 0, 16, .inl y95)), (qe, .inl (g 0, 16, .inl y97)), (qw, .inl (g 0, 16, .inl aw))] := hD.sub [0, 1, 2, 4, 3] (by decide) rfl
                refine lv_aload hx hb dL_sinks_173 (lv_at hl 5 rfl) ?_
                refine lv_bipush (v := 8) hx hb dL_sinks_175 (by decide) ?_
                refine lv_iload hx hb dL_sinks_177 (lv_at hl 6 rfl) ?_
                refine lv_imul hx hb dL_sinks_179 ?_
                refine lv_iload hx hb dL_sinks_180 (lv_at hl 7 rfl) ?_
                refine lv_iadd hx hb dL_sinks_182 ?_
                refine lv_bipush (v := 8) hx hb dL_sinks_183 (by decide) ?_
                refine lv_iload hx hb dL_sinks_185 (lv_at hl 6 rfl) ?_
                refine lv_imul hx hb dL_sinks_187 ?_
                refine lv_iload hx hb dL_sinks_188 (lv_at hl 0 rfl) ?_
                refine lv_iadd hx hb dL_sinks_190 ?_
                obtain ⟨y99, hh100, hq⟩ := q_bd hq
                refine rwS (wr := [(qn, .inl (g 0, 2, .inl an)), (qf, .inl (g 0, 16, .inl y93)), (qv, .inl (g 0, 16, .inl y95)), (qe, .inl (g 0, 16, .inl y97))]) (As := [.ref qw, .int (((8 : Int32) * v1) + v2), .int (((8 : Int32) * v1) + x92)]) (rest := []) X K (k_L_swap l G g qw aw (((8 : Int32) * v1) + v2) (((8 : Int32) * v1) + x92) _ hh100) hd_L_swap gL_sinks_L_swap hP hD hS hA [4] [0, 1, 2, 3] rfl rfl ⟨by decide, by decide, by decide⟩ hl.1 dL_sinks_191 rfl rfl ⟨Nat.le_of_ble_eq_true rfl, Nat.le_of_ble_eq_true rfl⟩ rfl (Nat.le_of_ble_eq_true rfl) ⟨Nat.zero_le _, Nat.zero_le _⟩ (fun H locs hP hD hS => ?_)
                have hP : va_P G vwCl [(qn, .inl (g 0, 2, .inl an)), (qf, .inl (g 0, 16, .inl y93)), (qv, .inl (g 0, 16, .inl y95)), (qe, .inl (g 0, 16, .inl y97)), (qw, .inl (g 0, 16, .inl y99))] H := hP
                have hD : va_D A [(qn, .inl (g 0, 2, .inl an)), (qf, .inl (g 0, 16, .inl y93)), (qv, .inl (g 0, 16, .inl y95)), (qe, .inl (g 0, 16, .inl y97)), (qw, .inl (g 0, 16, .inl y99))] := hD
                refine lv_iload hx hb dL_sinks_194 (lv_at hl 0 rfl) ?_
                refine lv_istore (lv' := [(7, .int x92), (8, .int x92), (0, .ref qn), (1, .ref qf), (2, .ref qv), (3, .ref qe), (4, .ref qw), (5, .int v1)]) hx hb dL_sinks_196 hl (by decide) rfl (fun ls hl => ?_)
                refine lv_goto (tgt := 4) hx hb dL_sinks_198 (by decide) ?_
                exact ih y93 y95 y97 y99 x92 hq _ _ hP hD hS ls (lv_sub hl [2, 3, 4, 5, 6, 7, 0] rfl)
              · have hq := q_if_f hq c91
                refine lv_iload hx hb dL_sinks_100 (lv_at hl 6 rfl) ?_
                refine lv_iconst (v := 1) hx hb dL_sinks_102 (by decide) ?_
                refine lv_isub hx hb dL_sinks_103 ?_
                refine lv_goto (tgt := 111) hx hb dL_sinks_104 (by decide) ?_
                refine lv_topi (fun x101 ex101 => ?_)
                have hq := q_let hq ex101
                refine lv_istore (lv' := [(8, .int x101), (0, .ref qn), (1, .ref qf), (2, .ref qv), (3, .ref qe), (4, .ref qw), (5, .int v1), (7, .int v2)]) hx hb dL_sinks_111 hl (by decide) rfl (fun ls hl => ?_)
                refine lv_aload_n hx hb dL_sinks_113 rfl (lv_at hl 2 rfl) ?_
                refine lv_bipush (v := 8) hx hb dL_sinks_114 (by decide) ?_
                refine lv_iload hx hb dL_sinks_116 (lv_at hl 6 rfl) ?_
                refine lv_imul hx hb dL_sinks_118 ?_
                refine lv_iload hx hb dL_sinks_119 (lv_at hl 7 rfl) ?_
                refine lv_iadd hx hb dL_sinks_121 ?_
                refine lv_bipush (v := 8) hx hb dL_sinks_122 (by decide) ?_
                refine lv_iload hx hb dL_sinks_124 (lv_at hl 6 rfl) ?_
                refine lv_imul hx hb dL_sinks_126 ?_
                refine lv_iload hx hb dL_sinks_127 (lv_at hl 0 rfl) ?_
                refine lv_iadd hx hb dL_sinks_129 ?_
                obtain ⟨y102, hh103, hq⟩ := q_bd hq
                refine rwS (wr := [(qn, .inl (g 0, 2, .inl an)), (qv, .inl (g 0, 16, .inl av)), (qe, .inl (g 0, 16, .inl ae)), (qw, .inl (g 0, 16, .inl aw))]) (As := [.ref qf, .int (((8 : Int32) * v1) + v2), .int (((8 : Int32) * v1) + x101)]) (rest := []) X K (k_L_swap l G g qf af (((8 : Int32) * v1) + v2) (((8 : Int32) * v1) + x101) _ hh103) hd_L_swap gL_sinks_L_swap hP hD hS hA [1] [0, 2, 3, 4] rfl rfl ⟨by decide, by decide, by decide⟩ hl.1 dL_sinks_130 rfl rfl ⟨Nat.le_of_ble_eq_true rfl, Nat.le_of_ble_eq_true rfl⟩ rfl (Nat.le_of_ble_eq_true rfl) ⟨Nat.zero_le _, Nat.zero_le _⟩ (fun H locs hP hD hS => ?_)
                have hP : va_P G vwCl [(qn, .inl (g 0, 2, .inl an)), (qf, .inl (g 0, 16, .inl y102)), (qv, .inl (g 0, 16, .inl av)), (qe, .inl (g 0, 16, .inl ae)), (qw, .inl (g 0, 16, .inl aw))] H := hP.sub [0, 4, 1, 2, 3] rfl
                have hD : va_D A [(qn, .inl (g 0, 2, .inl an)), (qf, .inl (g 0, 16, .inl y102)), (qv, .inl (g 0, 16, .inl av)), (qe, .inl (g 0, 16, .inl ae)), (qw, .inl (g 0, 16, .inl aw))] := hD.sub [0, 4, 1, 2, 3] (by decide) rfl
                refine lv_aload_n hx hb dL_sinks_133 rfl (lv_at hl 3 rfl) ?_
                refine lv_bipush (v := 8) hx hb dL_sinks_134 (by decide) ?_
                refine lv_iload hx hb dL_sinks_136 (lv_at hl 6 rfl) ?_
                refine lv_imul hx hb dL_sinks_138 ?_
                refine lv_iload hx hb dL_sinks_139 (lv_at hl 7 rfl) ?_
                refine lv_iadd hx hb dL_sinks_141 ?_
                refine lv_bipush (v := 8) hx hb dL_sinks_142 (by decide) ?_
                refine lv_iload hx hb dL_sinks_144 (lv_at hl 6 rfl) ?_
                refine lv_imul hx hb dL_sinks_146 ?_
                refine lv_iload hx hb dL_sinks_147 (lv_at hl 0 rfl) ?_
                refine lv_iadd hx hb dL_sinks_149 ?_
                obtain ⟨y104, hh105, hq⟩ := q_bd hq
                refine rwS (wr := [(qn, .inl (g 0, 2, .inl an)), (qf, .inl (g 0, 16, .inl y102)), (qe, .inl (g 0, 16, .inl ae)), (qw, .inl (g 0, 16, .inl aw))]) (As := [.ref qv, .int (((8 : Int32) * v1) + v2), .int (((8 : Int32) * v1) + x101)]) (rest := []) X K (k_L_swap l G g qv av (((8 : Int32) * v1) + v2) (((8 : Int32) * v1) + x101) _ hh105) hd_L_swap gL_sinks_L_swap hP hD hS hA [2] [0, 1, 3, 4] rfl rfl ⟨by decide, by decide, by decide⟩ hl.1 dL_sinks_150 rfl rfl ⟨Nat.le_of_ble_eq_true rfl, Nat.le_of_ble_eq_true rfl⟩ rfl (Nat.le_of_ble_eq_true rfl) ⟨Nat.zero_le _, Nat.zero_le _⟩ (fun H locs hP hD hS => ?_)
                have hP : va_P G vwCl [(qn, .inl (g 0, 2, .inl an)), (qf, .inl (g 0, 16, .inl y102)), (qv, .inl (g 0, 16, .inl y104)), (qe, .inl (g 0, 16, .inl ae)), (qw, .inl (g 0, 16, .inl aw))] H := hP.sub [0, 1, 4, 2, 3] rfl
                have hD : va_D A [(qn, .inl (g 0, 2, .inl an)), (qf, .inl (g 0, 16, .inl y102)), (qv, .inl (g 0, 16, .inl y104)), (qe, .inl (g 0, 16, .inl ae)), (qw, .inl (g 0, 16, .inl aw))] := hD.sub [0, 1, 4, 2, 3] (by decide) rfl
                refine lv_aload_n hx hb dL_sinks_153 rfl (lv_at hl 4 rfl) ?_
                refine lv_bipush (v := 8) hx hb dL_sinks_154 (by decide) ?_
                refine lv_iload hx hb dL_sinks_156 (lv_at hl 6 rfl) ?_
                refine lv_imul hx hb dL_sinks_158 ?_
                refine lv_iload hx hb dL_sinks_159 (lv_at hl 7 rfl) ?_
                refine lv_iadd hx hb dL_sinks_161 ?_
                refine lv_bipush (v := 8) hx hb dL_sinks_162 (by decide) ?_
                refine lv_iload hx hb dL_sinks_164 (lv_at hl 6 rfl) ?_
                refine lv_imul hx hb dL_sinks_166 ?_
                refine lv_iload hx hb dL_sinks_167 (lv_at hl 0 rfl) ?_
                refine lv_iadd hx hb dL_sinks_169 ?_
                obtain ⟨y106, hh107, hq⟩ := q_bd hq
                refine rwS (wr := [(qn, .inl (g 0, 2, .inl an)), (qf, .inl (g 0, 16, .inl y102)), (qv, .inl (g 0, 16, .inl y104)), (qw, .inl (g 0, 16, .inl aw))]) (As := [.ref qe, .int (((8 : Int32) * v1) + v2), .int (((8 : Int32) * v1) + x101)]) (rest := []) X K (k_L_swap l G g qe ae (((8 : Int32) * v1) + v2) (((8 : Int32) * v1) + x101) _ hh107) hd_L_swap gL_sinks_L_swap hP hD hS hA [3] [0, 1, 2, 4] rfl rfl ⟨by decide, by decide, by decide⟩ hl.1 dL_sinks_170 rfl rfl ⟨Nat.le_of_ble_eq_true rfl, Nat.le_of_ble_eq_true rfl⟩ rfl (Nat.le_of_ble_eq_true rfl) ⟨Nat.zero_le _, Nat.zero_le _⟩ (fun H locs hP hD hS => ?_)
                have hP : va_P G vwCl [(qn, .inl (g 0, 2, .inl an)), (qf, .inl (g 0, 16, .inl y102)), (qv, .inl (g 0, 16, .inl y104)), (qe, .inl (g 0, 16, .inl y106)), (qw, .inl (g 0, 16, .inl aw))] H := hP.sub [0, 1, 2, 4, 3] rfl
                have hD : va_D A [(qn, .inl (g 0, 2, .inl an)), (qf, .inl (g 0, 16, .inl y102)), (qv, .inl (g 0, 16, .inl y104)), (qe, .inl (g 0, 16, .inl y106)), (qw, .inl (g 0, 16, .inl aw))] := hD.sub [0, 1, 2, 4, 3] (by decide) rfl
                refine lv_aload hx hb dL_sinks_173 (lv_at hl 5 rfl) ?_
                refine lv_bipush (v := 8) hx hb dL_sinks_175 (by decide) ?_
                refine lv_iload hx hb dL_sinks_177 (lv_at hl 6 rfl) ?_
                refine lv_imul hx hb dL_sinks_179 ?_
                refine lv_iload hx hb dL_sinks_180 (lv_at hl 7 rfl) ?_
                refine lv_iadd hx hb dL_sinks_182 ?_
                refine lv_bipush (v := 8) hx hb dL_sinks_183 (by decide) ?_
                refine lv_iload hx hb dL_sinks_185 (lv_at hl 6 rfl) ?_
                refine lv_imul hx hb dL_sinks_187 ?_
                refine lv_iload hx hb dL_sinks_188 (lv_at hl 0 rfl) ?_
                refine lv_iadd hx hb dL_sinks_190 ?_
                obtain ⟨y108, hh109, hq⟩ := q_bd hq
                refine rwS (wr := [(qn, .inl (g 0, 2, .inl an)), (qf, .inl (g 0, 16, .inl y102)), (qv, .inl (g 0, 16, .inl y104)), (qe, .inl (g 0, 16, .inl y106))]) (As := [.ref qw, .int (((8 : Int32) * v1) + v2), .int (((8 : Int32) * v1) + x101)]) (rest := []) X K (k_L_swap l G g qw aw (((8 : Int32) * v1) + v2) (((8 : Int32) * v1) + x101) _ hh109) hd_L_swap gL_sinks_L_swap hP hD hS hA [4] [0, 1, 2, 3] rfl rfl ⟨by decide, by decide, by decide⟩ hl.1 dL_sinks_191 rfl rfl ⟨Nat.le_of_ble_eq_true rfl, Nat.le_of_ble_eq_true rfl⟩ rfl (Nat.le_of_ble_eq_true rfl) ⟨Nat.zero_le _, Nat.zero_le _⟩ (fun H locs hP hD hS => ?_)
                have hP : va_P G vwCl [(qn, .inl (g 0, 2, .inl an)), (qf, .inl (g 0, 16, .inl y102)), (qv, .inl (g 0, 16, .inl y104)), (qe, .inl (g 0, 16, .inl y106)), (qw, .inl (g 0, 16, .inl y108))] H := hP
                have hD : va_D A [(qn, .inl (g 0, 2, .inl an)), (qf, .inl (g 0, 16, .inl y102)), (qv, .inl (g 0, 16, .inl y104)), (qe, .inl (g 0, 16, .inl y106)), (qw, .inl (g 0, 16, .inl y108))] := hD
                refine lv_iload hx hb dL_sinks_194 (lv_at hl 0 rfl) ?_
                refine lv_istore (lv' := [(7, .int x101), (8, .int x101), (0, .ref qn), (1, .ref qf), (2, .ref qv), (3, .ref qe), (4, .ref qw), (5, .int v1)]) hx hb dL_sinks_196 hl (by decide) rfl (fun ls hl => ?_)
                refine lv_goto (tgt := 4) hx hb dL_sinks_198 (by decide) ?_
                exact ih y102 y104 y106 y108 x101 hq _ _ hP hD hS ls (lv_sub hl [2, 3, 4, 5, 6, 7, 0] rfl)
def F_L_sinks (an : Nat → Int32) (af : Nat → Int32) (av : Nat → Int32) (ae : Nat → Int32) (aw : Nat → Int32) (p6 : Int32) (p7 : Int32) : Option (Int32 × (Nat → Int32) × (Nat → Int32) × (Nat → Int32) × (Nat → Int32)) := F_L_sinks_4 an p6 2000 af av ae aw p7
set_option maxHeartbeats 4000000 in
set_option maxRecDepth 100000 in
theorem k_L_sinks (l : Launch) (G : va_G) (g : Nat → ClassId) (qn qf qv qe qw : Nat) (an : Nat → Int32) (af : Nat → Int32) (av : Nat → Int32) (ae : Nat → Int32) (aw : Nat → Int32) (p6 : Int32) (p7 : Int32) (res : Int32 × (Nat → Int32) × (Nat → Int32) × (Nat → Int32) × (Nat → Int32)) (hq : F_L_sinks an af av ae aw p6 p7 = some res) : rwC l yL_sinks wsL_sinks (rmF 1 23) G g [.ref qn, .ref qf, .ref qv, .ref qe, .ref qw, .int p6, .int p7] [(qn, .inl (g 0, 2, .inl an)), (qf, .inl (g 0, 16, .inl af)), (qv, .inl (g 0, 16, .inl av)), (qe, .inl (g 0, 16, .inl ae)), (qw, .inl (g 0, 16, .inl aw))] (some (.int res.1)) [(qn, .inl (g 0, 2, .inl an)), (qf, .inl (g 0, 16, .inl res.2.1)), (qv, .inl (g 0, 16, .inl res.2.2.1)), (qe, .inl (g 0, 16, .inl res.2.2.2.1)), (qw, .inl (g 0, 16, .inl res.2.2.2.2))] := by
  refine rwC.of (cc := cL_sinks) (maxL := 9) (ret := (some .int)) (by decide) rfl (Nat.le_of_ble_eq_true rfl) ?_
  intro p e s m below meth c ls A X K hA hP hD hS hl
  obtain ⟨hx, hb, hml, hr, hown, hts, hk⟩ := id X
  have hl : lv_has ls 9 [(0, .ref qn), (1, .ref qf), (2, .ref qv), (3, .ref qe), (4, .ref qw), (5, .int p6), (6, .int p7)] := hl
  unfold F_L_sinks at hq
  refine lv_iload hx hb dL_sinks_0 (lv_at hl 6 rfl) ?_
  refine lv_istore (lv' := [(7, .int p7), (0, .ref qn), (1, .ref qf), (2, .ref qv), (3, .ref qe), (4, .ref qw), (5, .int p6), (6, .int p7)]) hx hb dL_sinks_2 hl (by decide) rfl (fun ls hl => ?_)
  exact w_L_sinks_4 X K hA qn qf qv qe qw an p6 _ 2000 af av ae aw p7 hq _ _ hP hD hS ls (lv_sub hl [1, 2, 3, 4, 5, 6, 0] rfl)
def F_L_drop_18 (an : Nat → Int32) (v1 : Int32) : Nat → (Nat → Int32) → (Nat → Int32) → (Nat → Int32) → (Nat → Int32) → Int32 → Option ((Nat → Int32) × (Nat → Int32) × (Nat → Int32) × (Nat → Int32) × (Nat → Int32))
  | 0, _, _, _, _, _ => none
  | n + 1, af, av, ae, aw, v2 => vgd (ix (v1) 2) <| if (((8 : Int32) * v1) + (an v1.toNatClampNeg)) ≤ v2 then (some (an, af, av, ae, aw)) else (vgd (ix (v2 + 1) 16) <| vgd (ix (v2) 16) <| vlet (upd af v2.toNatClampNeg (af (v2 + 1).toNatClampNeg)) fun f7 => vgd (ix (v2 + 1) 16) <| vgd (ix (v2) 16) <| vlet (upd av v2.toNatClampNeg (av (v2 + 1).toNatClampNeg)) fun f10 => vgd (ix (v2 + 1) 16) <| vgd (ix (v2) 16) <| vlet (upd ae v2.toNatClampNeg (ae (v2 + 1).toNatClampNeg)) fun f13 => vgd (ix (v2 + 1) 16) <| vgd (ix (v2) 16) <| vlet (upd aw v2.toNatClampNeg (aw (v2 + 1).toNatClampNeg)) fun f16 => vlet ((v2 : Int32) + 1) fun x17 => F_L_drop_18 an v1 n f7 f10 f13 f16 x17)
set_option maxHeartbeats 4000000 in
set_option maxRecDepth 100000 in
theorem w_L_drop_18 {p : Program} {l : Launch} {e : Env} {s : State} {m : MethodId} {args : Array Value} {below : List Frame} {meth : Method} {c : Code} {G : va_G} {g : Nat → ClassId} (X : cx p s m args meth c cL_drop 8 none RL wsL_drop) (K : amb G g s) {A : Nat → Prop} (hA : ∀ q : Nat, s.heap.size ≤ q → A q) (qn qf qv qe qw : Nat) (an : Nat → Int32) (v1 : Int32) (res : (Nat → Int32) × (Nat → Int32) × (Nat → Int32) × (Nat → Int32) × (Nat → Int32)) : ∀ (n : Nat) (af : Nat → Int32) (av : Nat → Int32) (ae : Nat → Int32) (aw : Nat → Int32) (v2 : Int32), F_L_drop_18 an v1 n af av ae aw v2 = some res → ∀ (H : Heap) (locs : List Loc), va_P G vwCl [(qn, .inl (g 0, 2, .inl an)), (qf, .inl (g 0, 16, .inl af)), (qv, .inl (g 0, 16, .inl av)), (qe, .inl (g 0, 16, .inl ae)), (qw, .inl (g 0, 16, .inl aw))] H → va_D A [(qn, .inl (g 0, 2, .inl an)), (qf, .inl (g 0, 16, .inl af)), (qv, .inl (g 0, 16, .inl av)), (qe, .inl (g 0, 16, .inl ae)), (qw, .inl (g 0, 16, .inl aw))] → va_S A s.heap H locs → ∀ (ls : Array Slot), lv_has ls 8 [(0, .ref qn), (1, .ref qf), (2, .ref qv), (3, .ref qe), (4, .ref qw), (5, .int v1), (7, .int v2)] → W p l e (rmF 0 0) s m args below meth c H locs 0 0 (rwM G A below none [(qn, .inl (g 0, 2, .inl res.1)), (qf, .inl (g 0, 16, .inl res.2.1)), (qv, .inl (g 0, 16, .inl res.2.2.1)), (qe, .inl (g 0, 16, .inl res.2.2.2.1)), (qw, .inl (g 0, 16, .inl res.2.2.2.2))] args s) (F0 m 18 ls []) := by
  obtain ⟨hx, hb, hml, hr, hown, hts, hk⟩ := id X
  intro n
  induction n with
  | zero => intro af av ae aw v2 hq; exact q_no hq
  | succ n ih =>
    intro af av ae aw v2 hq H locs hP hD hS ls hl
    rw [F_L_drop_18] at hq
    refine lv_iload hx hb dL_drop_18 (lv_at hl 6 rfl) ?_
    refine lv_bipush (v := 8) hx hb dL_drop_20 (by decide) ?_
    refine lv_iload hx hb dL_drop_22 (lv_at hl 5 rfl) ?_
    refine lv_imul hx hb dL_drop_24 ?_
    refine lv_aload_n hx hb dL_drop_25 rfl (lv_at hl 0 rfl) ?_
    refine lv_iload hx hb dL_drop_26 (lv_at hl 5 rfl) ?_
    obtain ⟨hh3, hq⟩ := q_gd hq
    refine va_iald hx hb K.1 hP 0 0 rfl rfl (vp_in_iff.mpr hh3) dL_drop_28 ?_
    refine lv_iadd hx hb dL_drop_29 ?_
    refine lv_icmp_ge (tgt := 81) hx hb dL_drop_30 (by decide) (fun c4 => ?_) (fun c4 => ?_)
    · have hq := q_if_t hq c4
      obtain rfl := q_rt hq
      exact rw_vret hx hb hr hk hP hD hS dL_drop_81
    · have hq := q_if_f hq c4
      refine lv_aload_n hx hb dL_drop_33 rfl (lv_at hl 1 rfl) ?_
      refine lv_iload hx hb dL_drop_34 (lv_at hl 6 rfl) ?_
      refine lv_aload_n hx hb dL_drop_36 rfl (lv_at hl 1 rfl) ?_
      refine lv_iload hx hb dL_drop_37 (lv_at hl 6 rfl) ?_
      refine lv_iconst (v := 1) hx hb dL_drop_39 (by decide) ?_
      refine lv_iadd hx hb dL_drop_40 ?_
      obtain ⟨hh5, hq⟩ := q_gd hq
      refine va_iald hx hb K.1 hP 1 0 rfl rfl (vp_in_iff.mpr hh5) dL_drop_41 ?_
      obtain ⟨hh6, hq⟩ := q_gd hq
      refine va_iast hx hb K.1 hP hD hS 1 0 rfl rfl (vp_in_iff.mpr hh6) dL_drop_42 (fun H locs hP hD hS => ?_)
      obtain ⟨f7, ef7⟩ : ∃ y, y = upd af v2.toNatClampNeg (af (v2 + 1).toNatClampNeg) := ⟨_, rfl⟩
      have hq := q_let hq ef7
      have hP : va_P G vwCl [(qn, .inl (g 0, 2, .inl an)), (qf, .inl (g 0, 16, .inl f7)), (qv, .inl (g 0, 16, .inl av)), (qe, .inl (g 0, 16, .inl ae)), (qw, .inl (g 0, 16, .inl aw))] H := by rw [ef7]; exact hP
      have hD : va_D A [(qn, .inl (g 0, 2, .inl an)), (qf, .inl (g 0, 16, .inl f7)), (qv, .inl (g 0, 16, .inl av)), (qe, .inl (g 0, 16, .inl ae)), (qw, .inl (g 0, 16, .inl aw))] := by rw [ef7]; exact hD
      refine lv_aload_n hx hb dL_drop_43 rfl (lv_at hl 2 rfl) ?_
      refine lv_iload hx hb dL_drop_44 (lv_at hl 6 rfl) ?_
      refine lv_aload_n hx hb dL_drop_46 rfl (lv_at hl 2 rfl) ?_
      refine lv_iload hx hb dL_drop_47 (lv_at hl 6 rfl) ?_
      refine lv_iconst (v := 1) hx hb dL_drop_49 (by decide) ?_
      refine lv_iadd hx hb dL_drop_50 ?_
      obtain ⟨hh8, hq⟩ := q_gd hq
      refine va_iald hx hb K.1 hP 2 0 rfl rfl (vp_in_iff.mpr hh8) dL_drop_51 ?_
      obtain ⟨hh9, hq⟩ := q_gd hq
      refine va_iast hx hb K.1 hP hD hS 2 0 rfl rfl (vp_in_iff.mpr hh9) dL_drop_52 (fun H locs hP hD hS => ?_)
      obtain ⟨f10, ef10⟩ : ∃ y, y = upd av v2.toNatClampNeg (av (v2 + 1).toNatClampNeg) := ⟨_, rfl⟩
      have hq := q_let hq ef10
      have hP : va_P G vwCl [(qn, .inl (g 0, 2, .inl an)), (qf, .inl (g 0, 16, .inl f7)), (qv, .inl (g 0, 16, .inl f10)), (qe, .inl (g 0, 16, .inl ae)), (qw, .inl (g 0, 16, .inl aw))] H := by rw [ef10]; exact hP
      have hD : va_D A [(qn, .inl (g 0, 2, .inl an)), (qf, .inl (g 0, 16, .inl f7)), (qv, .inl (g 0, 16, .inl f10)), (qe, .inl (g 0, 16, .inl ae)), (qw, .inl (g 0, 16, .inl aw))] := by rw [ef10]; exact hD
      refine lv_aload_n hx hb dL_drop_53 rfl (lv_at hl 3 rfl) ?_
      refine lv_iload hx hb dL_drop_54 (lv_at hl 6 rfl) ?_
      refine lv_aload_n hx hb dL_drop_56 rfl (lv_at hl 3 rfl) ?_
      refine lv_iload hx hb dL_drop_57 (lv_at hl 6 rfl) ?_
      refine lv_iconst (v := 1) hx hb dL_drop_59 (by decide) ?_
      refine lv_iadd hx hb dL_drop_60 ?_
      obtain ⟨hh11, hq⟩ := q_gd hq
      refine va_iald hx hb K.1 hP 3 0 rfl rfl (vp_in_iff.mpr hh11) dL_drop_61 ?_
      obtain ⟨hh12, hq⟩ := q_gd hq
      refine va_iast hx hb K.1 hP hD hS 3 0 rfl rfl (vp_in_iff.mpr hh12) dL_drop_62 (fun H locs hP hD hS => ?_)
      obtain ⟨f13, ef13⟩ : ∃ y, y = upd ae v2.toNatClampNeg (ae (v2 + 1).toNatClampNeg) := ⟨_, rfl⟩
      have hq := q_let hq ef13
      have hP : va_P G vwCl [(qn, .inl (g 0, 2, .inl an)), (qf, .inl (g 0, 16, .inl f7)), (qv, .inl (g 0, 16, .inl f10)), (qe, .inl (g 0, 16, .inl f13)), (qw, .inl (g 0, 16, .inl aw))] H := by rw [ef13]; exact hP
      have hD : va_D A [(qn, .inl (g 0, 2, .inl an)), (qf, .inl (g 0, 16, .inl f7)), (qv, .inl (g 0, 16, .inl f10)), (qe, .inl (g 0, 16, .inl f13)), (qw, .inl (g 0, 16, .inl aw))] := by rw [ef13]; exact hD
      refine lv_aload hx hb dL_drop_63 (lv_at hl 4 rfl) ?_
      refine lv_iload hx hb dL_drop_65 (lv_at hl 6 rfl) ?_
      refine lv_aload hx hb dL_drop_67 (lv_at hl 4 rfl) ?_
      refine lv_iload hx hb dL_drop_69 (lv_at hl 6 rfl) ?_
      refine lv_iconst (v := 1) hx hb dL_drop_71 (by decide) ?_
      refine lv_iadd hx hb dL_drop_72 ?_
      obtain ⟨hh14, hq⟩ := q_gd hq
      refine va_iald hx hb K.1 hP 4 0 rfl rfl (vp_in_iff.mpr hh14) dL_drop_73 ?_
      obtain ⟨hh15, hq⟩ := q_gd hq
      refine va_iast hx hb K.1 hP hD hS 4 0 rfl rfl (vp_in_iff.mpr hh15) dL_drop_74 (fun H locs hP hD hS => ?_)
      obtain ⟨f16, ef16⟩ : ∃ y, y = upd aw v2.toNatClampNeg (aw (v2 + 1).toNatClampNeg) := ⟨_, rfl⟩
      have hq := q_let hq ef16
      have hP : va_P G vwCl [(qn, .inl (g 0, 2, .inl an)), (qf, .inl (g 0, 16, .inl f7)), (qv, .inl (g 0, 16, .inl f10)), (qe, .inl (g 0, 16, .inl f13)), (qw, .inl (g 0, 16, .inl f16))] H := by rw [ef16]; exact hP
      have hD : va_D A [(qn, .inl (g 0, 2, .inl an)), (qf, .inl (g 0, 16, .inl f7)), (qv, .inl (g 0, 16, .inl f10)), (qe, .inl (g 0, 16, .inl f13)), (qw, .inl (g 0, 16, .inl f16))] := by rw [ef16]; exact hD
      obtain ⟨x17, ex17⟩ : ∃ y : Int32, y = (v2 : Int32) + 1 := ⟨_, rfl⟩
      have hq := q_let hq ex17
      refine lv_iinc (v := x17) (lv' := [(7, .int x17), (0, .ref qn), (1, .ref qf), (2, .ref qv), (3, .ref qe), (4, .ref qw), (5, .int v1)]) hx hb dL_drop_75 hl (k := 6) rfl (by rw [ex17]; rfl) (by decide) rfl (fun ls hl => ?_)
      refine lv_goto (tgt := 18) hx hb dL_drop_78 (by decide) ?_
      exact ih f7 f10 f13 f16 x17 hq _ _ hP hD hS ls (lv_sub hl [1, 2, 3, 4, 5, 6, 0] rfl)
def F_L_drop (an : Nat → Int32) (af : Nat → Int32) (av : Nat → Int32) (ae : Nat → Int32) (aw : Nat → Int32) (p6 : Int32) (p7 : Int32) : Option ((Nat → Int32) × (Nat → Int32) × (Nat → Int32) × (Nat → Int32) × (Nat → Int32)) := vgd (ix (p6) 2) <| vgd (ix (p6) 2) <| vlet (upd an p6.toNatClampNeg ((an p6.toNatClampNeg) - 1)) fun f3 => vlet (((8 : Int32) * p6) + p7) fun x4 => F_L_drop_18 f3 p6 2000 af av ae aw x4
set_option maxHeartbeats 4000000 in
set_option maxRecDepth 100000 in
theorem k_L_drop (l : Launch) (G : va_G) (g : Nat → ClassId) (qn qf qv qe qw : Nat) (an : Nat → Int32) (af : Nat → Int32) (av : Nat → Int32) (ae : Nat → Int32) (aw : Nat → Int32) (p6 : Int32) (p7 : Int32) (res : (Nat → Int32) × (Nat → Int32) × (Nat → Int32) × (Nat → Int32) × (Nat → Int32)) (hq : F_L_drop an af av ae aw p6 p7 = some res) : rwC l yL_drop wsL_drop (rmF 0 0) G g [.ref qn, .ref qf, .ref qv, .ref qe, .ref qw, .int p6, .int p7] [(qn, .inl (g 0, 2, .inl an)), (qf, .inl (g 0, 16, .inl af)), (qv, .inl (g 0, 16, .inl av)), (qe, .inl (g 0, 16, .inl ae)), (qw, .inl (g 0, 16, .inl aw))] none [(qn, .inl (g 0, 2, .inl res.1)), (qf, .inl (g 0, 16, .inl res.2.1)), (qv, .inl (g 0, 16, .inl res.2.2.1)), (qe, .inl (g 0, 16, .inl res.2.2.2.1)), (qw, .inl (g 0, 16, .inl res.2.2.2.2))] := by
  refine rwC.of (cc := cL_drop) (maxL := 8) (ret := none) (by decide) rfl (Nat.le_of_ble_eq_true rfl) ?_
  intro p e s m below meth c ls A X K hA hP hD hS hl
  obtain ⟨hx, hb, hml, hr, hown, hts, hk⟩ := id X
  have hl : lv_has ls 8 [(0, .ref qn), (1, .ref qf), (2, .ref qv), (3, .ref qe), (4, .ref qw), (5, .int p6), (6, .int p7)] := hl
  unfold F_L_drop at hq
  refine lv_aload_n hx hb dL_drop_0 rfl (lv_at hl 0 rfl) ?_
  refine lv_iload hx hb dL_drop_1 (lv_at hl 5 rfl) ?_
  refine lv_dup2_11 hx hb dL_drop_3 rfl rfl ?_
  obtain ⟨hh1, hq⟩ := q_gd hq
  refine va_iald hx hb K.1 hP 0 0 rfl rfl (vp_in_iff.mpr hh1) dL_drop_4 ?_
  refine lv_iconst (v := 1) hx hb dL_drop_5 (by decide) ?_
  refine lv_isub hx hb dL_drop_6 ?_
  obtain ⟨hh2, hq⟩ := q_gd hq
  refine va_iast hx hb K.1 hP hD hS 0 0 rfl rfl (vp_in_iff.mpr hh2) dL_drop_7 (fun H locs hP hD hS => ?_)
  obtain ⟨f3, ef3⟩ : ∃ y, y = upd an p6.toNatClampNeg ((an p6.toNatClampNeg) - 1) := ⟨_, rfl⟩
  have hq := q_let hq ef3
  have hP : va_P G vwCl [(qn, .inl (g 0, 2, .inl f3)), (qf, .inl (g 0, 16, .inl af)), (qv, .inl (g 0, 16, .inl av)), (qe, .inl (g 0, 16, .inl ae)), (qw, .inl (g 0, 16, .inl aw))] H := by rw [ef3]; exact hP
  have hD : va_D A [(qn, .inl (g 0, 2, .inl f3)), (qf, .inl (g 0, 16, .inl af)), (qv, .inl (g 0, 16, .inl av)), (qe, .inl (g 0, 16, .inl ae)), (qw, .inl (g 0, 16, .inl aw))] := by rw [ef3]; exact hD
  refine lv_bipush (v := 8) hx hb dL_drop_8 (by decide) ?_
  refine lv_iload hx hb dL_drop_10 (lv_at hl 5 rfl) ?_
  refine lv_imul hx hb dL_drop_12 ?_
  refine lv_iload hx hb dL_drop_13 (lv_at hl 6 rfl) ?_
  refine lv_iadd hx hb dL_drop_15 ?_
  refine lv_topi (fun x4 ex4 => ?_)
  have hq := q_let hq ex4
  refine lv_istore (lv' := [(7, .int x4), (0, .ref qn), (1, .ref qf), (2, .ref qv), (3, .ref qe), (4, .ref qw), (5, .int p6), (6, .int p7)]) hx hb dL_drop_16 hl (by decide) rfl (fun ls hl => ?_)
  exact w_L_drop_18 X K hA qn qf qv qe qw f3 p6 _ 2000 af av ae aw x4 hq _ _ hP hD hS ls (lv_sub hl [1, 2, 3, 4, 5, 6, 0] rfl)

theorem in_X0_cell_X0 : ∀ w ∈ wsX00, w ∈ wsX0_cell := fun _ h => List.mem_cons_of_mem _ (List.mem_append_right _ h)
def F_X0_cell (cn : Int32) (cf : Nat → Int32) (p1 : Int32) (p2 : Int32) : Option (Int32) := if p1 < 0 then (some (0)) else (if cn ≤ p1 then (some (0)) else (vgd (ix ((p1 * 6) + p2) 96) <| some (cf ((p1 * 6) + p2).toNatClampNeg)))
set_option maxHeartbeats 4000000 in
set_option maxRecDepth 100000 in
theorem k_X0_cell (l : Launch) (G : va_G) (g : Nat → ClassId) (h1 a1 : Nat) (cn : Int32) (cf : Nat → Int32) (p1 : Int32) (p2 : Int32) (res : Int32) (hq : F_X0_cell cn cf p1 p2 = some res) : roC l yX0_cell wsX0_cell (rmF 0 0) G g [.ref h1, .int p1, .int p2] [(h1, .inr (0, [.int cn, .ref a1])), (a1, .inl (g 0, 96, .inl cf))] (some (.int res)) := by
  refine roC.of (cc := cX0_cell) (maxL := 3) (ret := (some .int)) (by decide) rfl (Nat.le_of_ble_eq_true rfl) ?_
  intro p e s m below meth c ls X K hP hl
  obtain ⟨hx, hb, hml, hr, hown, hts, hk⟩ := id X
  have hl : lv_has ls 3 [(0, .ref h1), (1, .int p1), (2, .int p2)] := hl
  unfold F_X0_cell at hq
  refine lv_iload_n hx hb dX0_cell_0 rfl (lv_at hl 1 rfl) ?_
  refine lv_if_lt (tgt := 26) hx hb dX0_cell_1 (by decide) (fun c1 => ?_) (fun c1 => ?_)
  · have hq := q_if_t hq c1
    refine lv_iconst (v := 0) hx hb dX0_cell_26 (by decide) ?_
    obtain rfl := q_rt hq
    exact ro_iret hx hb hr hk dX0_cell_27
  · have hq := q_if_f hq c1
    refine lv_iload_n hx hb dX0_cell_4 rfl (lv_at hl 1 rfl) ?_
    refine lv_aload_n hx hb dX0_cell_5 rfl (lv_at hl 0 rfl) ?_
    refine va_get (D := G) (ci := 0) (v := .int cn) (C := RX0) (T := TX0) (N := 2) hx hb hts in_X0_cell_X0 hown K.1 hP 0 rfl rfl 0 (by decide) (hts _ (List.mem_of_getElem? (i := 1) rfl)) (fun _ h9 => h9) rfl dX0_cell_6 ?_
    refine lv_icmp_ge (tgt := 26) hx hb dX0_cell_9 (by decide) (fun c2 => ?_) (fun c2 => ?_)
    · have hq := q_if_t hq c2
      refine lv_iconst (v := 0) hx hb dX0_cell_26 (by decide) ?_
      obtain rfl := q_rt hq
      exact ro_iret hx hb hr hk dX0_cell_27
    · have hq := q_if_f hq c2
      refine lv_aload_n hx hb dX0_cell_12 rfl (lv_at hl 0 rfl) ?_
      refine va_get (D := G) (ci := 0) (v := .ref a1) (C := RX0) (T := TX0) (N := 2) hx hb hts in_X0_cell_X0 hown K.1 hP 0 rfl rfl 1 (by decide) (hts _ (List.mem_of_getElem? (i := 2) rfl)) (fun _ h9 => h9) rfl dX0_cell_13 ?_
      refine lv_iload_n hx hb dX0_cell_16 rfl (lv_at hl 1 rfl) ?_
      refine lv_bipush (v := 6) hx hb dX0_cell_17 (by decide) ?_
      refine lv_imul hx hb dX0_cell_19 ?_
      refine lv_iload_n hx hb dX0_cell_20 rfl (lv_at hl 2 rfl) ?_
      refine lv_iadd hx hb dX0_cell_21 ?_
      obtain ⟨h3, hq⟩ := q_gd hq
      refine va_iald hx hb K.1 hP 1 0 rfl rfl (vp_in_iff.mpr h3) dX0_cell_22 ?_
      refine lv_goto (tgt := 27) hx hb dX0_cell_23 (by decide) ?_
      obtain rfl := q_rt hq
      exact ro_iret hx hb hr hk dX0_cell_27
theorem hd_X0_cell : ynm yX0_cell 2 := by unfold ynm; decide +kernel
def F_X0_isLocked (cn : Int32) (cf : Nat → Int32) (p1 : Int32) : Option (Int32) := (F_X0_cell cn cf p1 5).bind fun r1 => if r1 = 1 then (some (1)) else (some (0))
set_option maxHeartbeats 4000000 in
set_option maxRecDepth 100000 in
theorem k_X0_isLocked (l : Launch) (G : va_G) (g : Nat → ClassId) (h1 a1 : Nat) (cn : Int32) (cf : Nat → Int32) (p1 : Int32) (res : Int32) (hq : F_X0_isLocked cn cf p1 = some res) : roC l yX0_isLocked wsX0_isLocked (rmF 1 22) G g [.ref h1, .int p1] [(h1, .inr (0, [.int cn, .ref a1])), (a1, .inl (g 0, 96, .inl cf))] (some (.int res)) := by
  refine roC.of (cc := cX0_isLocked) (maxL := 2) (ret := (some .boolean)) (by decide) rfl (Nat.le_of_ble_eq_true rfl) ?_
  intro p e s m below meth c ls X K hP hl
  obtain ⟨hx, hb, hml, hr, hown, hts, hk⟩ := id X
  have hl : lv_has ls 2 [(0, .ref h1), (1, .int p1)] := hl
  unfold F_X0_isLocked at hq
  refine lv_aload_n hx hb dX0_isLocked_0 rfl (lv_at hl 0 rfl) ?_
  refine lv_iload_n hx hb dX0_isLocked_1 rfl (lv_at hl 1 rfl) ?_
  refine lv_iconst (v := 5) hx hb dX0_isLocked_2 (by decide) ?_
  obtain ⟨r1, h2, hq⟩ := q_bd hq
  refine roV (ci := 0) (As := [.int p1, .int 5]) (rest := []) X K (k_X0_cell l G g h1 a1 cn cf p1 5 _ h2) hd_X0_cell gX0_isLocked_X0_cell hP hl.1 dX0_isLocked_3 rfl rfl ⟨Nat.le_of_ble_eq_true rfl, Nat.le_of_ble_eq_true rfl⟩ rfl rfl rfl (Nat.le_of_ble_eq_true rfl) ⟨Nat.zero_le _, Nat.zero_le _⟩ ?_
  refine lv_iconst (v := 1) hx hb dX0_isLocked_6 (by decide) ?_
  refine lv_icmp_ne (tgt := 14) hx hb dX0_isLocked_7 (by decide) (fun c3 => ?_) (fun c3 => ?_)
  · have hq := q_if_f hq c3
    refine lv_iconst (v := 0) hx hb dX0_isLocked_14 (by decide) ?_
    obtain rfl := q_rt hq
    exact ro_zret hx hb hr nz_0 hk dX0_isLocked_15
  · have hq := q_if_t hq c3
    refine lv_iconst (v := 1) hx hb dX0_isLocked_10 (by decide) ?_
    refine lv_goto (tgt := 15) hx hb dX0_isLocked_11 (by decide) ?_
    obtain rfl := q_rt hq
    exact ro_zret hx hb hr nz_1 hk dX0_isLocked_15
theorem in_X0_countUpTo_X0 : ∀ w ∈ wsX00, w ∈ wsX0_countUpTo := fun _ h => List.mem_cons_of_mem _ (List.mem_append_right _ h)
def F_X0_countUpTo_2 (cn : Int32) (cf : Nat → Int32) (v1 : Int32) : Nat → Int32 → Option (Int32)
  | 0, _ => none
  | n + 1, v2 => if cn ≤ v2 then (some (v2)) else ((F_X0_cell cn cf v2 0).bind fun r4 => if v1 < r4 then (some (v2)) else (vlet ((v2 : Int32) + 1) fun x7 => F_X0_countUpTo_2 cn cf v1 n x7))
set_option maxHeartbeats 4000000 in
set_option maxRecDepth 100000 in
theorem w_X0_countUpTo_2 {p : Program} {l : Launch} {e : Env} {s : State} {m : MethodId} {args : Array Value} {below : List Frame} {meth : Method} {c : Code} {G : va_G} {g : Nat → ClassId} (X : cx p s m args meth c cX0_countUpTo 3 (some .int) RX0 wsX0_countUpTo) (K : amb G g s) (h1 a1 : Nat) (cn : Int32) (cf : Nat → Int32) (v1 : Int32) (hP : va_P G vwCl [(h1, .inr (0, [.int cn, .ref a1])), (a1, .inl (g 0, 96, .inl cf))] s.heap) (res : Int32) : ∀ (n : Nat) (v2 : Int32), F_X0_countUpTo_2 cn cf v1 n v2 = some res → ∀ (ls : Array Slot), lv_has ls 3 [(0, .ref h1), (1, .int v1), (2, .int v2)] → W p l e (rmF 1 22) s m args below meth c s.heap [] 0 0 (roM below (some (.int res)) args s) (F0 m 2 ls []) := by
  obtain ⟨hx, hb, hml, hr, hown, hts, hk⟩ := id X
  intro n
  induction n with
  | zero => intro v2 hq; exact q_no hq
  | succ n ih =>
    intro v2 hq ls hl
    rw [F_X0_countUpTo_2] at hq
    refine lv_iload_n hx hb dX0_countUpTo_2 rfl (lv_at hl 2 rfl) ?_
    refine lv_aload_n hx hb dX0_countUpTo_3 rfl (lv_at hl 0 rfl) ?_
    refine va_get (D := G) (ci := 0) (v := .int cn) (C := RX0) (T := TX0) (N := 2) hx hb hts in_X0_countUpTo_X0 hown K.1 hP 0 rfl rfl 0 (by decide) (hts _ (List.mem_of_getElem? (i := 1) rfl)) (fun _ h9 => h9) rfl dX0_countUpTo_4 ?_
    refine lv_icmp_ge (tgt := 26) hx hb dX0_countUpTo_7 (by decide) (fun c3 => ?_) (fun c3 => ?_)
    · have hq := q_if_t hq c3
      refine lv_iload_n hx hb dX0_countUpTo_26 rfl (lv_at hl 2 rfl) ?_
      obtain rfl := q_rt hq
      exact ro_iret hx hb hr hk dX0_countUpTo_27
    · have hq := q_if_f hq c3
      refine lv_aload_n hx hb dX0_countUpTo_10 rfl (lv_at hl 0 rfl) ?_
      refine lv_iload_n hx hb dX0_countUpTo_11 rfl (lv_at hl 2 rfl) ?_
      refine lv_iconst (v := 0) hx hb dX0_countUpTo_12 (by decide) ?_
      obtain ⟨r4, h5, hq⟩ := q_bd hq
      refine roV (ci := 0) (As := [.int v2, .int 0]) (rest := []) X K (k_X0_cell l G g h1 a1 cn cf v2 0 _ h5) hd_X0_cell gX0_countUpTo_X0_cell hP hl.1 dX0_countUpTo_13 rfl rfl ⟨Nat.le_of_ble_eq_true rfl, Nat.le_of_ble_eq_true rfl⟩ rfl rfl rfl (Nat.le_of_ble_eq_true rfl) ⟨Nat.zero_le _, Nat.zero_le _⟩ ?_
      refine lv_iload_n hx hb dX0_countUpTo_16 rfl (lv_at hl 1 rfl) ?_
      refine lv_icmp_gt (tgt := 26) hx hb dX0_countUpTo_17 (by decide) (fun c6 => ?_) (fun c6 => ?_)
      · have hq := q_if_t hq c6
        refine lv_iload_n hx hb dX0_countUpTo_26 rfl (lv_at hl 2 rfl) ?_
        obtain rfl := q_rt hq
        exact ro_iret hx hb hr hk dX0_countUpTo_27
      · have hq := q_if_f hq c6
        obtain ⟨x7, ex7⟩ : ∃ y : Int32, y = (v2 : Int32) + 1 := ⟨_, rfl⟩
        have hq := q_let hq ex7
        refine lv_iinc (v := x7) (lv' := [(2, .int x7), (0, .ref h1), (1, .int v1)]) hx hb dX0_countUpTo_20 hl (k := 2) rfl (by rw [ex7]; rfl) (by decide) rfl (fun ls hl => ?_)
        refine lv_goto (tgt := 2) hx hb dX0_countUpTo_23 (by decide) ?_
        exact ih x7 hq ls (lv_sub hl [1, 2, 0] rfl)
def F_X0_countUpTo (cn : Int32) (cf : Nat → Int32) (p1 : Int32) : Option (Int32) := F_X0_countUpTo_2 cn cf p1 2000 0
set_option maxHeartbeats 4000000 in
set_option maxRecDepth 100000 in
theorem k_X0_countUpTo (l : Launch) (G : va_G) (g : Nat → ClassId) (h1 a1 : Nat) (cn : Int32) (cf : Nat → Int32) (p1 : Int32) (res : Int32) (hq : F_X0_countUpTo cn cf p1 = some res) : roC l yX0_countUpTo wsX0_countUpTo (rmF 1 22) G g [.ref h1, .int p1] [(h1, .inr (0, [.int cn, .ref a1])), (a1, .inl (g 0, 96, .inl cf))] (some (.int res)) := by
  refine roC.of (cc := cX0_countUpTo) (maxL := 3) (ret := (some .int)) (by decide) rfl (Nat.le_of_ble_eq_true rfl) ?_
  intro p e s m below meth c ls X K hP hl
  obtain ⟨hx, hb, hml, hr, hown, hts, hk⟩ := id X
  have hl : lv_has ls 3 [(0, .ref h1), (1, .int p1)] := hl
  unfold F_X0_countUpTo at hq
  refine lv_iconst (v := 0) hx hb dX0_countUpTo_0 (by decide) ?_
  refine lv_istore_n (lv' := [(2, .int 0), (0, .ref h1), (1, .int p1)]) hx hb dX0_countUpTo_1 rfl hl (by decide) rfl (fun ls hl => ?_)
  exact w_X0_countUpTo_2 X K h1 a1 cn cf p1 hP _ 2000 0 hq ls (lv_sub hl [1, 2, 0] rfl)
theorem in_X0_put_X0 : ∀ w ∈ wsX00, w ∈ wsX0_put := fun _ h => List.mem_cons_of_mem _ (List.mem_append_right _ h)
def F_X0_put (cn : Int32) (cf : Nat → Int32) (p1 : Int32) (p2 : Int32) (p3 : Int32) : Option ((Nat → Int32)) := if p1 < 0 then (some (cf)) else (if cn ≤ p1 then (some (cf)) else (vgd (ix ((p1 * 6) + p2) 96) <| vlet (upd cf ((p1 * 6) + p2).toNatClampNeg p3) fun f4 => some (f4)))
set_option maxHeartbeats 4000000 in
set_option maxRecDepth 100000 in
theorem k_X0_put (l : Launch) (G : va_G) (g : Nat → ClassId) (h1 a1 : Nat) (cn : Int32) (cf : Nat → Int32) (p1 : Int32) (p2 : Int32) (p3 : Int32) (res : (Nat → Int32)) (hq : F_X0_put cn cf p1 p2 p3 = some res) : rwC l yX0_put wsX0_put (rmF 0 0) G g [.ref h1, .int p1, .int p2, .int p3] [(h1, .inr (0, [.int cn, .ref a1])), (a1, .inl (g 0, 96, .inl cf))] none [(h1, .inr (0, [.int cn, .ref a1])), (a1, .inl (g 0, 96, .inl res))] := by
  refine rwC.of (cc := cX0_put) (maxL := 4) (ret := none) (by decide) rfl (Nat.le_of_ble_eq_true rfl) ?_
  intro p e s m below meth c ls A X K hA hP hD hS hl
  obtain ⟨hx, hb, hml, hr, hown, hts, hk⟩ := id X
  have hl : lv_has ls 4 [(0, .ref h1), (1, .int p1), (2, .int p2), (3, .int p3)] := hl
  unfold F_X0_put at hq
  refine lv_iload_n hx hb dX0_put_0 rfl (lv_at hl 1 rfl) ?_
  refine lv_if_lt (tgt := 24) hx hb dX0_put_1 (by decide) (fun c1 => ?_) (fun c1 => ?_)
  · have hq := q_if_t hq c1
    obtain rfl := q_rt hq
    exact rw_vret hx hb hr hk hP hD hS dX0_put_24
  · have hq := q_if_f hq c1
    refine lv_iload_n hx hb dX0_put_4 rfl (lv_at hl 1 rfl) ?_
    refine lv_aload_n hx hb dX0_put_5 rfl (lv_at hl 0 rfl) ?_
    refine va_get (D := G) (ci := 0) (v := .int cn) (C := RX0) (T := TX0) (N := 2) hx hb hts in_X0_put_X0 hown K.1 hP 0 rfl rfl 0 (by decide) (hts _ (List.mem_of_getElem? (i := 1) rfl)) (fun _ h9 => h9) rfl dX0_put_6 ?_
    refine lv_icmp_ge (tgt := 24) hx hb dX0_put_9 (by decide) (fun c2 => ?_) (fun c2 => ?_)
    · have hq := q_if_t hq c2
      obtain rfl := q_rt hq
      exact rw_vret hx hb hr hk hP hD hS dX0_put_24
    · have hq := q_if_f hq c2
      refine lv_aload_n hx hb dX0_put_12 rfl (lv_at hl 0 rfl) ?_
      refine va_get (D := G) (ci := 0) (v := .ref a1) (C := RX0) (T := TX0) (N := 2) hx hb hts in_X0_put_X0 hown K.1 hP 0 rfl rfl 1 (by decide) (hts _ (List.mem_of_getElem? (i := 2) rfl)) (fun _ h9 => h9) rfl dX0_put_13 ?_
      refine lv_iload_n hx hb dX0_put_16 rfl (lv_at hl 1 rfl) ?_
      refine lv_bipush (v := 6) hx hb dX0_put_17 (by decide) ?_
      refine lv_imul hx hb dX0_put_19 ?_
      refine lv_iload_n hx hb dX0_put_20 rfl (lv_at hl 2 rfl) ?_
      refine lv_iadd hx hb dX0_put_21 ?_
      refine lv_iload_n hx hb dX0_put_22 rfl (lv_at hl 3 rfl) ?_
      obtain ⟨h3, hq⟩ := q_gd hq
      refine va_iast hx hb K.1 hP hD hS 1 0 rfl rfl (vp_in_iff.mpr h3) dX0_put_23 (fun H locs hP hD hS => ?_)
      obtain ⟨f4, ef4⟩ : ∃ y, y = upd cf ((p1 * 6) + p2).toNatClampNeg p3 := ⟨_, rfl⟩
      have hq := q_let hq ef4
      have hP : va_P G vwCl [(h1, .inr (0, [.int cn, .ref a1])), (a1, .inl (g 0, 96, .inl f4))] H := by rw [ef4]; exact hP
      have hD : va_D A [(h1, .inr (0, [.int cn, .ref a1])), (a1, .inl (g 0, 96, .inl f4))] := by rw [ef4]; exact hD
      obtain rfl := q_rt hq
      exact rw_vret hx hb hr hk hP hD hS dX0_put_24

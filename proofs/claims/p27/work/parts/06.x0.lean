theorem in_X0_cell_X0 : ∀ w ∈ wsX00, w ∈ wsX0_cell := fun _ h => List.mem_cons_of_mem _ (List.mem_append_right _ h)
def F_X0_cell (cn : Int32) (cf : Nat → Int32) (p1 : Int32) (p2 : Int32) : Option (Int32) := if p1 < 0 then (some (0)) else (if cn ≤ p1 then (some (0)) else (vgd (ix ((p1 * 6) + p2) 96) <| some (cf ((p1 * 6) + p2).toNatClampNeg)))
set_option maxHeartbeats 4000000 in
set_option maxRecDepth 100000 in
theorem k_X0_cell (l : Launch) (G : va_G) (g : Nat → ClassId) (h1 a1 : Nat) (cn : Int32) (cf : Nat → Int32) (p1 : Int32) (p2 : Int32) (res : Int32) (hq : F_X0_cell cn cf p1 p2 = some res) : roC l yX0_cell wsX0_cell (rmF 0 0) G g [.ref h1, .int p1, .int p2] [(h1, .inr (0, [.int cn, .ref a1])), (a1, .inl (g 0, 96, .inl cf))] (some (.int res)) := by
  refine roC.of (cc := cX0_cell) (maxL := 3) (ret := (some .int)) (by decide) rfl (Nat.le_of_ble_eq_true rfl) ?_
  intro p e s m below meth c ls X K hP hl
  obtain ⟨hx, hb, hml, hr, hown, hts, hk⟩ := id X
  have hl : lv_has ls 3 [(0, .ref h1), (1, .int p1), (2, .int p2)] := hl
  unfold F_X0_cell at hq
  refine lv_iload_n hx hb dX0_cell_0 rfl (lv_at hl 1 rfl) ?_
  refine lv_if_lt (tgt := 26) hx hb dX0_cell_1 (by decide) (fun c1 => ?_) (fun c1 => ?_)
  · have hq := q_if_t hq c1
    refine lv_iconst (v := 0) hx hb dX0_cell_26 (by decide) ?_
    obtain rfl := q_rt hq
    exact ro_iret hx hb hr hk dX0_cell_27
  · have hq := q_if_f hq c1
    refine lv_iload_n hx hb dX0_cell_4 rfl (lv_at hl 1 rfl) ?_
    refine lv_aload_n hx hb dX0_cell_5 rfl (lv_at hl 0 rfl) ?_
    refine va_get (D := G) (ci := 0) (v := .int cn) (C := RX0) (T := TX0) (N := 2) hx hb hts in_X0_cell_X0 hown K.1 hP 0 rfl rfl 0 (by decide) (hts _ (List.mem_of_getElem? (i := 1) rfl)) (fun _ h9 => h9) rfl dX0_cell_6 ?_
    refine lv_icmp_ge (tgt := 26) hx hb dX0_cell_9 (by decide) (fun c2 => ?_) (fun c2 => ?_)
    · have hq := q_if_t hq c2
      refine lv_iconst (v := 0) hx hb dX0_cell_26 (by decide) ?_
      obtain rfl := q_rt hq
      exact ro_iret hx hb hr hk dX0_cell_27
    · have hq := q_if_f hq c2
      refine lv_aload_n hx hb dX0_cell_12 rfl (lv_at hl 0 rfl) ?_
      refine va_get (D := G) (ci := 0) (v := .ref a1) (C := RX0) (T := TX0) (N := 2) hx hb hts in_X0_cell_X0 hown K.1 hP 0 rfl rfl 1 (by decide) (hts _ (List.mem_of_getElem? (i := 2) rfl)) (fun _ h9 => h9) rfl dX0_cell_13 ?_
      refine lv_iload_n hx hb dX0_cell_16 rfl (lv_at hl 1 rfl) ?_
      refine lv_bipush (v := 6) hx hb dX0_cell_17 (by decide) ?_
      refine lv_imul hx hb dX0_cell_19 ?_
      refine lv_iload_n hx hb dX0_cell_20 rfl (lv_at hl 2 rfl) ?_
      refine lv_iadd hx hb dX0_cell_21 ?_
      obtain ⟨hh3, hq⟩ := q_gd hq
      refine va_iald hx hb K.1 hP 1 0 rfl rfl (vp_in_iff.mpr hh3) dX0_cell_22 ?_
      refine lv_goto (tgt := 27) hx hb dX0_cell_23 (by decide) ?_
      obtain rfl := q_rt hq
      exact ro_iret hx hb hr hk dX0_cell_27
theorem in_X0_put_X0 : ∀ w ∈ wsX00, w ∈ wsX0_put := fun _ h => List.mem_cons_of_mem _ (List.mem_append_right _ h)
def F_X0_put (cn : Int32) (cf : Nat → Int32) (p1 : Int32) (p2 : Int32) (p3 : Int32) : Option ((Nat → Int32)) := if p1 < 0 then (some (cf)) else (if cn ≤ p1 then (some (cf)) else (vgd (ix ((p1 * 6) + p2) 96) <| vlet (upd cf ((p1 * 6) + p2).toNatClampNeg p3) fun f4 => some (f4)))
set_option maxHeartbeats 4000000 in
set_option maxRecDepth 100000 in
theorem k_X0_put (l : Launch) (G : va_G) (g : Nat → ClassId) (h1 a1 : Nat) (cn : Int32) (cf : Nat → Int32) (p1 : Int32) (p2 : Int32) (p3 : Int32) (res : (Nat → Int32)) (hq : F_X0_put cn cf p1 p2 p3 = some res) : rwC l yX0_put wsX0_put (rmF 0 0) G g [.ref h1, .int p1, .int p2, .int p3] [(h1, .inr (0, [.int cn, .ref a1])), (a1, .inl (g 0, 96, .inl cf))] none [(h1, .inr (0, [.int cn, .ref a1])), (a1, .inl (g 0, 96, .inl res))] := by
  refine rwC.of (cc := cX0_put) (maxL := 4) (ret := none) (by decide) rfl (Nat.le_of_ble_eq_true rfl) ?_
  intro p e s m below meth c ls A X K hA hP hD hS hl
  obtain ⟨hx, hb, hml, hr, hown, hts, hk⟩ := id X
  have hl : lv_has ls 4 [(0, .ref h1), (1, .int p1), (2, .int p2), (3, .int p3)] := hl
  unfold F_X0_put at hq
  refine lv_iload_n hx hb dX0_put_0 rfl (lv_at hl 1 rfl) ?_
  refine lv_if_lt (tgt := 24) hx hb dX0_put_1 (by decide) (fun c1 => ?_) (fun c1 => ?_)
  · have hq := q_if_t hq c1
    obtain rfl := q_rt hq
    exact rw_vret hx hb hr hk hP hD hS dX0_put_24
  · have hq := q_if_f hq c1
    refine lv_iload_n hx hb dX0_put_4 rfl (lv_at hl 1 rfl) ?_
    refine lv_aload_n hx hb dX0_put_5 rfl (lv_at hl 0 rfl) ?_
    refine va_get (D := G) (ci := 0) (v := .int cn) (C := RX0) (T := TX0) (N := 2) hx hb hts in_X0_put_X0 hown K.1 hP 0 rfl rfl 0 (by decide) (hts _ (List.mem_of_getElem? (i := 1) rfl)) (fun _ h9 => h9) rfl dX0_put_6 ?_
    refine lv_icmp_ge (tgt := 24) hx hb dX0_put_9 (by decide) (fun c2 => ?_) (fun c2 => ?_)
    · have hq := q_if_t hq c2
      obtain rfl := q_rt hq
      exact rw_vret hx hb hr hk hP hD hS dX0_put_24
    · have hq := q_if_f hq c2
      refine lv_aload_n hx hb dX0_put_12 rfl (lv_at hl 0 rfl) ?_
      refine va_get (D := G) (ci := 0) (v := .ref a1) (C := RX0) (T := TX0) (N := 2) hx hb hts in_X0_put_X0 hown K.1 hP 0 rfl rfl 1 (by decide) (hts _ (List.mem_of_getElem? (i := 2) rfl)) (fun _ h9 => h9) rfl dX0_put_13 ?_
      refine lv_iload_n hx hb dX0_put_16 rfl (lv_at hl 1 rfl) ?_
      refine lv_bipush (v := 6) hx hb dX0_put_17 (by decide) ?_
      refine lv_imul hx hb dX0_put_19 ?_
      refine lv_iload_n hx hb dX0_put_20 rfl (lv_at hl 2 rfl) ?_
      refine lv_iadd hx hb dX0_put_21 ?_
      refine lv_iload_n hx hb dX0_put_22 rfl (lv_at hl 3 rfl) ?_
      obtain ⟨hh3, hq⟩ := q_gd hq
      refine va_iast hx hb K.1 hP hD hS 1 0 rfl rfl (vp_in_iff.mpr hh3) dX0_put_23 (fun H locs hP hD hS => ?_)
      obtain ⟨f4, ef4⟩ : ∃ y, y = upd cf ((p1 * 6) + p2).toNatClampNeg p3 := ⟨_, rfl⟩
      have hq := q_let hq ef4
      have hP : va_P G vwCl [(h1, .inr (0, [.int cn, .ref a1])), (a1, .inl (g 0, 96, .inl f4))] H := by rw [ef4]; exact hP
      have hD : va_D A [(h1, .inr (0, [.int cn, .ref a1])), (a1, .inl (g 0, 96, .inl f4))] := by rw [ef4]; exact hD
      obtain rfl := q_rt hq
      exact rw_vret hx hb hr hk hP hD hS dX0_put_24
theorem hd_X0_cell : ynm yX0_cell 2 := by unfold ynm; decide +kernel
def F_X0_isLocked (cn : Int32) (cf : Nat → Int32) (p1 : Int32) : Option (Int32) := (F_X0_cell cn cf p1 5).bind fun r1 => if r1 = 1 then (some (1)) else (some (0))
set_option maxHeartbeats 4000000 in
set_option maxRecDepth 100000 in
theorem k_X0_isLocked (l : Launch) (G : va_G) (g : Nat → ClassId) (h1 a1 : Nat) (cn : Int32) (cf : Nat → Int32) (p1 : Int32) (res : Int32) (hq : F_X0_isLocked cn cf p1 = some res) : roC l yX0_isLocked wsX0_isLocked (rmF 1 22) G g [.ref h1, .int p1] [(h1, .inr (0, [.int cn, .ref a1])), (a1, .inl (g 0, 96, .inl cf))] (some (.int res)) := by
  refine roC.of (cc := cX0_isLocked) (maxL := 2) (ret := (some .boolean)) (by decide) rfl (Nat.le_of_ble_eq_true rfl) ?_
  intro p e s m below meth c ls X K hP hl
  obtain ⟨hx, hb, hml, hr, hown, hts, hk⟩ := id X
  have hl : lv_has ls 2 [(0, .ref h1), (1, .int p1)] := hl
  unfold F_X0_isLocked at hq
  refine lv_aload_n hx hb dX0_isLocked_0 rfl (lv_at hl 0 rfl) ?_
  refine lv_iload_n hx hb dX0_isLocked_1 rfl (lv_at hl 1 rfl) ?_
  refine lv_iconst (v := 5) hx hb dX0_isLocked_2 (by decide) ?_
  obtain ⟨r1, hh2, hq⟩ := q_bd hq
  refine roV (ci := 0) (As := [.int p1, .int 5]) (rest := []) X K (k_X0_cell l G g h1 a1 cn cf p1 5 _ hh2) hd_X0_cell gX0_isLocked_X0_cell hP hl.1 dX0_isLocked_3 rfl rfl ⟨Nat.le_of_ble_eq_true rfl, Nat.le_of_ble_eq_true rfl⟩ rfl rfl rfl (Nat.le_of_ble_eq_true rfl) ⟨Nat.zero_le _, Nat.zero_le _⟩ ?_
  refine lv_iconst (v := 1) hx hb dX0_isLocked_6 (by decide) ?_
  refine lv_icmp_ne (tgt := 14) hx hb dX0_isLocked_7 (by decide) (fun c3 => ?_) (fun c3 => ?_)
  · have hq := q_if_f hq c3
    refine lv_iconst (v := 0) hx hb dX0_isLocked_14 (by decide) ?_
    obtain rfl := q_rt hq
    exact ro_zret hx hb hr nz_0 hk dX0_isLocked_15
  · have hq := q_if_t hq c3
    refine lv_iconst (v := 1) hx hb dX0_isLocked_10 (by decide) ?_
    refine lv_goto (tgt := 15) hx hb dX0_isLocked_11 (by decide) ?_
    obtain rfl := q_rt hq
    exact ro_zret hx hb hr nz_1 hk dX0_isLocked_15
theorem hd_X0_isLocked : ynm yX0_isLocked 1 := by unfold ynm; decide +kernel
theorem in_X0_hasLock_X0 : ∀ w ∈ wsX00, w ∈ wsX0_hasLock := fun _ h => List.mem_cons_of_mem _ (List.mem_append_right _ h)
def F_X0_hasLock_2 (cn : Int32) (cf : Nat → Int32) : Nat → Int32 → Option (Int32)
  | 0, _ => none
  | n + 1, v1 => if cn ≤ v1 then (some (0)) else ((F_X0_isLocked cn cf v1).bind fun r3 => if r3 = 0 then (vlet ((v1 : Int32) + 1) fun x6 => F_X0_hasLock_2 cn cf n x6) else (some (1)))
set_option maxHeartbeats 4000000 in
set_option maxRecDepth 100000 in
theorem w_X0_hasLock_2 {p : Program} {l : Launch} {e : Env} {s : State} {m : MethodId} {args : Array Value} {below : List Frame} {meth : Method} {c : Code} {G : va_G} {g : Nat → ClassId} (X : cx p s m args meth c cX0_hasLock 2 (some .boolean) RX0 wsX0_hasLock) (K : amb G g s) (h1 a1 : Nat) (cn : Int32) (cf : Nat → Int32) (hP : va_P G vwCl [(h1, .inr (0, [.int cn, .ref a1])), (a1, .inl (g 0, 96, .inl cf))] s.heap) (res : Int32) : ∀ (n : Nat) (v1 : Int32), F_X0_hasLock_2 cn cf n v1 = some res → ∀ (ls : Array Slot), lv_has ls 2 [(0, .ref h1), (1, .int v1)] → W p l e (rmF 2 43) s m args below meth c s.heap [] 0 0 (roM below (some (.int res)) args s) (F0 m 2 ls []) := by
  obtain ⟨hx, hb, hml, hr, hown, hts, hk⟩ := id X
  intro n
  induction n with
  | zero => intro v1 hq; exact q_no hq
  | succ n ih =>
    intro v1 hq ls hl
    rw [F_X0_hasLock_2] at hq
    refine lv_iload_n hx hb dX0_hasLock_2 rfl (lv_at hl 1 rfl) ?_
    refine lv_aload_n hx hb dX0_hasLock_3 rfl (lv_at hl 0 rfl) ?_
    refine va_get (D := G) (ci := 0) (v := .int cn) (C := RX0) (T := TX0) (N := 2) hx hb hts in_X0_hasLock_X0 hown K.1 hP 0 rfl rfl 0 (by decide) (hts _ (List.mem_of_getElem? (i := 1) rfl)) (fun _ h9 => h9) rfl dX0_hasLock_4 ?_
    refine lv_icmp_ge (tgt := 26) hx hb dX0_hasLock_7 (by decide) (fun c2 => ?_) (fun c2 => ?_)
    · have hq := q_if_t hq c2
      refine lv_iconst (v := 0) hx hb dX0_hasLock_26 (by decide) ?_
      obtain rfl := q_rt hq
      exact ro_zret hx hb hr nz_0 hk dX0_hasLock_27
    · have hq := q_if_f hq c2
      refine lv_aload_n hx hb dX0_hasLock_10 rfl (lv_at hl 0 rfl) ?_
      refine lv_iload_n hx hb dX0_hasLock_11 rfl (lv_at hl 1 rfl) ?_
      obtain ⟨r3, hh4, hq⟩ := q_bd hq
      refine roV (ci := 0) (As := [.int v1]) (rest := []) X K (k_X0_isLocked l G g h1 a1 cn cf v1 _ hh4) hd_X0_isLocked gX0_hasLock_X0_isLocked hP hl.1 dX0_hasLock_12 rfl rfl ⟨Nat.le_of_ble_eq_true rfl, Nat.le_of_ble_eq_true rfl⟩ rfl rfl rfl (Nat.le_of_ble_eq_true rfl) ⟨Nat.zero_le _, Nat.zero_le _⟩ ?_
      refine lv_if_eq (tgt := 20) hx hb dX0_hasLock_15 (by decide) (fun c5 => ?_) (fun c5 => ?_)
      · have hq := q_if_t hq c5
        obtain ⟨x6, ex6⟩ : ∃ y : Int32, y = (v1 : Int32) + 1 := ⟨_, rfl⟩
        have hq := q_let hq ex6
        refine lv_iinc (v := x6) (lv' := [(1, .int x6), (0, .ref h1)]) hx hb dX0_hasLock_20 hl (k := 1) rfl (by rw [ex6]; rfl) (by decide) rfl (fun ls hl => ?_)
        refine lv_goto (tgt := 2) hx hb dX0_hasLock_23 (by decide) ?_
        exact ih x6 hq ls (lv_sub hl [1, 0] rfl)
      · have hq := q_if_f hq c5
        refine lv_iconst (v := 1) hx hb dX0_hasLock_18 (by decide) ?_
        obtain rfl := q_rt hq
        exact ro_zret hx hb hr nz_1 hk dX0_hasLock_19
def F_X0_hasLock (cn : Int32) (cf : Nat → Int32) : Option (Int32) := F_X0_hasLock_2 cn cf 2000 0
set_option maxHeartbeats 4000000 in
set_option maxRecDepth 100000 in
theorem k_X0_hasLock (l : Launch) (G : va_G) (g : Nat → ClassId) (h1 a1 : Nat) (cn : Int32) (cf : Nat → Int32) (res : Int32) (hq : F_X0_hasLock cn cf = some res) : roC l yX0_hasLock wsX0_hasLock (rmF 2 43) G g [.ref h1] [(h1, .inr (0, [.int cn, .ref a1])), (a1, .inl (g 0, 96, .inl cf))] (some (.int res)) := by
  refine roC.of (cc := cX0_hasLock) (maxL := 2) (ret := (some .boolean)) (by decide) rfl (Nat.le_of_ble_eq_true rfl) ?_
  intro p e s m below meth c ls X K hP hl
  obtain ⟨hx, hb, hml, hr, hown, hts, hk⟩ := id X
  have hl : lv_has ls 2 [(0, .ref h1)] := hl
  unfold F_X0_hasLock at hq
  refine lv_iconst (v := 0) hx hb dX0_hasLock_0 (by decide) ?_
  refine lv_istore_n (lv' := [(1, .int 0), (0, .ref h1)]) hx hb dX0_hasLock_1 rfl hl (by decide) rfl (fun ls hl => ?_)
  exact w_X0_hasLock_2 X K h1 a1 cn cf hP _ 2000 0 hq ls (lv_sub hl [1, 0] rfl)
theorem in_X0_countUpTo_X0 : ∀ w ∈ wsX00, w ∈ wsX0_countUpTo := fun _ h => List.mem_cons_of_mem _ (List.mem_append_right _ h)
def F_X0_countUpTo_2 (cn : Int32) (cf : Nat → Int32) (v1 : Int32) : Nat → Int32 → Option (Int32)
  | 0, _ => none
  | n + 1, v2 => if cn ≤ v2 then (some (v2)) else ((F_X0_cell cn cf v2 0).bind fun r4 => if v1 < r4 then (some (v2)) else (vlet ((v2 : Int32) + 1) fun x7 => F_X0_countUpTo_2 cn cf v1 n x7))
set_option maxHeartbeats 4000000 in
set_option maxRecDepth 100000 in
theorem w_X0_countUpTo_2 {p : Program} {l : Launch} {e : Env} {s : State} {m : MethodId} {args : Array Value} {below : List Frame} {meth : Method} {c : Code} {G : va_G} {g : Nat → ClassId} (X : cx p s m args meth c cX0_countUpTo 3 (some .int) RX0 wsX0_countUpTo) (K : amb G g s) (h1 a1 : Nat) (cn : Int32) (cf : Nat → Int32) (v1 : Int32) (hP : va_P G vwCl [(h1, .inr (0, [.int cn, .ref a1])), (a1, .inl (g 0, 96, .inl cf))] s.heap) (res : Int32) : ∀ (n : Nat) (v2 : Int32), F_X0_countUpTo_2 cn cf v1 n v2 = some res → ∀ (ls : Array Slot), lv_has ls 3 [(0, .ref h1), (1, .int v1), (2, .int v2)] → W p l e (rmF 1 22) s m args below meth c s.heap [] 0 0 (roM below (some (.int res)) args s) (F0 m 2 ls []) := by
  obtain ⟨hx, hb, hml, hr, hown, hts, hk⟩ := id X
  intro n
  induction n with
  | zero => intro v2 hq; exact q_no hq
  | succ n ih =>
    intro v2 hq ls hl
    rw [F_X0_countUpTo_2] at hq
    refine lv_iload_n hx hb dX0_countUpTo_2 rfl (lv_at hl 2 rfl) ?_
    refine lv_aload_n hx hb dX0_countUpTo_3 rfl (lv_at hl 0 rfl) ?_
    refine va_get (D := G) (ci := 0) (v := .int cn) (C := RX0) (T := TX0) (N := 2) hx hb hts in_X0_countUpTo_X0 hown K.1 hP 0 rfl rfl 0 (by decide) (hts _ (List.mem_of_getElem? (i := 1) rfl)) (fun _ h9 => h9) rfl dX0_countUpTo_4 ?_
    refine lv_icmp_ge (tgt := 26) hx hb dX0_countUpTo_7 (by decide) (fun c3 => ?_) (fun c3 => ?_)
    · have hq := q_if_t hq c3
      refine lv_iload_n hx hb dX0_countUpTo_26 rfl (lv_at hl 2 rfl) ?_
      obtain rfl := q_rt hq
      exact ro_iret hx hb hr hk dX0_countUpTo_27
    · have hq := q_if_f hq c3
      refine lv_aload_n hx hb dX0_countUpTo_10 rfl (lv_at hl 0 rfl) ?_
      refine lv_iload_n hx hb dX0_countUpTo_11 rfl (lv_at hl 2 rfl) ?_
      refine lv_iconst (v := 0) hx hb dX0_countUpTo_12 (by decide) ?_
      obtain ⟨r4, hh5, hq⟩ := q_bd hq
      refine roV (ci := 0) (As := [.int v2, .int 0]) (rest := []) X K (k_X0_cell l G g h1 a1 cn cf v2 0 _ hh5) hd_X0_cell gX0_countUpTo_X0_cell hP hl.1 dX0_countUpTo_13 rfl rfl ⟨Nat.le_of_ble_eq_true rfl, Nat.le_of_ble_eq_true rfl⟩ rfl rfl rfl (Nat.le_of_ble_eq_true rfl) ⟨Nat.zero_le _, Nat.zero_le _⟩ ?_
      refine lv_iload_n hx hb dX0_countUpTo_16 rfl (lv_at hl 1 rfl) ?_
      refine lv_icmp_gt (tgt := 26) hx hb dX0_countUpTo_17 (by decide) (fun c6 => ?_) (fun c6 => ?_)
      · have hq := q_if_t hq c6
        refine lv_iload_n hx hb dX0_countUpTo_26 rfl (lv_at hl 2 rfl) ?_
        obtain rfl := q_rt hq
        exact ro_iret hx hb hr hk dX0_countUpTo_27
      · have hq := q_if_f hq c6
        obtain ⟨x7, ex7⟩ : ∃ y : Int32, y = (v2 : Int32) + 1 := ⟨_, rfl⟩
        have hq := q_let hq ex7
        refine lv_iinc (v := x7) (lv' := [(2, .int x7), (0, .ref h1), (1, .int v1)]) hx hb dX0_countUpTo_20 hl (k := 2) rfl (by rw [ex7]; rfl) (by decide) rfl (fun ls hl => ?_)
        refine lv_goto (tgt := 2) hx hb dX0_countUpTo_23 (by decide) ?_
        exact ih x7 hq ls (lv_sub hl [1, 2, 0] rfl)
def F_X0_countUpTo (cn : Int32) (cf : Nat → Int32) (p1 : Int32) : Option (Int32) := F_X0_countUpTo_2 cn cf p1 2000 0
set_option maxHeartbeats 4000000 in
set_option maxRecDepth 100000 in
theorem k_X0_countUpTo (l : Launch) (G : va_G) (g : Nat → ClassId) (h1 a1 : Nat) (cn : Int32) (cf : Nat → Int32) (p1 : Int32) (res : Int32) (hq : F_X0_countUpTo cn cf p1 = some res) : roC l yX0_countUpTo wsX0_countUpTo (rmF 1 22) G g [.ref h1, .int p1] [(h1, .inr (0, [.int cn, .ref a1])), (a1, .inl (g 0, 96, .inl cf))] (some (.int res)) := by
  refine roC.of (cc := cX0_countUpTo) (maxL := 3) (ret := (some .int)) (by decide) rfl (Nat.le_of_ble_eq_true rfl) ?_
  intro p e s m below meth c ls X K hP hl
  obtain ⟨hx, hb, hml, hr, hown, hts, hk⟩ := id X
  have hl : lv_has ls 3 [(0, .ref h1), (1, .int p1)] := hl
  unfold F_X0_countUpTo at hq
  refine lv_iconst (v := 0) hx hb dX0_countUpTo_0 (by decide) ?_
  refine lv_istore_n (lv' := [(2, .int 0), (0, .ref h1), (1, .int p1)]) hx hb dX0_countUpTo_1 rfl hl (by decide) rfl (fun ls hl => ?_)
  exact w_X0_countUpTo_2 X K h1 a1 cn cf p1 hP _ 2000 0 hq ls (lv_sub hl [1, 2, 0] rfl)
theorem hd_X0_countUpTo : ynm yX0_countUpTo 1 := by unfold ynm; decide +kernel
def F_X0_numberAtFrame (cn : Int32) (cf : Nat → Int32) (p1 : Int32) : Option (Int32) := (F_X0_countUpTo cn cf p1).bind fun r1 => vlet (r1 - 1) fun x3 => if x3 < 0 then (some ((-1))) else ((F_X0_cell cn cf x3 0).bind fun r5 => if r5 = p1 then (some (x3)) else (some ((-1))))
set_option maxHeartbeats 4000000 in
set_option maxRecDepth 100000 in
theorem k_X0_numberAtFrame (l : Launch) (G : va_G) (g : Nat → ClassId) (h1 a1 : Nat) (cn : Int32) (cf : Nat → Int32) (p1 : Int32) (res : Int32) (hq : F_X0_numberAtFrame cn cf p1 = some res) : roC l yX0_numberAtFrame wsX0_numberAtFrame (rmF 2 44) G g [.ref h1, .int p1] [(h1, .inr (0, [.int cn, .ref a1])), (a1, .inl (g 0, 96, .inl cf))] (some (.int res)) := by
  refine roC.of (cc := cX0_numberAtFrame) (maxL := 3) (ret := (some .int)) (by decide) rfl (Nat.le_of_ble_eq_true rfl) ?_
  intro p e s m below meth c ls X K hP hl
  obtain ⟨hx, hb, hml, hr, hown, hts, hk⟩ := id X
  have hl : lv_has ls 3 [(0, .ref h1), (1, .int p1)] := hl
  unfold F_X0_numberAtFrame at hq
  refine lv_aload_n hx hb dX0_numberAtFrame_0 rfl (lv_at hl 0 rfl) ?_
  refine lv_iload_n hx hb dX0_numberAtFrame_1 rfl (lv_at hl 1 rfl) ?_
  obtain ⟨r1, hh2, hq⟩ := q_bd hq
  refine roV (ci := 0) (As := [.int p1]) (rest := []) X K (k_X0_countUpTo l G g h1 a1 cn cf p1 _ hh2) hd_X0_countUpTo gX0_numberAtFrame_X0_countUpTo hP hl.1 dX0_numberAtFrame_2 rfl rfl ⟨Nat.le_of_ble_eq_true rfl, Nat.le_of_ble_eq_true rfl⟩ rfl rfl rfl (Nat.le_of_ble_eq_true rfl) ⟨Nat.zero_le _, Nat.zero_le _⟩ ?_
  refine lv_iconst (v := 1) hx hb dX0_numberAtFrame_5 (by decide) ?_
  refine lv_isub hx hb dX0_numberAtFrame_6 ?_
  refine lv_topi (fun x3 ex3 => ?_)
  have hq := q_let hq ex3
  refine lv_istore_n (lv' := [(2, .int x3), (0, .ref h1), (1, .int p1)]) hx hb dX0_numberAtFrame_7 rfl hl (by decide) rfl (fun ls hl => ?_)
  refine lv_iload_n hx hb dX0_numberAtFrame_8 rfl (lv_at hl 0 rfl) ?_
  refine lv_if_lt (tgt := 26) hx hb dX0_numberAtFrame_9 (by decide) (fun c4 => ?_) (fun c4 => ?_)
  · have hq := q_if_t hq c4
    refine lv_iconst (v := (-1)) hx hb dX0_numberAtFrame_26 (by decide) ?_
    obtain rfl := q_rt hq
    exact ro_iret hx hb hr hk dX0_numberAtFrame_27
  · have hq := q_if_f hq c4
    refine lv_aload_n hx hb dX0_numberAtFrame_12 rfl (lv_at hl 1 rfl) ?_
    refine lv_iload_n hx hb dX0_numberAtFrame_13 rfl (lv_at hl 0 rfl) ?_
    refine lv_iconst (v := 0) hx hb dX0_numberAtFrame_14 (by decide) ?_
    obtain ⟨r5, hh6, hq⟩ := q_bd hq
    refine roV (ci := 0) (As := [.int x3, .int 0]) (rest := []) X K (k_X0_cell l G g h1 a1 cn cf x3 0 _ hh6) hd_X0_cell gX0_numberAtFrame_X0_cell hP hl.1 dX0_numberAtFrame_15 rfl rfl ⟨Nat.le_of_ble_eq_true rfl, Nat.le_of_ble_eq_true rfl⟩ rfl rfl rfl (Nat.le_of_ble_eq_true rfl) ⟨Nat.zero_le _, Nat.zero_le _⟩ ?_
    refine lv_iload_n hx hb dX0_numberAtFrame_18 rfl (lv_at hl 2 rfl) ?_
    refine lv_icmp_ne (tgt := 26) hx hb dX0_numberAtFrame_19 (by decide) (fun c7 => ?_) (fun c7 => ?_)
    · have hq := q_if_f hq c7
      refine lv_iconst (v := (-1)) hx hb dX0_numberAtFrame_26 (by decide) ?_
      obtain rfl := q_rt hq
      exact ro_iret hx hb hr hk dX0_numberAtFrame_27
    · have hq := q_if_t hq c7
      refine lv_iload_n hx hb dX0_numberAtFrame_22 rfl (lv_at hl 0 rfl) ?_
      refine lv_goto (tgt := 27) hx hb dX0_numberAtFrame_23 (by decide) ?_
      obtain rfl := q_rt hq
      exact ro_iret hx hb hr hk dX0_numberAtFrame_27
theorem hd_X0_put : ynm yX0_put 3 := by unfold ynm; decide +kernel
theorem in_X0_insert_X0 : ∀ w ∈ wsX00, w ∈ wsX0_insert := fun _ h => List.mem_cons_of_mem _ (List.mem_append_right _ h)
def F_X0_insert (cn : Int32) (cf : Nat → Int32) (p1 : Int32) (p2 : Int32) (p3 : Int32) (p4 : Int32) (p5 : Int32) (p6 : Int32) : Option (Int32 × Int32 × (Nat → Int32)) := if cn < 16 then ((F_X0_countUpTo cn cf p1).bind fun r2 => vlet (r2 * 6) fun x4 => vgd (¬ x4 < 0 ∧ ¬ (x4 + 6) < 0 ∧ ¬ ((cn - r2) * 6) < 0 ∧ x4.toNatClampNeg + ((cn - r2) * 6).toNatClampNeg ≤ 96 ∧ (x4 + 6).toNatClampNeg + ((cn - r2) * 6).toNatClampNeg ≤ 96) <| vlet (va_cpy cf cf x4.toNatClampNeg (x4 + 6).toNatClampNeg ((cn - r2) * 6).toNatClampNeg) fun f6 => vlet (cn + 1) fun x7 => (F_X0_put x7 f6 r2 0 p1).bind fun y8 => (F_X0_put x7 y8 r2 1 p2).bind fun y10 => (F_X0_put x7 y10 r2 2 p3).bind fun y12 => (F_X0_put x7 y12 r2 3 p4).bind fun y14 => (F_X0_put x7 y14 r2 4 p5).bind fun y16 => (F_X0_put x7 y16 r2 5 p6).bind fun y18 => some (r2, x7, y18)) else (some ((-1), cn, cf))
set_option maxHeartbeats 4000000 in
set_option maxRecDepth 100000 in
theorem k_X0_insert (l : Launch) (G : va_G) (g : Nat → ClassId) (h1 a1 : Nat) (cn : Int32) (cf : Nat → Int32) (p1 : Int32) (p2 : Int32) (p3 : Int32) (p4 : Int32) (p5 : Int32) (p6 : Int32) (res : Int32 × Int32 × (Nat → Int32)) (hq : F_X0_insert cn cf p1 p2 p3 p4 p5 p6 = some res) : rwC l yX0_insert wsX0_insert (rmF 2 44) G g [.ref h1, .int p1, .int p2, .int p3, .int p4, .int p5, .int p6] [(h1, .inr (0, [.int cn, .ref a1])), (a1, .inl (g 0, 96, .inl cf))] (some (.int res.1)) [(h1, .inr (0, [.int res.2.1, .ref a1])), (a1, .inl (g 0, 96, .inl res.2.2))] := by
  refine rwC.of (cc := cX0_insert) (maxL := 9) (ret := (some .int)) (by decide) rfl (Nat.le_of_ble_eq_true rfl) ?_
  intro p e s m below meth c ls A X K hA hP hD hS hl
  obtain ⟨hx, hb, hml, hr, hown, hts, hk⟩ := id X
  have hl : lv_has ls 9 [(0, .ref h1), (1, .int p1), (2, .int p2), (3, .int p3), (4, .int p4), (5, .int p5), (6, .int p6)] := hl
  unfold F_X0_insert at hq
  refine lv_aload_n hx hb dX0_insert_0 rfl (lv_at hl 0 rfl) ?_
  refine va_get (D := G) (ci := 0) (v := .int cn) (C := RX0) (T := TX0) (N := 2) hx hb hts in_X0_insert_X0 hown K.1 hP 0 rfl rfl 0 (by decide) (hts _ (List.mem_of_getElem? (i := 1) rfl)) (fun _ h9 => h9) rfl dX0_insert_1 ?_
  refine lv_bipush (v := 16) hx hb dX0_insert_4 (by decide) ?_
  refine lv_icmp_lt (tgt := 11) hx hb dX0_insert_6 (by decide) (fun c1 => ?_) (fun c1 => ?_)
  · have hq := q_if_t hq c1
    refine lv_aload_n hx hb dX0_insert_11 rfl (lv_at hl 0 rfl) ?_
    refine lv_iload_n hx hb dX0_insert_12 rfl (lv_at hl 1 rfl) ?_
    obtain ⟨r2, hh3, hq⟩ := q_bd hq
    refine roV (ci := 0) (As := [.int p1]) (rest := []) X K (k_X0_countUpTo l G g h1 a1 cn cf p1 _ hh3) hd_X0_countUpTo gX0_insert_X0_countUpTo hP hl.1 dX0_insert_13 rfl rfl ⟨Nat.le_of_ble_eq_true rfl, Nat.le_of_ble_eq_true rfl⟩ rfl rfl rfl (Nat.le_of_ble_eq_true rfl) ⟨Nat.zero_le _, Nat.zero_le _⟩ ?_
    refine lv_istore (lv' := [(7, .int r2), (0, .ref h1), (1, .int p1), (2, .int p2), (3, .int p3), (4, .int p4), (5, .int p5), (6, .int p6)]) hx hb dX0_insert_16 hl (by decide) rfl (fun ls hl => ?_)
    refine lv_iload hx hb dX0_insert_18 (lv_at hl 0 rfl) ?_
    refine lv_bipush (v := 6) hx hb dX0_insert_20 (by decide) ?_
    refine lv_imul hx hb dX0_insert_22 ?_
    refine lv_topi (fun x4 ex4 => ?_)
    have hq := q_let hq ex4
    refine lv_istore (lv' := [(8, .int x4), (7, .int r2), (0, .ref h1), (1, .int p1), (2, .int p2), (3, .int p3), (4, .int p4), (5, .int p5), (6, .int p6)]) hx hb dX0_insert_23 hl (by decide) rfl (fun ls hl => ?_)
    refine lv_aload_n hx hb dX0_insert_25 rfl (lv_at hl 2 rfl) ?_
    refine va_get (D := G) (ci := 0) (v := .ref a1) (C := RX0) (T := TX0) (N := 2) hx hb hts in_X0_insert_X0 hown K.1 hP 0 rfl rfl 1 (by decide) (hts _ (List.mem_of_getElem? (i := 2) rfl)) (fun _ h9 => h9) rfl dX0_insert_26 ?_
    refine lv_iload hx hb dX0_insert_29 (lv_at hl 0 rfl) ?_
    refine lv_aload_n hx hb dX0_insert_31 rfl (lv_at hl 2 rfl) ?_
    refine va_get (D := G) (ci := 0) (v := .ref a1) (C := RX0) (T := TX0) (N := 2) hx hb hts in_X0_insert_X0 hown K.1 hP 0 rfl rfl 1 (by decide) (hts _ (List.mem_of_getElem? (i := 2) rfl)) (fun _ h9 => h9) rfl dX0_insert_32 ?_
    refine lv_iload hx hb dX0_insert_35 (lv_at hl 0 rfl) ?_
    refine lv_bipush (v := 6) hx hb dX0_insert_37 (by decide) ?_
    refine lv_iadd hx hb dX0_insert_39 ?_
    refine lv_aload_n hx hb dX0_insert_40 rfl (lv_at hl 2 rfl) ?_
    refine va_get (D := G) (ci := 0) (v := .int cn) (C := RX0) (T := TX0) (N := 2) hx hb hts in_X0_insert_X0 hown K.1 hP 0 rfl rfl 0 (by decide) (hts _ (List.mem_of_getElem? (i := 1) rfl)) (fun _ h9 => h9) rfl dX0_insert_41 ?_
    refine lv_iload hx hb dX0_insert_44 (lv_at hl 1 rfl) ?_
    refine lv_isub hx hb dX0_insert_46 ?_
    refine lv_bipush (v := 6) hx hb dX0_insert_47 (by decide) ?_
    refine lv_imul hx hb dX0_insert_49 ?_
    obtain ⟨hh5, hq⟩ := q_gd hq
    refine va_copyi hx hb (hml.trans hl.1.symm) hown (hts _ (List.mem_of_getElem? (i := 3) rfl)) (hts _ (List.mem_of_getElem? (i := 4) rfl)) (hts _ (List.mem_of_getElem? (i := 5) rfl)) (hts _ (List.mem_of_getElem? (i := 6) rfl)) K.1 hP hD hS 1 1 0 0 rfl rfl rfl rfl rfl hh5.1 hh5.2.1 hh5.2.2.1 hh5.2.2.2.1 hh5.2.2.2.2 (fun _ _ => rfl) (Nat.le_of_ble_eq_true rfl) (Nat.le_of_ble_eq_true rfl) dX0_insert_50 (fun H locs hP hD hS => ?_)
    obtain ⟨f6, ef6⟩ : ∃ y, y = va_cpy cf cf x4.toNatClampNeg (x4 + 6).toNatClampNeg ((cn - r2) * 6).toNatClampNeg := ⟨_, rfl⟩
    have hq := q_let hq ef6
    have hP : va_P G vwCl [(h1, .inr (0, [.int cn, .ref a1])), (a1, .inl (g 0, 96, .inl f6))] H := by rw [ef6]; exact hP
    have hD : va_D A [(h1, .inr (0, [.int cn, .ref a1])), (a1, .inl (g 0, 96, .inl f6))] := by rw [ef6]; exact hD
    refine lv_aload_n hx hb dX0_insert_53 rfl (lv_at hl 2 rfl) ?_
    refine lv_dup hx hb dX0_insert_54 rfl ?_
    refine va_get (D := G) (ci := 0) (v := .int cn) (C := RX0) (T := TX0) (N := 2) hx hb hts in_X0_insert_X0 hown K.1 hP 0 rfl rfl 0 (by decide) (hts _ (List.mem_of_getElem? (i := 1) rfl)) (fun _ h9 => h9) rfl dX0_insert_55 ?_
    refine lv_iconst (v := 1) hx hb dX0_insert_58 (by decide) ?_
    refine lv_iadd hx hb dX0_insert_59 ?_
    refine lv_topi (fun x7 ex7 => ?_)
    have hq := q_let hq ex7
    refine va_put (D := G) (ci := 0) (v := .int x7) (ty := .int) (C := RX0) (T := TX0) (N := 2) hx hb hts in_X0_insert_X0 tyX0 tyX0_ok nmX0 hown K.1 hP hD hS 0 rfl rfl 0 (by decide) (hts _ (List.mem_of_getElem? (i := 1) rfl)) (fun _ h9 => h9) rfl (by decide +kernel) rfl rfl (Nat.le_of_ble_eq_true rfl) dX0_insert_60 (fun H locs hP hD hS => ?_)
    have hP : va_P G vwCl [(h1, .inr (0, [.int x7, .ref a1])), (a1, .inl (g 0, 96, .inl f6))] H := hP
    have hD : va_D A [(h1, .inr (0, [.int x7, .ref a1])), (a1, .inl (g 0, 96, .inl f6))] := hD
    refine lv_aload_n hx hb dX0_insert_63 rfl (lv_at hl 2 rfl) ?_
    refine lv_iload hx hb dX0_insert_64 (lv_at hl 1 rfl) ?_
    refine lv_iconst (v := 0) hx hb dX0_insert_66 (by decide) ?_
    refine lv_iload_n hx hb dX0_insert_67 rfl (lv_at hl 3 rfl) ?_
    obtain ⟨y8, hh9, hq⟩ := q_bd hq
    refine rwV (ci := 0) (wr := []) (As := [.int r2, .int 0, .int p1]) (rest := []) X K (k_X0_put l G g h1 a1 x7 f6 r2 0 p1 _ hh9) hd_X0_put gX0_insert_X0_put hP hD hS hA [0, 1] [] rfl rfl ⟨by decide, by decide, by decide⟩ hl.1 dX0_insert_68 rfl rfl ⟨Nat.le_of_ble_eq_true rfl, Nat.le_of_ble_eq_true rfl⟩ rfl rfl rfl (Nat.le_of_ble_eq_true rfl) ⟨Nat.zero_le _, Nat.zero_le _⟩ (fun H locs hP hD hS => ?_)
    have hP : va_P G vwCl [(h1, .inr (0, [.int x7, .ref a1])), (a1, .inl (g 0, 96, .inl y8))] H := hP
    have hD : va_D A [(h1, .inr (0, [.int x7, .ref a1])), (a1, .inl (g 0, 96, .inl y8))] := hD
    refine lv_aload_n hx hb dX0_insert_71 rfl (lv_at hl 2 rfl) ?_
    refine lv_iload hx hb dX0_insert_72 (lv_at hl 1 rfl) ?_
    refine lv_iconst (v := 1) hx hb dX0_insert_74 (by decide) ?_
    refine lv_iload_n hx hb dX0_insert_75 rfl (lv_at hl 4 rfl) ?_
    obtain ⟨y10, hh11, hq⟩ := q_bd hq
    refine rwV (ci := 0) (wr := []) (As := [.int r2, .int 1, .int p2]) (rest := []) X K (k_X0_put l G g h1 a1 x7 y8 r2 1 p2 _ hh11) hd_X0_put gX0_insert_X0_put hP hD hS hA [0, 1] [] rfl rfl ⟨by decide, by decide, by decide⟩ hl.1 dX0_insert_76 rfl rfl ⟨Nat.le_of_ble_eq_true rfl, Nat.le_of_ble_eq_true rfl⟩ rfl rfl rfl (Nat.le_of_ble_eq_true rfl) ⟨Nat.zero_le _, Nat.zero_le _⟩ (fun H locs hP hD hS => ?_)
    have hP : va_P G vwCl [(h1, .inr (0, [.int x7, .ref a1])), (a1, .inl (g 0, 96, .inl y10))] H := hP
    have hD : va_D A [(h1, .inr (0, [.int x7, .ref a1])), (a1, .inl (g 0, 96, .inl y10))] := hD
    refine lv_aload_n hx hb dX0_insert_79 rfl (lv_at hl 2 rfl) ?_
    refine lv_iload hx hb dX0_insert_80 (lv_at hl 1 rfl) ?_
    refine lv_iconst (v := 2) hx hb dX0_insert_82 (by decide) ?_
    refine lv_iload_n hx hb dX0_insert_83 rfl (lv_at hl 5 rfl) ?_
    obtain ⟨y12, hh13, hq⟩ := q_bd hq
    refine rwV (ci := 0) (wr := []) (As := [.int r2, .int 2, .int p3]) (rest := []) X K (k_X0_put l G g h1 a1 x7 y10 r2 2 p3 _ hh13) hd_X0_put gX0_insert_X0_put hP hD hS hA [0, 1] [] rfl rfl ⟨by decide, by decide, by decide⟩ hl.1 dX0_insert_84 rfl rfl ⟨Nat.le_of_ble_eq_true rfl, Nat.le_of_ble_eq_true rfl⟩ rfl rfl rfl (Nat.le_of_ble_eq_true rfl) ⟨Nat.zero_le _, Nat.zero_le _⟩ (fun H locs hP hD hS => ?_)
    have hP : va_P G vwCl [(h1, .inr (0, [.int x7, .ref a1])), (a1, .inl (g 0, 96, .inl y12))] H := hP
    have hD : va_D A [(h1, .inr (0, [.int x7, .ref a1])), (a1, .inl (g 0, 96, .inl y12))] := hD
    refine lv_aload_n hx hb dX0_insert_87 rfl (lv_at hl 2 rfl) ?_
    refine lv_iload hx hb dX0_insert_88 (lv_at hl 1 rfl) ?_
    refine lv_iconst (v := 3) hx hb dX0_insert_90 (by decide) ?_
    refine lv_iload hx hb dX0_insert_91 (lv_at hl 6 rfl) ?_
    obtain ⟨y14, hh15, hq⟩ := q_bd hq
    refine rwV (ci := 0) (wr := []) (As := [.int r2, .int 3, .int p4]) (rest := []) X K (k_X0_put l G g h1 a1 x7 y12 r2 3 p4 _ hh15) hd_X0_put gX0_insert_X0_put hP hD hS hA [0, 1] [] rfl rfl ⟨by decide, by decide, by decide⟩ hl.1 dX0_insert_93 rfl rfl ⟨Nat.le_of_ble_eq_true rfl, Nat.le_of_ble_eq_true rfl⟩ rfl rfl rfl (Nat.le_of_ble_eq_true rfl) ⟨Nat.zero_le _, Nat.zero_le _⟩ (fun H locs hP hD hS => ?_)
    have hP : va_P G vwCl [(h1, .inr (0, [.int x7, .ref a1])), (a1, .inl (g 0, 96, .inl y14))] H := hP
    have hD : va_D A [(h1, .inr (0, [.int x7, .ref a1])), (a1, .inl (g 0, 96, .inl y14))] := hD
    refine lv_aload_n hx hb dX0_insert_96 rfl (lv_at hl 2 rfl) ?_
    refine lv_iload hx hb dX0_insert_97 (lv_at hl 1 rfl) ?_
    refine lv_iconst (v := 4) hx hb dX0_insert_99 (by decide) ?_
    refine lv_iload hx hb dX0_insert_100 (lv_at hl 7 rfl) ?_
    obtain ⟨y16, hh17, hq⟩ := q_bd hq
    refine rwV (ci := 0) (wr := []) (As := [.int r2, .int 4, .int p5]) (rest := []) X K (k_X0_put l G g h1 a1 x7 y14 r2 4 p5 _ hh17) hd_X0_put gX0_insert_X0_put hP hD hS hA [0, 1] [] rfl rfl ⟨by decide, by decide, by decide⟩ hl.1 dX0_insert_102 rfl rfl ⟨Nat.le_of_ble_eq_true rfl, Nat.le_of_ble_eq_true rfl⟩ rfl rfl rfl (Nat.le_of_ble_eq_true rfl) ⟨Nat.zero_le _, Nat.zero_le _⟩ (fun H locs hP hD hS => ?_)
    have hP : va_P G vwCl [(h1, .inr (0, [.int x7, .ref a1])), (a1, .inl (g 0, 96, .inl y16))] H := hP
    have hD : va_D A [(h1, .inr (0, [.int x7, .ref a1])), (a1, .inl (g 0, 96, .inl y16))] := hD
    refine lv_aload_n hx hb dX0_insert_105 rfl (lv_at hl 2 rfl) ?_
    refine lv_iload hx hb dX0_insert_106 (lv_at hl 1 rfl) ?_
    refine lv_iconst (v := 5) hx hb dX0_insert_108 (by decide) ?_
    refine lv_iload hx hb dX0_insert_109 (lv_at hl 8 rfl) ?_
    obtain ⟨y18, hh19, hq⟩ := q_bd hq
    refine rwV (ci := 0) (wr := []) (As := [.int r2, .int 5, .int p6]) (rest := []) X K (k_X0_put l G g h1 a1 x7 y16 r2 5 p6 _ hh19) hd_X0_put gX0_insert_X0_put hP hD hS hA [0, 1] [] rfl rfl ⟨by decide, by decide, by decide⟩ hl.1 dX0_insert_111 rfl rfl ⟨Nat.le_of_ble_eq_true rfl, Nat.le_of_ble_eq_true rfl⟩ rfl rfl rfl (Nat.le_of_ble_eq_true rfl) ⟨Nat.zero_le _, Nat.zero_le _⟩ (fun H locs hP hD hS => ?_)
    have hP : va_P G vwCl [(h1, .inr (0, [.int x7, .ref a1])), (a1, .inl (g 0, 96, .inl y18))] H := hP
    have hD : va_D A [(h1, .inr (0, [.int x7, .ref a1])), (a1, .inl (g 0, 96, .inl y18))] := hD
    refine lv_iload hx hb dX0_insert_114 (lv_at hl 1 rfl) ?_
    obtain rfl := q_rt hq
    exact rw_iret hx hb hr hk hP hD hS dX0_insert_116
  · have hq := q_if_f hq c1
    refine lv_iconst (v := (-1)) hx hb dX0_insert_9 (by decide) ?_
    obtain rfl := q_rt hq
    exact rw_iret hx hb hr hk hP hD hS dX0_insert_10
theorem in_X0_takeOut_X0 : ∀ w ∈ wsX00, w ∈ wsX0_takeOut := fun _ h => List.mem_cons_of_mem _ (List.mem_append_right _ h)
def F_X0_takeOut (cn : Int32) (cf : Nat → Int32) (p1 : Int32) : Option (Int32 × (Nat → Int32)) := if p1 < 0 then (some (cn, cf)) else (if p1 < cn then (vlet ((p1 + 1) * 6) fun x3 => vgd (¬ x3 < 0 ∧ ¬ (x3 - 6) < 0 ∧ ¬ ((cn * 6) - x3) < 0 ∧ x3.toNatClampNeg + ((cn * 6) - x3).toNatClampNeg ≤ 96 ∧ (x3 - 6).toNatClampNeg + ((cn * 6) - x3).toNatClampNeg ≤ 96) <| vlet (va_cpy cf cf x3.toNatClampNeg (x3 - 6).toNatClampNeg ((cn * 6) - x3).toNatClampNeg) fun f5 => vlet (cn - 1) fun x6 => some (x6, f5)) else (some (cn, cf)))
set_option maxHeartbeats 4000000 in
set_option maxRecDepth 100000 in
theorem k_X0_takeOut (l : Launch) (G : va_G) (g : Nat → ClassId) (h1 a1 : Nat) (cn : Int32) (cf : Nat → Int32) (p1 : Int32) (res : Int32 × (Nat → Int32)) (hq : F_X0_takeOut cn cf p1 = some res) : rwC l yX0_takeOut wsX0_takeOut (rmF 1 40) G g [.ref h1, .int p1] [(h1, .inr (0, [.int cn, .ref a1])), (a1, .inl (g 0, 96, .inl cf))] none [(h1, .inr (0, [.int res.1, .ref a1])), (a1, .inl (g 0, 96, .inl res.2))] := by
  refine rwC.of (cc := cX0_takeOut) (maxL := 3) (ret := none) (by decide) rfl (Nat.le_of_ble_eq_true rfl) ?_
  intro p e s m below meth c ls A X K hA hP hD hS hl
  obtain ⟨hx, hb, hml, hr, hown, hts, hk⟩ := id X
  have hl : lv_has ls 3 [(0, .ref h1), (1, .int p1)] := hl
  unfold F_X0_takeOut at hq
  refine lv_iload_n hx hb dX0_takeOut_0 rfl (lv_at hl 1 rfl) ?_
  refine lv_if_lt (tgt := 12) hx hb dX0_takeOut_1 (by decide) (fun c1 => ?_) (fun c1 => ?_)
  · have hq := q_if_t hq c1
    obtain rfl := q_rt hq
    exact rw_vret hx hb hr hk hP hD hS dX0_takeOut_12
  · have hq := q_if_f hq c1
    refine lv_iload_n hx hb dX0_takeOut_4 rfl (lv_at hl 1 rfl) ?_
    refine lv_aload_n hx hb dX0_takeOut_5 rfl (lv_at hl 0 rfl) ?_
    refine va_get (D := G) (ci := 0) (v := .int cn) (C := RX0) (T := TX0) (N := 2) hx hb hts in_X0_takeOut_X0 hown K.1 hP 0 rfl rfl 0 (by decide) (hts _ (List.mem_of_getElem? (i := 1) rfl)) (fun _ h9 => h9) rfl dX0_takeOut_6 ?_
    refine lv_icmp_lt (tgt := 13) hx hb dX0_takeOut_9 (by decide) (fun c2 => ?_) (fun c2 => ?_)
    · have hq := q_if_t hq c2
      refine lv_iload_n hx hb dX0_takeOut_13 rfl (lv_at hl 1 rfl) ?_
      refine lv_iconst (v := 1) hx hb dX0_takeOut_14 (by decide) ?_
      refine lv_iadd hx hb dX0_takeOut_15 ?_
      refine lv_bipush (v := 6) hx hb dX0_takeOut_16 (by decide) ?_
      refine lv_imul hx hb dX0_takeOut_18 ?_
      refine lv_topi (fun x3 ex3 => ?_)
      have hq := q_let hq ex3
      refine lv_istore_n (lv' := [(2, .int x3), (0, .ref h1), (1, .int p1)]) hx hb dX0_takeOut_19 rfl hl (by decide) rfl (fun ls hl => ?_)
      refine lv_aload_n hx hb dX0_takeOut_20 rfl (lv_at hl 1 rfl) ?_
      refine va_get (D := G) (ci := 0) (v := .ref a1) (C := RX0) (T := TX0) (N := 2) hx hb hts in_X0_takeOut_X0 hown K.1 hP 0 rfl rfl 1 (by decide) (hts _ (List.mem_of_getElem? (i := 2) rfl)) (fun _ h9 => h9) rfl dX0_takeOut_21 ?_
      refine lv_iload_n hx hb dX0_takeOut_24 rfl (lv_at hl 0 rfl) ?_
      refine lv_aload_n hx hb dX0_takeOut_25 rfl (lv_at hl 1 rfl) ?_
      refine va_get (D := G) (ci := 0) (v := .ref a1) (C := RX0) (T := TX0) (N := 2) hx hb hts in_X0_takeOut_X0 hown K.1 hP 0 rfl rfl 1 (by decide) (hts _ (List.mem_of_getElem? (i := 2) rfl)) (fun _ h9 => h9) rfl dX0_takeOut_26 ?_
      refine lv_iload_n hx hb dX0_takeOut_29 rfl (lv_at hl 0 rfl) ?_
      refine lv_bipush (v := 6) hx hb dX0_takeOut_30 (by decide) ?_
      refine lv_isub hx hb dX0_takeOut_32 ?_
      refine lv_aload_n hx hb dX0_takeOut_33 rfl (lv_at hl 1 rfl) ?_
      refine va_get (D := G) (ci := 0) (v := .int cn) (C := RX0) (T := TX0) (N := 2) hx hb hts in_X0_takeOut_X0 hown K.1 hP 0 rfl rfl 0 (by decide) (hts _ (List.mem_of_getElem? (i := 1) rfl)) (fun _ h9 => h9) rfl dX0_takeOut_34 ?_
      refine lv_bipush (v := 6) hx hb dX0_takeOut_37 (by decide) ?_
      refine lv_imul hx hb dX0_takeOut_39 ?_
      refine lv_iload_n hx hb dX0_takeOut_40 rfl (lv_at hl 0 rfl) ?_
      refine lv_isub hx hb dX0_takeOut_41 ?_
      obtain ⟨hh4, hq⟩ := q_gd hq
      refine va_copyi hx hb (hml.trans hl.1.symm) hown (hts _ (List.mem_of_getElem? (i := 3) rfl)) (hts _ (List.mem_of_getElem? (i := 4) rfl)) (hts _ (List.mem_of_getElem? (i := 5) rfl)) (hts _ (List.mem_of_getElem? (i := 6) rfl)) K.1 hP hD hS 1 1 0 0 rfl rfl rfl rfl rfl hh4.1 hh4.2.1 hh4.2.2.1 hh4.2.2.2.1 hh4.2.2.2.2 (fun _ _ => rfl) (Nat.le_of_ble_eq_true rfl) (Nat.le_of_ble_eq_true rfl) dX0_takeOut_42 (fun H locs hP hD hS => ?_)
      obtain ⟨f5, ef5⟩ : ∃ y, y = va_cpy cf cf x3.toNatClampNeg (x3 - 6).toNatClampNeg ((cn * 6) - x3).toNatClampNeg := ⟨_, rfl⟩
      have hq := q_let hq ef5
      have hP : va_P G vwCl [(h1, .inr (0, [.int cn, .ref a1])), (a1, .inl (g 0, 96, .inl f5))] H := by rw [ef5]; exact hP
      have hD : va_D A [(h1, .inr (0, [.int cn, .ref a1])), (a1, .inl (g 0, 96, .inl f5))] := by rw [ef5]; exact hD
      refine lv_aload_n hx hb dX0_takeOut_45 rfl (lv_at hl 1 rfl) ?_
      refine lv_dup hx hb dX0_takeOut_46 rfl ?_
      refine va_get (D := G) (ci := 0) (v := .int cn) (C := RX0) (T := TX0) (N := 2) hx hb hts in_X0_takeOut_X0 hown K.1 hP 0 rfl rfl 0 (by decide) (hts _ (List.mem_of_getElem? (i := 1) rfl)) (fun _ h9 => h9) rfl dX0_takeOut_47 ?_
      refine lv_iconst (v := 1) hx hb dX0_takeOut_50 (by decide) ?_
      refine lv_isub hx hb dX0_takeOut_51 ?_
      refine lv_topi (fun x6 ex6 => ?_)
      have hq := q_let hq ex6
      refine va_put (D := G) (ci := 0) (v := .int x6) (ty := .int) (C := RX0) (T := TX0) (N := 2) hx hb hts in_X0_takeOut_X0 tyX0 tyX0_ok nmX0 hown K.1 hP hD hS 0 rfl rfl 0 (by decide) (hts _ (List.mem_of_getElem? (i := 1) rfl)) (fun _ h9 => h9) rfl (by decide +kernel) rfl rfl (Nat.le_of_ble_eq_true rfl) dX0_takeOut_52 (fun H locs hP hD hS => ?_)
      have hP : va_P G vwCl [(h1, .inr (0, [.int x6, .ref a1])), (a1, .inl (g 0, 96, .inl f5))] H := hP
      have hD : va_D A [(h1, .inr (0, [.int x6, .ref a1])), (a1, .inl (g 0, 96, .inl f5))] := hD
      obtain rfl := q_rt hq
      exact rw_vret hx hb hr hk hP hD hS dX0_takeOut_55
    · have hq := q_if_f hq c2
      obtain rfl := q_rt hq
      exact rw_vret hx hb hr hk hP hD hS dX0_takeOut_12
theorem hd_X0_insert : ynm yX0_insert 6 := by unfold ynm; decide +kernel
theorem hd_X0_takeOut : ynm yX0_takeOut 1 := by unfold ynm; decide +kernel
def F_X0_moveTo (cn : Int32) (cf : Nat → Int32) (p1 : Int32) (p2 : Int32) : Option (Int32 × Int32 × (Nat → Int32)) := (F_X0_cell cn cf p1 1).bind fun r1 => (F_X0_cell cn cf p1 2).bind fun r3 => (F_X0_cell cn cf p1 3).bind fun r5 => (F_X0_cell cn cf p1 4).bind fun r7 => (F_X0_cell cn cf p1 5).bind fun r9 => (F_X0_takeOut cn cf p1).bind fun o14 => (F_X0_insert o14.1 o14.2 p2 r1 r3 r5 r7 r9).bind fun o19 => some (o19.1, o19.2.1, o19.2.2)
set_option maxHeartbeats 4000000 in
set_option maxRecDepth 100000 in
theorem k_X0_moveTo (l : Launch) (G : va_G) (g : Nat → ClassId) (h1 a1 : Nat) (cn : Int32) (cf : Nat → Int32) (p1 : Int32) (p2 : Int32) (res : Int32 × Int32 × (Nat → Int32)) (hq : F_X0_moveTo cn cf p1 p2 = some res) : rwC l yX0_moveTo wsX0_moveTo (rmF 3 72) G g [.ref h1, .int p1, .int p2] [(h1, .inr (0, [.int cn, .ref a1])), (a1, .inl (g 0, 96, .inl cf))] (some (.int res.1)) [(h1, .inr (0, [.int res.2.1, .ref a1])), (a1, .inl (g 0, 96, .inl res.2.2))] := by
  refine rwC.of (cc := cX0_moveTo) (maxL := 8) (ret := (some .int)) (by decide) rfl (Nat.le_of_ble_eq_true rfl) ?_
  intro p e s m below meth c ls A X K hA hP hD hS hl
  obtain ⟨hx, hb, hml, hr, hown, hts, hk⟩ := id X
  have hl : lv_has ls 8 [(0, .ref h1), (1, .int p1), (2, .int p2)] := hl
  unfold F_X0_moveTo at hq
  refine lv_aload_n hx hb dX0_moveTo_0 rfl (lv_at hl 0 rfl) ?_
  refine lv_iload_n hx hb dX0_moveTo_1 rfl (lv_at hl 1 rfl) ?_
  refine lv_iconst (v := 1) hx hb dX0_moveTo_2 (by decide) ?_
  obtain ⟨r1, hh2, hq⟩ := q_bd hq
  refine roV (ci := 0) (As := [.int p1, .int 1]) (rest := []) X K (k_X0_cell l G g h1 a1 cn cf p1 1 _ hh2) hd_X0_cell gX0_moveTo_X0_cell hP hl.1 dX0_moveTo_3 rfl rfl ⟨Nat.le_of_ble_eq_true rfl, Nat.le_of_ble_eq_true rfl⟩ rfl rfl rfl (Nat.le_of_ble_eq_true rfl) ⟨Nat.zero_le _, Nat.zero_le _⟩ ?_
  refine lv_istore_n (lv' := [(3, .int r1), (0, .ref h1), (1, .int p1), (2, .int p2)]) hx hb dX0_moveTo_6 rfl hl (by decide) rfl (fun ls hl => ?_)
  refine lv_aload_n hx hb dX0_moveTo_7 rfl (lv_at hl 1 rfl) ?_
  refine lv_iload_n hx hb dX0_moveTo_8 rfl (lv_at hl 2 rfl) ?_
  refine lv_iconst (v := 2) hx hb dX0_moveTo_9 (by decide) ?_
  obtain ⟨r3, hh4, hq⟩ := q_bd hq
  refine roV (ci := 0) (As := [.int p1, .int 2]) (rest := []) X K (k_X0_cell l G g h1 a1 cn cf p1 2 _ hh4) hd_X0_cell gX0_moveTo_X0_cell hP hl.1 dX0_moveTo_10 rfl rfl ⟨Nat.le_of_ble_eq_true rfl, Nat.le_of_ble_eq_true rfl⟩ rfl rfl rfl (Nat.le_of_ble_eq_true rfl) ⟨Nat.zero_le _, Nat.zero_le _⟩ ?_
  refine lv_istore (lv' := [(4, .int r3), (3, .int r1), (0, .ref h1), (1, .int p1), (2, .int p2)]) hx hb dX0_moveTo_13 hl (by decide) rfl (fun ls hl => ?_)
  refine lv_aload_n hx hb dX0_moveTo_15 rfl (lv_at hl 2 rfl) ?_
  refine lv_iload_n hx hb dX0_moveTo_16 rfl (lv_at hl 3 rfl) ?_
  refine lv_iconst (v := 3) hx hb dX0_moveTo_17 (by decide) ?_
  obtain ⟨r5, hh6, hq⟩ := q_bd hq
  refine roV (ci := 0) (As := [.int p1, .int 3]) (rest := []) X K (k_X0_cell l G g h1 a1 cn cf p1 3 _ hh6) hd_X0_cell gX0_moveTo_X0_cell hP hl.1 dX0_moveTo_18 rfl rfl ⟨Nat.le_of_ble_eq_true rfl, Nat.le_of_ble_eq_true rfl⟩ rfl rfl rfl (Nat.le_of_ble_eq_true rfl) ⟨Nat.zero_le _, Nat.zero_le _⟩ ?_
  refine lv_istore (lv' := [(5, .int r5), (4, .int r3), (3, .int r1), (0, .ref h1), (1, .int p1), (2, .int p2)]) hx hb dX0_moveTo_21 hl (by decide) rfl (fun ls hl => ?_)
  refine lv_aload_n hx hb dX0_moveTo_23 rfl (lv_at hl 3 rfl) ?_
  refine lv_iload_n hx hb dX0_moveTo_24 rfl (lv_at hl 4 rfl) ?_
  refine lv_iconst (v := 4) hx hb dX0_moveTo_25 (by decide) ?_
  obtain ⟨r7, hh8, hq⟩ := q_bd hq
  refine roV (ci := 0) (As := [.int p1, .int 4]) (rest := []) X K (k_X0_cell l G g h1 a1 cn cf p1 4 _ hh8) hd_X0_cell gX0_moveTo_X0_cell hP hl.1 dX0_moveTo_26 rfl rfl ⟨Nat.le_of_ble_eq_true rfl, Nat.le_of_ble_eq_true rfl⟩ rfl rfl rfl (Nat.le_of_ble_eq_true rfl) ⟨Nat.zero_le _, Nat.zero_le _⟩ ?_
  refine lv_istore (lv' := [(6, .int r7), (5, .int r5), (4, .int r3), (3, .int r1), (0, .ref h1), (1, .int p1), (2, .int p2)]) hx hb dX0_moveTo_29 hl (by decide) rfl (fun ls hl => ?_)
  refine lv_aload_n hx hb dX0_moveTo_31 rfl (lv_at hl 4 rfl) ?_
  refine lv_iload_n hx hb dX0_moveTo_32 rfl (lv_at hl 5 rfl) ?_
  refine lv_iconst (v := 5) hx hb dX0_moveTo_33 (by decide) ?_
  obtain ⟨r9, hh10, hq⟩ := q_bd hq
  refine roV (ci := 0) (As := [.int p1, .int 5]) (rest := []) X K (k_X0_cell l G g h1 a1 cn cf p1 5 _ hh10) hd_X0_cell gX0_moveTo_X0_cell hP hl.1 dX0_moveTo_34 rfl rfl ⟨Nat.le_of_ble_eq_true rfl, Nat.le_of_ble_eq_true rfl⟩ rfl rfl rfl (Nat.le_of_ble_eq_true rfl) ⟨Nat.zero_le _, Nat.zero_le _⟩ ?_
  refine lv_istore (lv' := [(7, .int r9), (6, .int r7), (5, .int r5), (4, .int r3), (3, .int r1), (0, .ref h1), (1, .int p1), (2, .int p2)]) hx hb dX0_moveTo_37 hl (by decide) rfl (fun ls hl => ?_)
  refine lv_aload_n hx hb dX0_moveTo_39 rfl (lv_at hl 5 rfl) ?_
  refine lv_iload_n hx hb dX0_moveTo_40 rfl (lv_at hl 6 rfl) ?_
  obtain ⟨⟨y11, y12⟩, hh13, hq⟩ := q_bd hq
  refine rwV (ci := 0) (wr := []) (As := [.int p1]) (rest := []) X K (k_X0_takeOut l G g h1 a1 cn cf p1 _ hh13) hd_X0_takeOut gX0_moveTo_X0_takeOut hP hD hS hA [0, 1] [] rfl rfl ⟨by decide, by decide, by decide⟩ hl.1 dX0_moveTo_41 rfl rfl ⟨Nat.le_of_ble_eq_true rfl, Nat.le_of_ble_eq_true rfl⟩ rfl rfl rfl (Nat.le_of_ble_eq_true rfl) ⟨Nat.zero_le _, Nat.zero_le _⟩ (fun H locs hP hD hS => ?_)
  have hP : va_P G vwCl [(h1, .inr (0, [.int y11, .ref a1])), (a1, .inl (g 0, 96, .inl y12))] H := hP
  have hD : va_D A [(h1, .inr (0, [.int y11, .ref a1])), (a1, .inl (g 0, 96, .inl y12))] := hD
  refine lv_aload_n hx hb dX0_moveTo_44 rfl (lv_at hl 5 rfl) ?_
  refine lv_iload_n hx hb dX0_moveTo_45 rfl (lv_at hl 7 rfl) ?_
  refine lv_iload_n hx hb dX0_moveTo_46 rfl (lv_at hl 4 rfl) ?_
  refine lv_iload hx hb dX0_moveTo_47 (lv_at hl 3 rfl) ?_
  refine lv_iload hx hb dX0_moveTo_49 (lv_at hl 2 rfl) ?_
  refine lv_iload hx hb dX0_moveTo_51 (lv_at hl 1 rfl) ?_
  refine lv_iload hx hb dX0_moveTo_53 (lv_at hl 0 rfl) ?_
  obtain ⟨⟨r15, y16, y17⟩, hh18, hq⟩ := q_bd hq
  refine rwV (ci := 0) (wr := []) (As := [.int p2, .int r1, .int r3, .int r5, .int r7, .int r9]) (rest := []) X K (k_X0_insert l G g h1 a1 y11 y12 p2 r1 r3 r5 r7 r9 _ hh18) hd_X0_insert gX0_moveTo_X0_insert hP hD hS hA [0, 1] [] rfl rfl ⟨by decide, by decide, by decide⟩ hl.1 dX0_moveTo_55 rfl rfl ⟨Nat.le_of_ble_eq_true rfl, Nat.le_of_ble_eq_true rfl⟩ rfl rfl rfl (Nat.le_of_ble_eq_true rfl) ⟨Nat.zero_le _, Nat.zero_le _⟩ (fun H locs hP hD hS => ?_)
  have hP : va_P G vwCl [(h1, .inr (0, [.int y16, .ref a1])), (a1, .inl (g 0, 96, .inl y17))] H := hP
  have hD : va_D A [(h1, .inr (0, [.int y16, .ref a1])), (a1, .inl (g 0, 96, .inl y17))] := hD
  obtain rfl := q_rt hq
  exact rw_iret hx hb hr hk hP hD hS dX0_moveTo_58
theorem in_X0_canRaise_X0 : ∀ w ∈ wsX00, w ∈ wsX0_canRaise := fun _ h => List.mem_cons_of_mem _ (List.mem_append_right _ h)
def F_X0_canRaise_2 (cn : Int32) (cf : Nat → Int32) (v1 : Int32) : Nat → Int32 → Option (Int32)
  | 0, _ => none
  | n + 1, v2 => if cn ≤ v2 then (some (1)) else ((F_X0_cell cn cf v2 1).bind fun r4 => vlet (if 0 ≤ (r4 + v1) then (r4 + v1) else 0 - (r4 + v1)) fun x6 => if x6 ≤ 9999 then (vlet ((v2 : Int32) + 1) fun x8 => F_X0_canRaise_2 cn cf v1 n x8) else (some (0)))
set_option maxHeartbeats 4000000 in
set_option maxRecDepth 100000 in
theorem w_X0_canRaise_2 {p : Program} {l : Launch} {e : Env} {s : State} {m : MethodId} {args : Array Value} {below : List Frame} {meth : Method} {c : Code} {G : va_G} {g : Nat → ClassId} (X : cx p s m args meth c cX0_canRaise 3 (some .boolean) RX0 wsX0_canRaise) (K : amb G g s) (h1 a1 : Nat) (cn : Int32) (cf : Nat → Int32) (v1 : Int32) (hP : va_P G vwCl [(h1, .inr (0, [.int cn, .ref a1])), (a1, .inl (g 0, 96, .inl cf))] s.heap) (res : Int32) : ∀ (n : Nat) (v2 : Int32), F_X0_canRaise_2 cn cf v1 n v2 = some res → ∀ (ls : Array Slot), lv_has ls 3 [(0, .ref h1), (1, .int v1), (2, .int v2)] → W p l e (rmF 1 22) s m args below meth c s.heap [] 0 0 (roM below (some (.int res)) args s) (F0 m 2 ls []) := by
  obtain ⟨hx, hb, hml, hr, hown, hts, hk⟩ := id X
  intro n
  induction n with
  | zero => intro v2 hq; exact q_no hq
  | succ n ih =>
    intro v2 hq ls hl
    rw [F_X0_canRaise_2] at hq
    refine lv_iload_n hx hb dX0_canRaise_2 rfl (lv_at hl 2 rfl) ?_
    refine lv_aload_n hx hb dX0_canRaise_3 rfl (lv_at hl 0 rfl) ?_
    refine va_get (D := G) (ci := 0) (v := .int cn) (C := RX0) (T := TX0) (N := 2) hx hb hts in_X0_canRaise_X0 hown K.1 hP 0 rfl rfl 0 (by decide) (hts _ (List.mem_of_getElem? (i := 1) rfl)) (fun _ h9 => h9) rfl dX0_canRaise_4 ?_
    refine lv_icmp_ge (tgt := 35) hx hb dX0_canRaise_7 (by decide) (fun c3 => ?_) (fun c3 => ?_)
    · have hq := q_if_t hq c3
      refine lv_iconst (v := 1) hx hb dX0_canRaise_35 (by decide) ?_
      obtain rfl := q_rt hq
      exact ro_zret hx hb hr nz_1 hk dX0_canRaise_36
    · have hq := q_if_f hq c3
      refine lv_aload_n hx hb dX0_canRaise_10 rfl (lv_at hl 0 rfl) ?_
      refine lv_iload_n hx hb dX0_canRaise_11 rfl (lv_at hl 2 rfl) ?_
      refine lv_iconst (v := 1) hx hb dX0_canRaise_12 (by decide) ?_
      obtain ⟨r4, hh5, hq⟩ := q_bd hq
      refine roV (ci := 0) (As := [.int v2, .int 1]) (rest := []) X K (k_X0_cell l G g h1 a1 cn cf v2 1 _ hh5) hd_X0_cell gX0_canRaise_X0_cell hP hl.1 dX0_canRaise_13 rfl rfl ⟨Nat.le_of_ble_eq_true rfl, Nat.le_of_ble_eq_true rfl⟩ rfl rfl rfl (Nat.le_of_ble_eq_true rfl) ⟨Nat.zero_le _, Nat.zero_le _⟩ ?_
      refine lv_iload_n hx hb dX0_canRaise_16 rfl (lv_at hl 1 rfl) ?_
      refine lv_iadd hx hb dX0_canRaise_17 ?_
      refine va_mabs hx hb (hml.trans hl.1.symm) hown (hts _ (List.mem_of_getElem? (i := 2) rfl)) (hts _ (List.mem_of_getElem? (i := 3) rfl)) (hts _ (List.mem_of_getElem? (i := 4) rfl)) (hts _ (List.mem_of_getElem? (i := 5) rfl)) (Nat.le_of_ble_eq_true rfl) (Nat.le_of_ble_eq_true rfl) (Nat.zero_le _) (Nat.zero_le _) dX0_canRaise_18 ?_
      refine lv_topi (fun x6 ex6 => ?_)
      have hq := q_let hq ex6
      refine lv_sipush (v := 9999) hx hb dX0_canRaise_21 (by decide) ?_
      refine lv_icmp_le (tgt := 29) hx hb dX0_canRaise_24 (by decide) (fun c7 => ?_) (fun c7 => ?_)
      · have hq := q_if_t hq c7
        obtain ⟨x8, ex8⟩ : ∃ y : Int32, y = (v2 : Int32) + 1 := ⟨_, rfl⟩
        have hq := q_let hq ex8
        refine lv_iinc (v := x8) (lv' := [(2, .int x8), (0, .ref h1), (1, .int v1)]) hx hb dX0_canRaise_29 hl (k := 2) rfl (by rw [ex8]; rfl) (by decide) rfl (fun ls hl => ?_)
        refine lv_goto (tgt := 2) hx hb dX0_canRaise_32 (by decide) ?_
        exact ih x8 hq ls (lv_sub hl [1, 2, 0] rfl)
      · have hq := q_if_f hq c7
        refine lv_iconst (v := 0) hx hb dX0_canRaise_27 (by decide) ?_
        obtain rfl := q_rt hq
        exact ro_zret hx hb hr nz_0 hk dX0_canRaise_28
def F_X0_canRaise (cn : Int32) (cf : Nat → Int32) (p1 : Int32) : Option (Int32) := F_X0_canRaise_2 cn cf p1 2000 0
set_option maxHeartbeats 4000000 in
set_option maxRecDepth 100000 in
theorem k_X0_canRaise (l : Launch) (G : va_G) (g : Nat → ClassId) (h1 a1 : Nat) (cn : Int32) (cf : Nat → Int32) (p1 : Int32) (res : Int32) (hq : F_X0_canRaise cn cf p1 = some res) : roC l yX0_canRaise wsX0_canRaise (rmF 1 22) G g [.ref h1, .int p1] [(h1, .inr (0, [.int cn, .ref a1])), (a1, .inl (g 0, 96, .inl cf))] (some (.int res)) := by
  refine roC.of (cc := cX0_canRaise) (maxL := 3) (ret := (some .boolean)) (by decide) rfl (Nat.le_of_ble_eq_true rfl) ?_
  intro p e s m below meth c ls X K hP hl
  obtain ⟨hx, hb, hml, hr, hown, hts, hk⟩ := id X
  have hl : lv_has ls 3 [(0, .ref h1), (1, .int p1)] := hl
  unfold F_X0_canRaise at hq
  refine lv_iconst (v := 0) hx hb dX0_canRaise_0 (by decide) ?_
  refine lv_istore_n (lv' := [(2, .int 0), (0, .ref h1), (1, .int p1)]) hx hb dX0_canRaise_1 rfl hl (by decide) rfl (fun ls hl => ?_)
  exact w_X0_canRaise_2 X K h1 a1 cn cf p1 hP _ 2000 0 hq ls (lv_sub hl [1, 2, 0] rfl)
theorem in_X0_raise_X0 : ∀ w ∈ wsX00, w ∈ wsX0_raise := fun _ h => List.mem_cons_of_mem _ (List.mem_append_right _ h)
def F_X0_raise_2 (cn : Int32) (v1 : Int32) : Nat → (Nat → Int32) → Int32 → Option ((Nat → Int32))
  | 0, _, _ => none
  | n + 1, cf, v2 => if cn ≤ v2 then (some (cf)) else ((F_X0_cell cn cf v2 1).bind fun r4 => (F_X0_put cn cf v2 1 (r4 + v1)).bind fun y6 => vlet ((v2 : Int32) + 1) fun x8 => F_X0_raise_2 cn v1 n y6 x8)
set_option maxHeartbeats 4000000 in
set_option maxRecDepth 100000 in
theorem w_X0_raise_2 {p : Program} {l : Launch} {e : Env} {s : State} {m : MethodId} {args : Array Value} {below : List Frame} {meth : Method} {c : Code} {G : va_G} {g : Nat → ClassId} (X : cx p s m args meth c cX0_raise 3 none RX0 wsX0_raise) (K : amb G g s) {A : Nat → Prop} (hA : ∀ q : Nat, s.heap.size ≤ q → A q) (h1 a1 : Nat) (cn : Int32) (v1 : Int32) (res : (Nat → Int32)) : ∀ (n : Nat) (cf : Nat → Int32) (v2 : Int32), F_X0_raise_2 cn v1 n cf v2 = some res → ∀ (H : Heap) (locs : List Loc), va_P G vwCl [(h1, .inr (0, [.int cn, .ref a1])), (a1, .inl (g 0, 96, .inl cf))] H → va_D A [(h1, .inr (0, [.int cn, .ref a1])), (a1, .inl (g 0, 96, .inl cf))] → va_S A s.heap H locs → ∀ (ls : Array Slot), lv_has ls 3 [(0, .ref h1), (1, .int v1), (2, .int v2)] → W p l e (rmF 1 23) s m args below meth c H locs 0 0 (rwM G A below none [(h1, .inr (0, [.int cn, .ref a1])), (a1, .inl (g 0, 96, .inl res))] args s) (F0 m 2 ls []) := by
  obtain ⟨hx, hb, hml, hr, hown, hts, hk⟩ := id X
  intro n
  induction n with
  | zero => intro cf v2 hq; exact q_no hq
  | succ n ih =>
    intro cf v2 hq H locs hP hD hS ls hl
    rw [F_X0_raise_2] at hq
    refine lv_iload_n hx hb dX0_raise_2 rfl (lv_at hl 2 rfl) ?_
    refine lv_aload_n hx hb dX0_raise_3 rfl (lv_at hl 0 rfl) ?_
    refine va_get (D := G) (ci := 0) (v := .int cn) (C := RX0) (T := TX0) (N := 2) hx hb hts in_X0_raise_X0 hown K.1 hP 0 rfl rfl 0 (by decide) (hts _ (List.mem_of_getElem? (i := 1) rfl)) (fun _ h9 => h9) rfl dX0_raise_4 ?_
    refine lv_icmp_ge (tgt := 30) hx hb dX0_raise_7 (by decide) (fun c3 => ?_) (fun c3 => ?_)
    · have hq := q_if_t hq c3
      obtain rfl := q_rt hq
      exact rw_vret hx hb hr hk hP hD hS dX0_raise_30
    · have hq := q_if_f hq c3
      refine lv_aload_n hx hb dX0_raise_10 rfl (lv_at hl 0 rfl) ?_
      refine lv_iload_n hx hb dX0_raise_11 rfl (lv_at hl 2 rfl) ?_
      refine lv_iconst (v := 1) hx hb dX0_raise_12 (by decide) ?_
      refine lv_aload_n hx hb dX0_raise_13 rfl (lv_at hl 0 rfl) ?_
      refine lv_iload_n hx hb dX0_raise_14 rfl (lv_at hl 2 rfl) ?_
      refine lv_iconst (v := 1) hx hb dX0_raise_15 (by decide) ?_
      obtain ⟨r4, hh5, hq⟩ := q_bd hq
      refine roV (ci := 0) (As := [.int v2, .int 1]) (rest := [.int 1, .int v2, .ref h1]) X K (k_X0_cell l G g h1 a1 cn cf v2 1 _ hh5) hd_X0_cell gX0_raise_X0_cell hP hl.1 dX0_raise_16 rfl rfl ⟨Nat.le_of_ble_eq_true rfl, Nat.le_of_ble_eq_true rfl⟩ rfl rfl rfl (Nat.le_of_ble_eq_true rfl) ⟨Nat.zero_le _, Nat.zero_le _⟩ ?_
      refine lv_iload_n hx hb dX0_raise_19 rfl (lv_at hl 1 rfl) ?_
      refine lv_iadd hx hb dX0_raise_20 ?_
      obtain ⟨y6, hh7, hq⟩ := q_bd hq
      refine rwV (ci := 0) (wr := []) (As := [.int v2, .int 1, .int (r4 + v1)]) (rest := []) X K (k_X0_put l G g h1 a1 cn cf v2 1 (r4 + v1) _ hh7) hd_X0_put gX0_raise_X0_put hP hD hS hA [0, 1] [] rfl rfl ⟨by decide, by decide, by decide⟩ hl.1 dX0_raise_21 rfl rfl ⟨Nat.le_of_ble_eq_true rfl, Nat.le_of_ble_eq_true rfl⟩ rfl rfl rfl (Nat.le_of_ble_eq_true rfl) ⟨Nat.zero_le _, Nat.zero_le _⟩ (fun H locs hP hD hS => ?_)
      have hP : va_P G vwCl [(h1, .inr (0, [.int cn, .ref a1])), (a1, .inl (g 0, 96, .inl y6))] H := hP
      have hD : va_D A [(h1, .inr (0, [.int cn, .ref a1])), (a1, .inl (g 0, 96, .inl y6))] := hD
      obtain ⟨x8, ex8⟩ : ∃ y : Int32, y = (v2 : Int32) + 1 := ⟨_, rfl⟩
      have hq := q_let hq ex8
      refine lv_iinc (v := x8) (lv' := [(2, .int x8), (0, .ref h1), (1, .int v1)]) hx hb dX0_raise_24 hl (k := 2) rfl (by rw [ex8]; rfl) (by decide) rfl (fun ls hl => ?_)
      refine lv_goto (tgt := 2) hx hb dX0_raise_27 (by decide) ?_
      exact ih y6 x8 hq _ _ hP hD hS ls (lv_sub hl [1, 2, 0] rfl)
def F_X0_raise (cn : Int32) (cf : Nat → Int32) (p1 : Int32) : Option ((Nat → Int32)) := F_X0_raise_2 cn p1 2000 cf 0
set_option maxHeartbeats 4000000 in
set_option maxRecDepth 100000 in
theorem k_X0_raise (l : Launch) (G : va_G) (g : Nat → ClassId) (h1 a1 : Nat) (cn : Int32) (cf : Nat → Int32) (p1 : Int32) (res : (Nat → Int32)) (hq : F_X0_raise cn cf p1 = some res) : rwC l yX0_raise wsX0_raise (rmF 1 23) G g [.ref h1, .int p1] [(h1, .inr (0, [.int cn, .ref a1])), (a1, .inl (g 0, 96, .inl cf))] none [(h1, .inr (0, [.int cn, .ref a1])), (a1, .inl (g 0, 96, .inl res))] := by
  refine rwC.of (cc := cX0_raise) (maxL := 3) (ret := none) (by decide) rfl (Nat.le_of_ble_eq_true rfl) ?_
  intro p e s m below meth c ls A X K hA hP hD hS hl
  obtain ⟨hx, hb, hml, hr, hown, hts, hk⟩ := id X
  have hl : lv_has ls 3 [(0, .ref h1), (1, .int p1)] := hl
  unfold F_X0_raise at hq
  refine lv_iconst (v := 0) hx hb dX0_raise_0 (by decide) ?_
  refine lv_istore_n (lv' := [(2, .int 0), (0, .ref h1), (1, .int p1)]) hx hb dX0_raise_1 rfl hl (by decide) rfl (fun ls hl => ?_)
  exact w_X0_raise_2 X K hA h1 a1 cn p1 _ 2000 cf 0 hq _ _ hP hD hS ls (lv_sub hl [1, 2, 0] rfl)
def F_X0_stretchedFrame (p1 : Int32) (p2 : Int32) (p3 : Int32) (p4 : Int32) : Option (Int32) := if p2 ≤ p1 then (if p3 < p1 then (some ((p1 + (((p3 - p2) * p4) / 100)) - (p3 - p2))) else (some (p2 + (((p1 - p2) * p4) / 100)))) else (some (p1))
set_option maxHeartbeats 4000000 in
set_option maxRecDepth 100000 in
theorem k_X0_stretchedFrame (l : Launch) (G : va_G) (g : Nat → ClassId) (p1 : Int32) (p2 : Int32) (p3 : Int32) (p4 : Int32) (res : Int32) (hq : F_X0_stretchedFrame p1 p2 p3 p4 = some res) : roC l yX0_stretchedFrame wsX0_stretchedFrame (rmF 0 0) G g [.int p1, .int p2, .int p3, .int p4] [] (some (.int res)) := by
  refine roC.of (cc := cX0_stretchedFrame) (maxL := 4) (ret := (some .int)) (by decide) rfl (Nat.le_of_ble_eq_true rfl) ?_
  intro p e s m below meth c ls X K hP hl
  obtain ⟨hx, hb, hml, hr, hown, hts, hk⟩ := id X
  have hl : lv_has ls 4 [(0, .int p1), (1, .int p2), (2, .int p3), (3, .int p4)] := hl
  unfold F_X0_stretchedFrame at hq
  refine lv_iload_n hx hb dX0_stretchedFrame_0 rfl (lv_at hl 0 rfl) ?_
  refine lv_iload_n hx hb dX0_stretchedFrame_1 rfl (lv_at hl 1 rfl) ?_
  refine lv_icmp_ge (tgt := 7) hx hb dX0_stretchedFrame_2 (by decide) (fun c1 => ?_) (fun c1 => ?_)
  · have hq := q_if_t hq c1
    refine lv_iload_n hx hb dX0_stretchedFrame_7 rfl (lv_at hl 0 rfl) ?_
    refine lv_iload_n hx hb dX0_stretchedFrame_8 rfl (lv_at hl 2 rfl) ?_
    refine lv_icmp_gt (tgt := 23) hx hb dX0_stretchedFrame_9 (by decide) (fun c2 => ?_) (fun c2 => ?_)
    · have hq := q_if_t hq c2
      refine lv_iload_n hx hb dX0_stretchedFrame_23 rfl (lv_at hl 0 rfl) ?_
      refine lv_iload_n hx hb dX0_stretchedFrame_24 rfl (lv_at hl 2 rfl) ?_
      refine lv_iload_n hx hb dX0_stretchedFrame_25 rfl (lv_at hl 1 rfl) ?_
      refine lv_isub hx hb dX0_stretchedFrame_26 ?_
      refine lv_iload_n hx hb dX0_stretchedFrame_27 rfl (lv_at hl 3 rfl) ?_
      refine lv_imul hx hb dX0_stretchedFrame_28 ?_
      refine lv_bipush (v := 100) hx hb dX0_stretchedFrame_29 (by decide) ?_
      refine lv_idiv hx hb dX0_stretchedFrame_31 (by decide) ?_
      refine lv_iadd hx hb dX0_stretchedFrame_32 ?_
      refine lv_iload_n hx hb dX0_stretchedFrame_33 rfl (lv_at hl 2 rfl) ?_
      refine lv_iload_n hx hb dX0_stretchedFrame_34 rfl (lv_at hl 1 rfl) ?_
      refine lv_isub hx hb dX0_stretchedFrame_35 ?_
      refine lv_isub hx hb dX0_stretchedFrame_36 ?_
      obtain rfl := q_rt hq
      exact ro_iret hx hb hr hk dX0_stretchedFrame_37
    · have hq := q_if_f hq c2
      refine lv_iload_n hx hb dX0_stretchedFrame_12 rfl (lv_at hl 1 rfl) ?_
      refine lv_iload_n hx hb dX0_stretchedFrame_13 rfl (lv_at hl 0 rfl) ?_
      refine lv_iload_n hx hb dX0_stretchedFrame_14 rfl (lv_at hl 1 rfl) ?_
      refine lv_isub hx hb dX0_stretchedFrame_15 ?_
      refine lv_iload_n hx hb dX0_stretchedFrame_16 rfl (lv_at hl 3 rfl) ?_
      refine lv_imul hx hb dX0_stretchedFrame_17 ?_
      refine lv_bipush (v := 100) hx hb dX0_stretchedFrame_18 (by decide) ?_
      refine lv_idiv hx hb dX0_stretchedFrame_20 (by decide) ?_
      refine lv_iadd hx hb dX0_stretchedFrame_21 ?_
      obtain rfl := q_rt hq
      exact ro_iret hx hb hr hk dX0_stretchedFrame_22
  · have hq := q_if_f hq c1
    refine lv_iload_n hx hb dX0_stretchedFrame_5 rfl (lv_at hl 0 rfl) ?_
    obtain rfl := q_rt hq
    exact ro_iret hx hb hr hk dX0_stretchedFrame_6
theorem hd_X0_stretchedFrame : ynm yX0_stretchedFrame 4 := by unfold ynm; decide +kernel
theorem in_X0_canStretch_X0 : ∀ w ∈ wsX00, w ∈ wsX0_canStretch := fun _ h => List.mem_cons_of_mem _ (List.mem_append_right _ h)
def F_X0_canStretch_6 (cn : Int32) (cf : Nat → Int32) (v1 : Int32) (v2 : Int32) (v3 : Int32) : Nat → Int32 → Int32 → Option (Int32)
  | 0, _, _ => none
  | n + 1, v4, v5 => if cn ≤ v5 then (some (1)) else ((F_X0_cell cn cf v5 0).bind fun r7 => (F_X0_stretchedFrame r7 v1 v2 v3).bind fun r9 => if (999 : Int32) < r9 then (some (0)) else (if r9 = v4 then (some (0)) else ((F_X0_isLocked cn cf v5).bind fun r13 => if r13 = 0 then (vlet ((v5 : Int32) + 1) fun x16 => F_X0_canStretch_6 cn cf v1 v2 v3 n r9 x16) else (if r9 = r7 then (vlet ((v5 : Int32) + 1) fun x18 => F_X0_canStretch_6 cn cf v1 v2 v3 n r9 x18) else (some (0))))))
set_option maxHeartbeats 4000000 in
set_option maxRecDepth 100000 in
theorem w_X0_canStretch_6 {p : Program} {l : Launch} {e : Env} {s : State} {m : MethodId} {args : Array Value} {below : List Frame} {meth : Method} {c : Code} {G : va_G} {g : Nat → ClassId} (X : cx p s m args meth c cX0_canStretch 8 (some .boolean) RX0 wsX0_canStretch) (K : amb G g s) (h1 a1 : Nat) (cn : Int32) (cf : Nat → Int32) (v1 : Int32) (v2 : Int32) (v3 : Int32) (hP : va_P G vwCl [(h1, .inr (0, [.int cn, .ref a1])), (a1, .inl (g 0, 96, .inl cf))] s.heap) (res : Int32) : ∀ (n : Nat) (v4 : Int32) (v5 : Int32), F_X0_canStretch_6 cn cf v1 v2 v3 n v4 v5 = some res → ∀ (ls : Array Slot), lv_has ls 8 [(0, .ref h1), (1, .int v1), (2, .int v2), (3, .int v3), (4, .int v4), (5, .int v5)] → W p l e (rmF 2 43) s m args below meth c s.heap [] 0 0 (roM below (some (.int res)) args s) (F0 m 6 ls []) := by
  obtain ⟨hx, hb, hml, hr, hown, hts, hk⟩ := id X
  intro n
  induction n with
  | zero => intro v4 v5 hq; exact q_no hq
  | succ n ih =>
    intro v4 v5 hq ls hl
    rw [F_X0_canStretch_6] at hq
    refine lv_iload hx hb dX0_canStretch_6 (lv_at hl 5 rfl) ?_
    refine lv_aload_n hx hb dX0_canStretch_8 rfl (lv_at hl 0 rfl) ?_
    refine va_get (D := G) (ci := 0) (v := .int cn) (C := RX0) (T := TX0) (N := 2) hx hb hts in_X0_canStretch_X0 hown K.1 hP 0 rfl rfl 0 (by decide) (hts _ (List.mem_of_getElem? (i := 1) rfl)) (fun _ h9 => h9) rfl dX0_canStretch_9 ?_
    refine lv_icmp_ge (tgt := 77) hx hb dX0_canStretch_12 (by decide) (fun c6 => ?_) (fun c6 => ?_)
    · have hq := q_if_t hq c6
      refine lv_iconst (v := 1) hx hb dX0_canStretch_77 (by decide) ?_
      obtain rfl := q_rt hq
      exact ro_zret hx hb hr nz_1 hk dX0_canStretch_78
    · have hq := q_if_f hq c6
      refine lv_aload_n hx hb dX0_canStretch_15 rfl (lv_at hl 0 rfl) ?_
      refine lv_iload hx hb dX0_canStretch_16 (lv_at hl 5 rfl) ?_
      refine lv_iconst (v := 0) hx hb dX0_canStretch_18 (by decide) ?_
      obtain ⟨r7, hh8, hq⟩ := q_bd hq
      refine roV (ci := 0) (As := [.int v5, .int 0]) (rest := []) X K (k_X0_cell l G g h1 a1 cn cf v5 0 _ hh8) hd_X0_cell gX0_canStretch_X0_cell hP hl.1 dX0_canStretch_19 rfl rfl ⟨Nat.le_of_ble_eq_true rfl, Nat.le_of_ble_eq_true rfl⟩ rfl rfl rfl (Nat.le_of_ble_eq_true rfl) ⟨Nat.zero_le _, Nat.zero_le _⟩ ?_
      refine lv_istore (lv' := [(6, .int r7), (0, .ref h1), (1, .int v1), (2, .int v2), (3, .int v3), (4, .int v4), (5, .int v5)]) hx hb dX0_canStretch_22 hl (by decide) rfl (fun ls hl => ?_)
      refine lv_iload hx hb dX0_canStretch_24 (lv_at hl 0 rfl) ?_
      refine lv_iload_n hx hb dX0_canStretch_26 rfl (lv_at hl 2 rfl) ?_
      refine lv_iload_n hx hb dX0_canStretch_27 rfl (lv_at hl 3 rfl) ?_
      refine lv_iload_n hx hb dX0_canStretch_28 rfl (lv_at hl 4 rfl) ?_
      obtain ⟨r9, hh10, hq⟩ := q_bd hq
      refine roS (As := [.int r7, .int v1, .int v2, .int v3]) (rest := []) X K (k_X0_stretchedFrame l G g r7 v1 v2 v3 _ hh10) hd_X0_stretchedFrame gX0_canStretch_X0_stretchedFrame (hP.sub [] rfl) hl.1 dX0_canStretch_29 rfl rfl ⟨Nat.le_of_ble_eq_true rfl, Nat.le_of_ble_eq_true rfl⟩ rfl (Nat.le_of_ble_eq_true rfl) ⟨Nat.zero_le _, Nat.zero_le _⟩ ?_
      refine lv_istore (lv' := [(7, .int r9), (6, .int r7), (0, .ref h1), (1, .int v1), (2, .int v2), (3, .int v3), (4, .int v4), (5, .int v5)]) hx hb dX0_canStretch_32 hl (by decide) rfl (fun ls hl => ?_)
      refine lv_iload hx hb dX0_canStretch_34 (lv_at hl 0 rfl) ?_
      refine lv_sipush (v := 999) hx hb dX0_canStretch_36 (by decide) ?_
      refine lv_icmp_gt (tgt := 65) hx hb dX0_canStretch_39 (by decide) (fun c11 => ?_) (fun c11 => ?_)
      · have hq := q_if_t hq c11
        refine lv_iconst (v := 0) hx hb dX0_canStretch_65 (by decide) ?_
        obtain rfl := q_rt hq
        exact ro_zret hx hb hr nz_0 hk dX0_canStretch_66
      · have hq := q_if_f hq c11
        refine lv_iload hx hb dX0_canStretch_42 (lv_at hl 0 rfl) ?_
        refine lv_iload hx hb dX0_canStretch_44 (lv_at hl 6 rfl) ?_
        refine lv_icmp_eq (tgt := 65) hx hb dX0_canStretch_46 (by decide) (fun c12 => ?_) (fun c12 => ?_)
        · have hq := q_if_t hq c12
          refine lv_iconst (v := 0) hx hb dX0_canStretch_65 (by decide) ?_
          obtain rfl := q_rt hq
          exact ro_zret hx hb hr nz_0 hk dX0_canStretch_66
        · have hq := q_if_f hq c12
          refine lv_aload_n hx hb dX0_canStretch_49 rfl (lv_at hl 2 rfl) ?_
          refine lv_iload hx hb dX0_canStretch_50 (lv_at hl 7 rfl) ?_
          obtain ⟨r13, hh14, hq⟩ := q_bd hq
          refine roV (ci := 0) (As := [.int v5]) (rest := []) X K (k_X0_isLocked l G g h1 a1 cn cf v5 _ hh14) hd_X0_isLocked gX0_canStretch_X0_isLocked hP hl.1 dX0_canStretch_52 rfl rfl ⟨Nat.le_of_ble_eq_true rfl, Nat.le_of_ble_eq_true rfl⟩ rfl rfl rfl (Nat.le_of_ble_eq_true rfl) ⟨Nat.zero_le _, Nat.zero_le _⟩ ?_
          refine lv_if_eq (tgt := 67) hx hb dX0_canStretch_55 (by decide) (fun c15 => ?_) (fun c15 => ?_)
          · have hq := q_if_t hq c15
            refine lv_iload hx hb dX0_canStretch_67 (lv_at hl 0 rfl) ?_
            refine lv_istore (lv' := [(4, .int r9), (7, .int r9), (6, .int r7), (0, .ref h1), (1, .int v1), (2, .int v2), (3, .int v3), (5, .int v5)]) hx hb dX0_canStretch_69 hl (by decide) rfl (fun ls hl => ?_)
            obtain ⟨x16, ex16⟩ : ∃ y : Int32, y = (v5 : Int32) + 1 := ⟨_, rfl⟩
            have hq := q_let hq ex16
            refine lv_iinc (v := x16) (lv' := [(5, .int x16), (4, .int r9), (7, .int r9), (6, .int r7), (0, .ref h1), (1, .int v1), (2, .int v2), (3, .int v3)]) hx hb dX0_canStretch_71 hl (k := 7) rfl (by rw [ex16]; rfl) (by decide) rfl (fun ls hl => ?_)
            refine lv_goto (tgt := 6) hx hb dX0_canStretch_74 (by decide) ?_
            exact ih r9 x16 hq ls (lv_sub hl [4, 5, 6, 7, 1, 0] rfl)
          · have hq := q_if_f hq c15
            refine lv_iload hx hb dX0_canStretch_58 (lv_at hl 0 rfl) ?_
            refine lv_iload hx hb dX0_canStretch_60 (lv_at hl 1 rfl) ?_
            refine lv_icmp_eq (tgt := 67) hx hb dX0_canStretch_62 (by decide) (fun c17 => ?_) (fun c17 => ?_)
            · have hq := q_if_t hq c17
              refine lv_iload hx hb dX0_canStretch_67 (lv_at hl 0 rfl) ?_
              refine lv_istore (lv' := [(4, .int r9), (7, .int r9), (6, .int r7), (0, .ref h1), (1, .int v1), (2, .int v2), (3, .int v3), (5, .int v5)]) hx hb dX0_canStretch_69 hl (by decide) rfl (fun ls hl => ?_)
              obtain ⟨x18, ex18⟩ : ∃ y : Int32, y = (v5 : Int32) + 1 := ⟨_, rfl⟩
              have hq := q_let hq ex18
              refine lv_iinc (v := x18) (lv' := [(5, .int x18), (4, .int r9), (7, .int r9), (6, .int r7), (0, .ref h1), (1, .int v1), (2, .int v2), (3, .int v3)]) hx hb dX0_canStretch_71 hl (k := 7) rfl (by rw [ex18]; rfl) (by decide) rfl (fun ls hl => ?_)
              refine lv_goto (tgt := 6) hx hb dX0_canStretch_74 (by decide) ?_
              exact ih r9 x18 hq ls (lv_sub hl [4, 5, 6, 7, 1, 0] rfl)
            · have hq := q_if_f hq c17
              refine lv_iconst (v := 0) hx hb dX0_canStretch_65 (by decide) ?_
              obtain rfl := q_rt hq
              exact ro_zret hx hb hr nz_0 hk dX0_canStretch_66
def F_X0_canStretch (cn : Int32) (cf : Nat → Int32) (p1 : Int32) (p2 : Int32) (p3 : Int32) : Option (Int32) := F_X0_canStretch_6 cn cf p1 p2 p3 2000 (-1) 0
set_option maxHeartbeats 4000000 in
set_option maxRecDepth 100000 in
theorem k_X0_canStretch (l : Launch) (G : va_G) (g : Nat → ClassId) (h1 a1 : Nat) (cn : Int32) (cf : Nat → Int32) (p1 : Int32) (p2 : Int32) (p3 : Int32) (res : Int32) (hq : F_X0_canStretch cn cf p1 p2 p3 = some res) : roC l yX0_canStretch wsX0_canStretch (rmF 2 43) G g [.ref h1, .int p1, .int p2, .int p3] [(h1, .inr (0, [.int cn, .ref a1])), (a1, .inl (g 0, 96, .inl cf))] (some (.int res)) := by
  refine roC.of (cc := cX0_canStretch) (maxL := 8) (ret := (some .boolean)) (by decide) rfl (Nat.le_of_ble_eq_true rfl) ?_
  intro p e s m below meth c ls X K hP hl
  obtain ⟨hx, hb, hml, hr, hown, hts, hk⟩ := id X
  have hl : lv_has ls 8 [(0, .ref h1), (1, .int p1), (2, .int p2), (3, .int p3)] := hl
  unfold F_X0_canStretch at hq
  refine lv_iconst (v := (-1)) hx hb dX0_canStretch_0 (by decide) ?_
  refine lv_istore (lv' := [(4, .int (-1)), (0, .ref h1), (1, .int p1), (2, .int p2), (3, .int p3)]) hx hb dX0_canStretch_1 hl (by decide) rfl (fun ls hl => ?_)
  refine lv_iconst (v := 0) hx hb dX0_canStretch_3 (by decide) ?_
  refine lv_istore (lv' := [(5, .int 0), (4, .int (-1)), (0, .ref h1), (1, .int p1), (2, .int p2), (3, .int p3)]) hx hb dX0_canStretch_4 hl (by decide) rfl (fun ls hl => ?_)
  exact w_X0_canStretch_6 X K h1 a1 cn cf p1 p2 p3 hP _ 2000 (-1) 0 hq ls (lv_sub hl [2, 3, 4, 5, 1, 0] rfl)
theorem in_X0_stretchSpan_X0 : ∀ w ∈ wsX00, w ∈ wsX0_stretchSpan := fun _ h => List.mem_cons_of_mem _ (List.mem_append_right _ h)
def F_X0_stretchSpan_6 (cn : Int32) (v1 : Int32) (v2 : Int32) (v3 : Int32) : Nat → (Nat → Int32) → Int32 → Int32 → Option (Int32 × (Nat → Int32))
  | 0, _, _, _ => none
  | n + 1, cf, v4, v5 => if cn ≤ v5 then (some (v4, cf)) else ((F_X0_cell cn cf v5 0).bind fun r7 => (F_X0_stretchedFrame r7 v1 v2 v3).bind fun r9 => if r9 = r7 then ((F_X0_put cn cf v5 0 r9).bind fun y12 => vlet ((v5 : Int32) + 1) fun x14 => F_X0_stretchSpan_6 cn v1 v2 v3 n y12 v4 x14) else (vlet ((v4 : Int32) + 1) fun x15 => (F_X0_put cn cf v5 0 r9).bind fun y16 => vlet ((v5 : Int32) + 1) fun x18 => F_X0_stretchSpan_6 cn v1 v2 v3 n y16 x15 x18))
set_option maxHeartbeats 4000000 in
set_option maxRecDepth 100000 in
theorem w_X0_stretchSpan_6 {p : Program} {l : Launch} {e : Env} {s : State} {m : MethodId} {args : Array Value} {below : List Frame} {meth : Method} {c : Code} {G : va_G} {g : Nat → ClassId} (X : cx p s m args meth c cX0_stretchSpan 8 (some .int) RX0 wsX0_stretchSpan) (K : amb G g s) {A : Nat → Prop} (hA : ∀ q : Nat, s.heap.size ≤ q → A q) (h1 a1 : Nat) (cn : Int32) (v1 : Int32) (v2 : Int32) (v3 : Int32) (res : Int32 × (Nat → Int32)) : ∀ (n : Nat) (cf : Nat → Int32) (v4 : Int32) (v5 : Int32), F_X0_stretchSpan_6 cn v1 v2 v3 n cf v4 v5 = some res → ∀ (H : Heap) (locs : List Loc), va_P G vwCl [(h1, .inr (0, [.int cn, .ref a1])), (a1, .inl (g 0, 96, .inl cf))] H → va_D A [(h1, .inr (0, [.int cn, .ref a1])), (a1, .inl (g 0, 96, .inl cf))] → va_S A s.heap H locs → ∀ (ls : Array Slot), lv_has ls 8 [(0, .ref h1), (1, .int v1), (2, .int v2), (3, .int v3), (4, .int v4), (5, .int v5)] → W p l e (rmF 1 23) s m args below meth c H locs 0 0 (rwM G A below (some (.int res.1)) [(h1, .inr (0, [.int cn, .ref a1])), (a1, .inl (g 0, 96, .inl res.2))] args s) (F0 m 6 ls []) := by
  obtain ⟨hx, hb, hml, hr, hown, hts, hk⟩ := id X
  intro n
  induction n with
  | zero => intro cf v4 v5 hq; exact q_no hq
  | succ n ih =>
    intro cf v4 v5 hq H locs hP hD hS ls hl
    rw [F_X0_stretchSpan_6] at hq
    refine lv_iload hx hb dX0_stretchSpan_6 (lv_at hl 5 rfl) ?_
    refine lv_aload_n hx hb dX0_stretchSpan_8 rfl (lv_at hl 0 rfl) ?_
    refine va_get (D := G) (ci := 0) (v := .int cn) (C := RX0) (T := TX0) (N := 2) hx hb hts in_X0_stretchSpan_X0 hown K.1 hP 0 rfl rfl 0 (by decide) (hts _ (List.mem_of_getElem? (i := 1) rfl)) (fun _ h9 => h9) rfl dX0_stretchSpan_9 ?_
    refine lv_icmp_ge (tgt := 59) hx hb dX0_stretchSpan_12 (by decide) (fun c6 => ?_) (fun c6 => ?_)
    · have hq := q_if_t hq c6
      refine lv_iload hx hb dX0_stretchSpan_59 (lv_at hl 4 rfl) ?_
      obtain rfl := q_rt hq
      exact rw_iret hx hb hr hk hP hD hS dX0_stretchSpan_61
    · have hq := q_if_f hq c6
      refine lv_aload_n hx hb dX0_stretchSpan_15 rfl (lv_at hl 0 rfl) ?_
      refine lv_iload hx hb dX0_stretchSpan_16 (lv_at hl 5 rfl) ?_
      refine lv_iconst (v := 0) hx hb dX0_stretchSpan_18 (by decide) ?_
      obtain ⟨r7, hh8, hq⟩ := q_bd hq
      refine roV (ci := 0) (As := [.int v5, .int 0]) (rest := []) X K (k_X0_cell l G g h1 a1 cn cf v5 0 _ hh8) hd_X0_cell gX0_stretchSpan_X0_cell hP hl.1 dX0_stretchSpan_19 rfl rfl ⟨Nat.le_of_ble_eq_true rfl, Nat.le_of_ble_eq_true rfl⟩ rfl rfl rfl (Nat.le_of_ble_eq_true rfl) ⟨Nat.zero_le _, Nat.zero_le _⟩ ?_
      refine lv_istore (lv' := [(6, .int r7), (0, .ref h1), (1, .int v1), (2, .int v2), (3, .int v3), (4, .int v4), (5, .int v5)]) hx hb dX0_stretchSpan_22 hl (by decide) rfl (fun ls hl => ?_)
      refine lv_iload hx hb dX0_stretchSpan_24 (lv_at hl 0 rfl) ?_
      refine lv_iload_n hx hb dX0_stretchSpan_26 rfl (lv_at hl 2 rfl) ?_
      refine lv_iload_n hx hb dX0_stretchSpan_27 rfl (lv_at hl 3 rfl) ?_
      refine lv_iload_n hx hb dX0_stretchSpan_28 rfl (lv_at hl 4 rfl) ?_
      obtain ⟨r9, hh10, hq⟩ := q_bd hq
      refine roS (As := [.int r7, .int v1, .int v2, .int v3]) (rest := []) X K (k_X0_stretchedFrame l G g r7 v1 v2 v3 _ hh10) hd_X0_stretchedFrame gX0_stretchSpan_X0_stretchedFrame (hP.sub [] rfl) hl.1 dX0_stretchSpan_29 rfl rfl ⟨Nat.le_of_ble_eq_true rfl, Nat.le_of_ble_eq_true rfl⟩ rfl (Nat.le_of_ble_eq_true rfl) ⟨Nat.zero_le _, Nat.zero_le _⟩ ?_
      refine lv_istore (lv' := [(7, .int r9), (6, .int r7), (0, .ref h1), (1, .int v1), (2, .int v2), (3, .int v3), (4, .int v4), (5, .int v5)]) hx hb dX0_stretchSpan_32 hl (by decide) rfl (fun ls hl => ?_)
      refine lv_iload hx hb dX0_stretchSpan_34 (lv_at hl 0 rfl) ?_
      refine lv_iload hx hb dX0_stretchSpan_36 (lv_at hl 1 rfl) ?_
      refine lv_icmp_eq (tgt := 44) hx hb dX0_stretchSpan_38 (by decide) (fun c11 => ?_) (fun c11 => ?_)
      · have hq := q_if_t hq c11
        refine lv_aload_n hx hb dX0_stretchSpan_44 rfl (lv_at hl 2 rfl) ?_
        refine lv_iload hx hb dX0_stretchSpan_45 (lv_at hl 7 rfl) ?_
        refine lv_iconst (v := 0) hx hb dX0_stretchSpan_47 (by decide) ?_
        refine lv_iload hx hb dX0_stretchSpan_48 (lv_at hl 0 rfl) ?_
        obtain ⟨y12, hh13, hq⟩ := q_bd hq
        refine rwV (ci := 0) (wr := []) (As := [.int v5, .int 0, .int r9]) (rest := []) X K (k_X0_put l G g h1 a1 cn cf v5 0 r9 _ hh13) hd_X0_put gX0_stretchSpan_X0_put hP hD hS hA [0, 1] [] rfl rfl ⟨by decide, by decide, by decide⟩ hl.1 dX0_stretchSpan_50 rfl rfl ⟨Nat.le_of_ble_eq_true rfl, Nat.le_of_ble_eq_true rfl⟩ rfl rfl rfl (Nat.le_of_ble_eq_true rfl) ⟨Nat.zero_le _, Nat.zero_le _⟩ (fun H locs hP hD hS => ?_)
        have hP : va_P G vwCl [(h1, .inr (0, [.int cn, .ref a1])), (a1, .inl (g 0, 96, .inl y12))] H := hP
        have hD : va_D A [(h1, .inr (0, [.int cn, .ref a1])), (a1, .inl (g 0, 96, .inl y12))] := hD
        obtain ⟨x14, ex14⟩ : ∃ y : Int32, y = (v5 : Int32) + 1 := ⟨_, rfl⟩
        have hq := q_let hq ex14
        refine lv_iinc (v := x14) (lv' := [(5, .int x14), (7, .int r9), (6, .int r7), (0, .ref h1), (1, .int v1), (2, .int v2), (3, .int v3), (4, .int v4)]) hx hb dX0_stretchSpan_53 hl (k := 7) rfl (by rw [ex14]; rfl) (by decide) rfl (fun ls hl => ?_)
        refine lv_goto (tgt := 6) hx hb dX0_stretchSpan_56 (by decide) ?_
        exact ih y12 v4 x14 hq _ _ hP hD hS ls (lv_sub hl [3, 4, 5, 6, 7, 0] rfl)
      · have hq := q_if_f hq c11
        obtain ⟨x15, ex15⟩ : ∃ y : Int32, y = (v4 : Int32) + 1 := ⟨_, rfl⟩
        have hq := q_let hq ex15
        refine lv_iinc (v := x15) (lv' := [(4, .int x15), (7, .int r9), (6, .int r7), (0, .ref h1), (1, .int v1), (2, .int v2), (3, .int v3), (5, .int v5)]) hx hb dX0_stretchSpan_41 hl (k := 6) rfl (by rw [ex15]; rfl) (by decide) rfl (fun ls hl => ?_)
        refine lv_aload_n hx hb dX0_stretchSpan_44 rfl (lv_at hl 3 rfl) ?_
        refine lv_iload hx hb dX0_stretchSpan_45 (lv_at hl 7 rfl) ?_
        refine lv_iconst (v := 0) hx hb dX0_stretchSpan_47 (by decide) ?_
        refine lv_iload hx hb dX0_stretchSpan_48 (lv_at hl 1 rfl) ?_
        obtain ⟨y16, hh17, hq⟩ := q_bd hq
        refine rwV (ci := 0) (wr := []) (As := [.int v5, .int 0, .int r9]) (rest := []) X K (k_X0_put l G g h1 a1 cn cf v5 0 r9 _ hh17) hd_X0_put gX0_stretchSpan_X0_put hP hD hS hA [0, 1] [] rfl rfl ⟨by decide, by decide, by decide⟩ hl.1 dX0_stretchSpan_50 rfl rfl ⟨Nat.le_of_ble_eq_true rfl, Nat.le_of_ble_eq_true rfl⟩ rfl rfl rfl (Nat.le_of_ble_eq_true rfl) ⟨Nat.zero_le _, Nat.zero_le _⟩ (fun H locs hP hD hS => ?_)
        have hP : va_P G vwCl [(h1, .inr (0, [.int cn, .ref a1])), (a1, .inl (g 0, 96, .inl y16))] H := hP
        have hD : va_D A [(h1, .inr (0, [.int cn, .ref a1])), (a1, .inl (g 0, 96, .inl y16))] := hD
        obtain ⟨x18, ex18⟩ : ∃ y : Int32, y = (v5 : Int32) + 1 := ⟨_, rfl⟩
        have hq := q_let hq ex18
        refine lv_iinc (v := x18) (lv' := [(5, .int x18), (4, .int x15), (7, .int r9), (6, .int r7), (0, .ref h1), (1, .int v1), (2, .int v2), (3, .int v3)]) hx hb dX0_stretchSpan_53 hl (k := 7) rfl (by rw [ex18]; rfl) (by decide) rfl (fun ls hl => ?_)
        refine lv_goto (tgt := 6) hx hb dX0_stretchSpan_56 (by decide) ?_
        exact ih y16 x15 x18 hq _ _ hP hD hS ls (lv_sub hl [4, 5, 6, 7, 1, 0] rfl)
def F_X0_stretchSpan (cn : Int32) (cf : Nat → Int32) (p1 : Int32) (p2 : Int32) (p3 : Int32) : Option (Int32 × (Nat → Int32)) := F_X0_stretchSpan_6 cn p1 p2 p3 2000 cf 0 0
set_option maxHeartbeats 4000000 in
set_option maxRecDepth 100000 in
theorem k_X0_stretchSpan (l : Launch) (G : va_G) (g : Nat → ClassId) (h1 a1 : Nat) (cn : Int32) (cf : Nat → Int32) (p1 : Int32) (p2 : Int32) (p3 : Int32) (res : Int32 × (Nat → Int32)) (hq : F_X0_stretchSpan cn cf p1 p2 p3 = some res) : rwC l yX0_stretchSpan wsX0_stretchSpan (rmF 1 23) G g [.ref h1, .int p1, .int p2, .int p3] [(h1, .inr (0, [.int cn, .ref a1])), (a1, .inl (g 0, 96, .inl cf))] (some (.int res.1)) [(h1, .inr (0, [.int cn, .ref a1])), (a1, .inl (g 0, 96, .inl res.2))] := by
  refine rwC.of (cc := cX0_stretchSpan) (maxL := 8) (ret := (some .int)) (by decide) rfl (Nat.le_of_ble_eq_true rfl) ?_
  intro p e s m below meth c ls A X K hA hP hD hS hl
  obtain ⟨hx, hb, hml, hr, hown, hts, hk⟩ := id X
  have hl : lv_has ls 8 [(0, .ref h1), (1, .int p1), (2, .int p2), (3, .int p3)] := hl
  unfold F_X0_stretchSpan at hq
  refine lv_iconst (v := 0) hx hb dX0_stretchSpan_0 (by decide) ?_
  refine lv_istore (lv' := [(4, .int 0), (0, .ref h1), (1, .int p1), (2, .int p2), (3, .int p3)]) hx hb dX0_stretchSpan_1 hl (by decide) rfl (fun ls hl => ?_)
  refine lv_iconst (v := 0) hx hb dX0_stretchSpan_3 (by decide) ?_
  refine lv_istore (lv' := [(5, .int 0), (4, .int 0), (0, .ref h1), (1, .int p1), (2, .int p2), (3, .int p3)]) hx hb dX0_stretchSpan_4 hl (by decide) rfl (fun ls hl => ?_)
  exact w_X0_stretchSpan_6 X K hA h1 a1 cn p1 p2 p3 _ 2000 cf 0 0 hq _ _ hP hD hS ls (lv_sub hl [2, 3, 4, 5, 1, 0] rfl)
def F_X0_isTurn_10 (v1 : Int32) (v2 : Int32) (v3 : Int32) : Option (Int32) := if v1 < v2 then (some (0)) else (if v3 < v2 then (some (0)) else (some (1)))
set_option maxHeartbeats 4000000 in
set_option maxRecDepth 100000 in
theorem w_X0_isTurn_10 {p : Program} {l : Launch} {e : Env} {s : State} {m : MethodId} {args : Array Value} {below : List Frame} {meth : Method} {c : Code} {G : va_G} {g : Nat → ClassId} (X : cx p s m args meth c cX0_isTurn 3 (some .boolean) RX0 wsX0_isTurn) (K : amb G g s) (v1 : Int32) (v2 : Int32) (v3 : Int32) (hP : va_P G vwCl [] s.heap) (res : Int32) (hq : F_X0_isTurn_10 v1 v2 v3 = some res) : ∀ (ls : Array Slot), lv_has ls 3 [(0, .int v1), (1, .int v2), (2, .int v3)] → W p l e (rmF 0 0) s m args below meth c s.heap [] 0 0 (roM below (some (.int res)) args s) (F0 m 10 ls []) := by
  obtain ⟨hx, hb, hml, hr, hown, hts, hk⟩ := id X
  intro ls hl
  unfold F_X0_isTurn_10 at hq
  refine lv_iload_n hx hb dX0_isTurn_10 rfl (lv_at hl 0 rfl) ?_
  refine lv_iload_n hx hb dX0_isTurn_11 rfl (lv_at hl 1 rfl) ?_
  refine lv_icmp_lt (tgt := 24) hx hb dX0_isTurn_12 (by decide) (fun c4 => ?_) (fun c4 => ?_)
  · have hq := q_if_t hq c4
    refine lv_iconst (v := 0) hx hb dX0_isTurn_24 (by decide) ?_
    obtain rfl := q_rt hq
    exact ro_zret hx hb hr nz_0 hk dX0_isTurn_25
  · have hq := q_if_f hq c4
    refine lv_iload_n hx hb dX0_isTurn_15 rfl (lv_at hl 2 rfl) ?_
    refine lv_iload_n hx hb dX0_isTurn_16 rfl (lv_at hl 1 rfl) ?_
    refine lv_icmp_lt (tgt := 24) hx hb dX0_isTurn_17 (by decide) (fun c5 => ?_) (fun c5 => ?_)
    · have hq := q_if_t hq c5
      refine lv_iconst (v := 0) hx hb dX0_isTurn_24 (by decide) ?_
      obtain rfl := q_rt hq
      exact ro_zret hx hb hr nz_0 hk dX0_isTurn_25
    · have hq := q_if_f hq c5
      refine lv_iconst (v := 1) hx hb dX0_isTurn_20 (by decide) ?_
      refine lv_goto (tgt := 25) hx hb dX0_isTurn_21 (by decide) ?_
      obtain rfl := q_rt hq
      exact ro_zret hx hb hr nz_1 hk dX0_isTurn_25
def F_X0_isTurn (p1 : Int32) (p2 : Int32) (p3 : Int32) : Option (Int32) := if p2 < p1 then (F_X0_isTurn_10 p1 p2 p3) else (if p3 ≤ p2 then (some (1)) else (F_X0_isTurn_10 p1 p2 p3))
set_option maxHeartbeats 4000000 in
set_option maxRecDepth 100000 in
theorem k_X0_isTurn (l : Launch) (G : va_G) (g : Nat → ClassId) (p1 : Int32) (p2 : Int32) (p3 : Int32) (res : Int32) (hq : F_X0_isTurn p1 p2 p3 = some res) : roC l yX0_isTurn wsX0_isTurn (rmF 0 0) G g [.int p1, .int p2, .int p3] [] (some (.int res)) := by
  refine roC.of (cc := cX0_isTurn) (maxL := 3) (ret := (some .boolean)) (by decide) rfl (Nat.le_of_ble_eq_true rfl) ?_
  intro p e s m below meth c ls X K hP hl
  obtain ⟨hx, hb, hml, hr, hown, hts, hk⟩ := id X
  have hl : lv_has ls 3 [(0, .int p1), (1, .int p2), (2, .int p3)] := hl
  unfold F_X0_isTurn at hq
  refine lv_iload_n hx hb dX0_isTurn_0 rfl (lv_at hl 0 rfl) ?_
  refine lv_iload_n hx hb dX0_isTurn_1 rfl (lv_at hl 1 rfl) ?_
  refine lv_icmp_gt (tgt := 10) hx hb dX0_isTurn_2 (by decide) (fun c1 => ?_) (fun c1 => ?_)
  · have hq := q_if_t hq c1
    exact w_X0_isTurn_10 X K p1 p2 p3 hP _ hq ls (lv_sub hl [0, 1, 2] rfl)
  · have hq := q_if_f hq c1
    refine lv_iload_n hx hb dX0_isTurn_5 rfl (lv_at hl 2 rfl) ?_
    refine lv_iload_n hx hb dX0_isTurn_6 rfl (lv_at hl 1 rfl) ?_
    refine lv_icmp_le (tgt := 20) hx hb dX0_isTurn_7 (by decide) (fun c2 => ?_) (fun c2 => ?_)
    · have hq := q_if_t hq c2
      refine lv_iconst (v := 1) hx hb dX0_isTurn_20 (by decide) ?_
      refine lv_goto (tgt := 25) hx hb dX0_isTurn_21 (by decide) ?_
      obtain rfl := q_rt hq
      exact ro_zret hx hb hr nz_1 hk dX0_isTurn_25
    · have hq := q_if_f hq c2
      exact w_X0_isTurn_10 X K p1 p2 p3 hP _ hq ls (lv_sub hl [0, 1, 2] rfl)
theorem hd_X0_isTurn : ynm yX0_isTurn 3 := by unfold ynm; decide +kernel
theorem in_X0_tangentOf_X0 : ∀ w ∈ wsX00, w ∈ wsX0_tangentOf := fun _ h => List.mem_cons_of_mem _ (List.mem_append_right _ h)
def F_X0_tangentOf (cn : Int32) (cf : Nat → Int32) (p1 : Int32) : Option (Int32) := (F_X0_cell cn cf p1 3).bind fun r1 => if r1 = 0 then ((F_X0_cell cn cf p1 4).bind fun r24 => some (r24)) else ((F_X0_cell cn cf (p1 + 1) 0).bind fun r4 => (F_X0_cell cn cf (p1 - 1) 0).bind fun r6 => vlet (r4 - r6) fun x8 => if p1 ≤ 0 then (some (0)) else (if (cn - 1) ≤ p1 then (some (0)) else (if (0 : Int32) < x8 then ((F_X0_cell cn cf (p1 - 1) 1).bind fun r12 => (F_X0_cell cn cf (p1 + 1) 1).bind fun r14 => if r1 = 2 then ((F_X0_cell cn cf p1 1).bind fun r18 => (F_X0_isTurn r12 r18 r14).bind fun r20 => if r20 = 0 then (vgd (¬ x8 = 0) <| some (((1000 : Int32) * (r14 - r12)) / x8)) else (some (0))) else (vgd (¬ x8 = 0) <| some (((1000 : Int32) * (r14 - r12)) / x8))) else (some (0)))))
set_option maxHeartbeats 4000000 in
set_option maxRecDepth 100000 in
theorem k_X0_tangentOf (l : Launch) (G : va_G) (g : Nat → ClassId) (h1 a1 : Nat) (cn : Int32) (cf : Nat → Int32) (p1 : Int32) (res : Int32) (hq : F_X0_tangentOf cn cf p1 = some res) : roC l yX0_tangentOf wsX0_tangentOf (rmF 1 22) G g [.ref h1, .int p1] [(h1, .inr (0, [.int cn, .ref a1])), (a1, .inl (g 0, 96, .inl cf))] (some (.int res)) := by
  refine roC.of (cc := cX0_tangentOf) (maxL := 6) (ret := (some .int)) (by decide) rfl (Nat.le_of_ble_eq_true rfl) ?_
  intro p e s m below meth c ls X K hP hl
  obtain ⟨hx, hb, hml, hr, hown, hts, hk⟩ := id X
  have hl : lv_has ls 6 [(0, .ref h1), (1, .int p1)] := hl
  unfold F_X0_tangentOf at hq
  refine lv_aload_n hx hb dX0_tangentOf_0 rfl (lv_at hl 0 rfl) ?_
  refine lv_iload_n hx hb dX0_tangentOf_1 rfl (lv_at hl 1 rfl) ?_
  refine lv_iconst (v := 3) hx hb dX0_tangentOf_2 (by decide) ?_
  obtain ⟨r1, hh2, hq⟩ := q_bd hq
  refine roV (ci := 0) (As := [.int p1, .int 3]) (rest := []) X K (k_X0_cell l G g h1 a1 cn cf p1 3 _ hh2) hd_X0_cell gX0_tangentOf_X0_cell hP hl.1 dX0_tangentOf_3 rfl rfl ⟨Nat.le_of_ble_eq_true rfl, Nat.le_of_ble_eq_true rfl⟩ rfl rfl rfl (Nat.le_of_ble_eq_true rfl) ⟨Nat.zero_le _, Nat.zero_le _⟩ ?_
  refine lv_istore_n (lv' := [(2, .int r1), (0, .ref h1), (1, .int p1)]) hx hb dX0_tangentOf_6 rfl hl (by decide) rfl (fun ls hl => ?_)
  refine lv_iload_n hx hb dX0_tangentOf_7 rfl (lv_at hl 0 rfl) ?_
  refine lv_if_ne (tgt := 18) hx hb dX0_tangentOf_8 (by decide) (fun c3 => ?_) (fun c3 => ?_)
  · have hq := q_if_f hq c3
    refine lv_aload_n hx hb dX0_tangentOf_18 rfl (lv_at hl 1 rfl) ?_
    refine lv_iload_n hx hb dX0_tangentOf_19 rfl (lv_at hl 2 rfl) ?_
    refine lv_iconst (v := 1) hx hb dX0_tangentOf_20 (by decide) ?_
    refine lv_iadd hx hb dX0_tangentOf_21 ?_
    refine lv_iconst (v := 0) hx hb dX0_tangentOf_22 (by decide) ?_
    obtain ⟨r4, hh5, hq⟩ := q_bd hq
    refine roV (ci := 0) (As := [.int (p1 + 1), .int 0]) (rest := []) X K (k_X0_cell l G g h1 a1 cn cf (p1 + 1) 0 _ hh5) hd_X0_cell gX0_tangentOf_X0_cell hP hl.1 dX0_tangentOf_23 rfl rfl ⟨Nat.le_of_ble_eq_true rfl, Nat.le_of_ble_eq_true rfl⟩ rfl rfl rfl (Nat.le_of_ble_eq_true rfl) ⟨Nat.zero_le _, Nat.zero_le _⟩ ?_
    refine lv_aload_n hx hb dX0_tangentOf_26 rfl (lv_at hl 1 rfl) ?_
    refine lv_iload_n hx hb dX0_tangentOf_27 rfl (lv_at hl 2 rfl) ?_
    refine lv_iconst (v := 1) hx hb dX0_tangentOf_28 (by decide) ?_
    refine lv_isub hx hb dX0_tangentOf_29 ?_
    refine lv_iconst (v := 0) hx hb dX0_tangentOf_30 (by decide) ?_
    obtain ⟨r6, hh7, hq⟩ := q_bd hq
    refine roV (ci := 0) (As := [.int (p1 - 1), .int 0]) (rest := [.int r4]) X K (k_X0_cell l G g h1 a1 cn cf (p1 - 1) 0 _ hh7) hd_X0_cell gX0_tangentOf_X0_cell hP hl.1 dX0_tangentOf_31 rfl rfl ⟨Nat.le_of_ble_eq_true rfl, Nat.le_of_ble_eq_true rfl⟩ rfl rfl rfl (Nat.le_of_ble_eq_true rfl) ⟨Nat.zero_le _, Nat.zero_le _⟩ ?_
    refine lv_isub hx hb dX0_tangentOf_34 ?_
    refine lv_topi (fun x8 ex8 => ?_)
    have hq := q_let hq ex8
    refine lv_istore_n (lv' := [(3, .int x8), (2, .int r1), (0, .ref h1), (1, .int p1)]) hx hb dX0_tangentOf_35 rfl hl (by decide) rfl (fun ls hl => ?_)
    refine lv_iload_n hx hb dX0_tangentOf_36 rfl (lv_at hl 3 rfl) ?_
    refine lv_if_le (tgt := 54) hx hb dX0_tangentOf_37 (by decide) (fun c9 => ?_) (fun c9 => ?_)
    · have hq := q_if_t hq c9
      refine lv_iconst (v := 0) hx hb dX0_tangentOf_54 (by decide) ?_
      obtain rfl := q_rt hq
      exact ro_iret hx hb hr hk dX0_tangentOf_55
    · have hq := q_if_f hq c9
      refine lv_iload_n hx hb dX0_tangentOf_40 rfl (lv_at hl 3 rfl) ?_
      refine lv_aload_n hx hb dX0_tangentOf_41 rfl (lv_at hl 2 rfl) ?_
      refine va_get (D := G) (ci := 0) (v := .int cn) (C := RX0) (T := TX0) (N := 2) hx hb hts in_X0_tangentOf_X0 hown K.1 hP 0 rfl rfl 0 (by decide) (hts _ (List.mem_of_getElem? (i := 1) rfl)) (fun _ h9 => h9) rfl dX0_tangentOf_42 ?_
      refine lv_iconst (v := 1) hx hb dX0_tangentOf_45 (by decide) ?_
      refine lv_isub hx hb dX0_tangentOf_46 ?_
      refine lv_icmp_ge (tgt := 54) hx hb dX0_tangentOf_47 (by decide) (fun c10 => ?_) (fun c10 => ?_)
      · have hq := q_if_t hq c10
        refine lv_iconst (v := 0) hx hb dX0_tangentOf_54 (by decide) ?_
        obtain rfl := q_rt hq
        exact ro_iret hx hb hr hk dX0_tangentOf_55
      · have hq := q_if_f hq c10
        refine lv_iload_n hx hb dX0_tangentOf_50 rfl (lv_at hl 0 rfl) ?_
        refine lv_if_gt (tgt := 56) hx hb dX0_tangentOf_51 (by decide) (fun c11 => ?_) (fun c11 => ?_)
        · have hq := q_if_t hq c11
          refine lv_aload_n hx hb dX0_tangentOf_56 rfl (lv_at hl 2 rfl) ?_
          refine lv_iload_n hx hb dX0_tangentOf_57 rfl (lv_at hl 3 rfl) ?_
          refine lv_iconst (v := 1) hx hb dX0_tangentOf_58 (by decide) ?_
          refine lv_isub hx hb dX0_tangentOf_59 ?_
          refine lv_iconst (v := 1) hx hb dX0_tangentOf_60 (by decide) ?_
          obtain ⟨r12, hh13, hq⟩ := q_bd hq
          refine roV (ci := 0) (As := [.int (p1 - 1), .int 1]) (rest := []) X K (k_X0_cell l G g h1 a1 cn cf (p1 - 1) 1 _ hh13) hd_X0_cell gX0_tangentOf_X0_cell hP hl.1 dX0_tangentOf_61 rfl rfl ⟨Nat.le_of_ble_eq_true rfl, Nat.le_of_ble_eq_true rfl⟩ rfl rfl rfl (Nat.le_of_ble_eq_true rfl) ⟨Nat.zero_le _, Nat.zero_le _⟩ ?_
          refine lv_istore (lv' := [(4, .int r12), (3, .int x8), (2, .int r1), (0, .ref h1), (1, .int p1)]) hx hb dX0_tangentOf_64 hl (by decide) rfl (fun ls hl => ?_)
          refine lv_aload_n hx hb dX0_tangentOf_66 rfl (lv_at hl 3 rfl) ?_
          refine lv_iload_n hx hb dX0_tangentOf_67 rfl (lv_at hl 4 rfl) ?_
          refine lv_iconst (v := 1) hx hb dX0_tangentOf_68 (by decide) ?_
          refine lv_iadd hx hb dX0_tangentOf_69 ?_
          refine lv_iconst (v := 1) hx hb dX0_tangentOf_70 (by decide) ?_
          obtain ⟨r14, hh15, hq⟩ := q_bd hq
          refine roV (ci := 0) (As := [.int (p1 + 1), .int 1]) (rest := []) X K (k_X0_cell l G g h1 a1 cn cf (p1 + 1) 1 _ hh15) hd_X0_cell gX0_tangentOf_X0_cell hP hl.1 dX0_tangentOf_71 rfl rfl ⟨Nat.le_of_ble_eq_true rfl, Nat.le_of_ble_eq_true rfl⟩ rfl rfl rfl (Nat.le_of_ble_eq_true rfl) ⟨Nat.zero_le _, Nat.zero_le _⟩ ?_
          refine lv_istore (lv' := [(5, .int r14), (4, .int r12), (3, .int x8), (2, .int r1), (0, .ref h1), (1, .int p1)]) hx hb dX0_tangentOf_74 hl (by decide) rfl (fun ls hl => ?_)
          refine lv_iload_n hx hb dX0_tangentOf_76 rfl (lv_at hl 3 rfl) ?_
          refine lv_iconst (v := 2) hx hb dX0_tangentOf_77 (by decide) ?_
          refine lv_icmp_ne (tgt := 99) hx hb dX0_tangentOf_78 (by decide) (fun c16 => ?_) (fun c16 => ?_)
          · have hq := q_if_f hq c16
            refine lv_sipush (v := 1000) hx hb dX0_tangentOf_99 (by decide) ?_
            refine lv_iload hx hb dX0_tangentOf_102 (lv_at hl 0 rfl) ?_
            refine lv_iload hx hb dX0_tangentOf_104 (lv_at hl 1 rfl) ?_
            refine lv_isub hx hb dX0_tangentOf_106 ?_
            refine lv_imul hx hb dX0_tangentOf_107 ?_
            refine lv_iload_n hx hb dX0_tangentOf_108 rfl (lv_at hl 2 rfl) ?_
            obtain ⟨hh17, hq⟩ := q_gd hq
            refine lv_idiv hx hb dX0_tangentOf_109 hh17 ?_
            obtain rfl := q_rt hq
            exact ro_iret hx hb hr hk dX0_tangentOf_110
          · have hq := q_if_t hq c16
            refine lv_iload hx hb dX0_tangentOf_81 (lv_at hl 1 rfl) ?_
            refine lv_aload_n hx hb dX0_tangentOf_83 rfl (lv_at hl 4 rfl) ?_
            refine lv_iload_n hx hb dX0_tangentOf_84 rfl (lv_at hl 5 rfl) ?_
            refine lv_iconst (v := 1) hx hb dX0_tangentOf_85 (by decide) ?_
            obtain ⟨r18, hh19, hq⟩ := q_bd hq
            refine roV (ci := 0) (As := [.int p1, .int 1]) (rest := [.int r12]) X K (k_X0_cell l G g h1 a1 cn cf p1 1 _ hh19) hd_X0_cell gX0_tangentOf_X0_cell hP hl.1 dX0_tangentOf_86 rfl rfl ⟨Nat.le_of_ble_eq_true rfl, Nat.le_of_ble_eq_true rfl⟩ rfl rfl rfl (Nat.le_of_ble_eq_true rfl) ⟨Nat.zero_le _, Nat.zero_le _⟩ ?_
            refine lv_iload hx hb dX0_tangentOf_89 (lv_at hl 0 rfl) ?_
            obtain ⟨r20, hh21, hq⟩ := q_bd hq
            refine roS (As := [.int r12, .int r18, .int r14]) (rest := []) X K (k_X0_isTurn l G g r12 r18 r14 _ hh21) hd_X0_isTurn gX0_tangentOf_X0_isTurn (hP.sub [] rfl) hl.1 dX0_tangentOf_91 rfl rfl ⟨Nat.le_of_ble_eq_true rfl, Nat.le_of_ble_eq_true rfl⟩ rfl (Nat.le_of_ble_eq_true rfl) ⟨Nat.zero_le _, Nat.zero_le _⟩ ?_
            refine lv_if_eq (tgt := 99) hx hb dX0_tangentOf_94 (by decide) (fun c22 => ?_) (fun c22 => ?_)
            · have hq := q_if_t hq c22
              refine lv_sipush (v := 1000) hx hb dX0_tangentOf_99 (by decide) ?_
              refine lv_iload hx hb dX0_tangentOf_102 (lv_at hl 0 rfl) ?_
              refine lv_iload hx hb dX0_tangentOf_104 (lv_at hl 1 rfl) ?_
              refine lv_isub hx hb dX0_tangentOf_106 ?_
              refine lv_imul hx hb dX0_tangentOf_107 ?_
              refine lv_iload_n hx hb dX0_tangentOf_108 rfl (lv_at hl 2 rfl) ?_
              obtain ⟨hh23, hq⟩ := q_gd hq
              refine lv_idiv hx hb dX0_tangentOf_109 hh23 ?_
              obtain rfl := q_rt hq
              exact ro_iret hx hb hr hk dX0_tangentOf_110
            · have hq := q_if_f hq c22
              refine lv_iconst (v := 0) hx hb dX0_tangentOf_97 (by decide) ?_
              obtain rfl := q_rt hq
              exact ro_iret hx hb hr hk dX0_tangentOf_98
        · have hq := q_if_f hq c11
          refine lv_iconst (v := 0) hx hb dX0_tangentOf_54 (by decide) ?_
          obtain rfl := q_rt hq
          exact ro_iret hx hb hr hk dX0_tangentOf_55
  · have hq := q_if_t hq c3
    refine lv_aload_n hx hb dX0_tangentOf_11 rfl (lv_at hl 1 rfl) ?_
    refine lv_iload_n hx hb dX0_tangentOf_12 rfl (lv_at hl 2 rfl) ?_
    refine lv_iconst (v := 4) hx hb dX0_tangentOf_13 (by decide) ?_
    obtain ⟨r24, hh25, hq⟩ := q_bd hq
    refine roV (ci := 0) (As := [.int p1, .int 4]) (rest := []) X K (k_X0_cell l G g h1 a1 cn cf p1 4 _ hh25) hd_X0_cell gX0_tangentOf_X0_cell hP hl.1 dX0_tangentOf_14 rfl rfl ⟨Nat.le_of_ble_eq_true rfl, Nat.le_of_ble_eq_true rfl⟩ rfl rfl rfl (Nat.le_of_ble_eq_true rfl) ⟨Nat.zero_le _, Nat.zero_le _⟩ ?_
    obtain rfl := q_rt hq
    exact ro_iret hx hb hr hk dX0_tangentOf_17
def F_X0_riseByTangents (p1 : Int64) (p2 : Int64) (p3 : Int64) (p4 : Int64) : Option (Int64) := vlet (p2 * p2) fun x1 => vlet (x1 * p2) fun x2 => some ((((p1 * (((3000 : Int64) * x1) - ((2 : Int64) * x2))) + (p3 * ((x2 - ((2000 : Int64) * x1)) + ((1000000 : Int64) * p2)))) + (p4 * (x2 - ((1000 : Int64) * x1)))) / 1000000000)
set_option maxHeartbeats 4000000 in
set_option maxRecDepth 100000 in
theorem k_X0_riseByTangents (l : Launch) (G : va_G) (g : Nat → ClassId) (p1 : Int64) (p2 : Int64) (p3 : Int64) (p4 : Int64) (res : Int64) (hq : F_X0_riseByTangents p1 p2 p3 p4 = some res) : roC l yX0_riseByTangents wsX0_riseByTangents (rmF 0 0) G g [.long p1, .long p2, .long p3, .long p4] [] (some (.long res)) := by
  refine roC.of (cc := cX0_riseByTangents) (maxL := 12) (ret := (some .long)) (by decide) rfl (Nat.le_of_ble_eq_true rfl) ?_
  intro p e s m below meth c ls X K hP hl
  obtain ⟨hx, hb, hml, hr, hown, hts, hk⟩ := id X
  have hl : lv_has ls 12 [(0, .long p1), (2, .long p2), (4, .long p3), (6, .long p4)] := hl
  unfold F_X0_riseByTangents at hq
  refine lv_lload_n hx hb dX0_riseByTangents_0 rfl (lv_at hl 1 rfl) ?_
  refine lv_lload_n hx hb dX0_riseByTangents_1 rfl (lv_at hl 1 rfl) ?_
  refine lv_lmul hx hb dX0_riseByTangents_2 ?_
  refine lv_topl (fun x1 ex1 => ?_)
  have hq := q_let hq ex1
  refine lv_lstore (lv' := [(8, .long x1), (0, .long p1), (2, .long p2), (4, .long p3), (6, .long p4)]) hx hb dX0_riseByTangents_3 hl (by decide) rfl (fun ls hl => ?_)
  refine lv_lload hx hb dX0_riseByTangents_5 (lv_at hl 0 rfl) ?_
  refine lv_lload_n hx hb dX0_riseByTangents_7 rfl (lv_at hl 2 rfl) ?_
  refine lv_lmul hx hb dX0_riseByTangents_8 ?_
  refine lv_topl (fun x2 ex2 => ?_)
  have hq := q_let hq ex2
  refine lv_lstore (lv' := [(10, .long x2), (8, .long x1), (0, .long p1), (2, .long p2), (4, .long p3), (6, .long p4)]) hx hb dX0_riseByTangents_9 hl (by decide) rfl (fun ls hl => ?_)
  refine lv_lload_n hx hb dX0_riseByTangents_11 rfl (lv_at hl 2 rfl) ?_
  refine lv_ldc2 (v := 3000) hx hb hown (hts _ (List.mem_of_getElem? (i := 1) rfl)) dX0_riseByTangents_12 ?_
  refine lv_lload hx hb dX0_riseByTangents_15 (lv_at hl 1 rfl) ?_
  refine lv_lmul hx hb dX0_riseByTangents_17 ?_
  refine lv_ldc2 (v := 2) hx hb hown (hts _ (List.mem_of_getElem? (i := 2) rfl)) dX0_riseByTangents_18 ?_
  refine lv_lload hx hb dX0_riseByTangents_21 (lv_at hl 0 rfl) ?_
  refine lv_lmul hx hb dX0_riseByTangents_23 ?_
  refine lv_lsub hx hb dX0_riseByTangents_24 ?_
  refine lv_lmul hx hb dX0_riseByTangents_25 ?_
  refine lv_lload hx hb dX0_riseByTangents_26 (lv_at hl 4 rfl) ?_
  refine lv_lload hx hb dX0_riseByTangents_28 (lv_at hl 0 rfl) ?_
  refine lv_ldc2 (v := 2000) hx hb hown (hts _ (List.mem_of_getElem? (i := 3) rfl)) dX0_riseByTangents_30 ?_
  refine lv_lload hx hb dX0_riseByTangents_33 (lv_at hl 1 rfl) ?_
  refine lv_lmul hx hb dX0_riseByTangents_35 ?_
  refine lv_lsub hx hb dX0_riseByTangents_36 ?_
  refine lv_ldc2 (v := 1000000) hx hb hown (hts _ (List.mem_of_getElem? (i := 4) rfl)) dX0_riseByTangents_37 ?_
  refine lv_lload_n hx hb dX0_riseByTangents_40 rfl (lv_at hl 3 rfl) ?_
  refine lv_lmul hx hb dX0_riseByTangents_41 ?_
  refine lv_ladd hx hb dX0_riseByTangents_42 ?_
  refine lv_lmul hx hb dX0_riseByTangents_43 ?_
  refine lv_ladd hx hb dX0_riseByTangents_44 ?_
  refine lv_lload hx hb dX0_riseByTangents_45 (lv_at hl 5 rfl) ?_
  refine lv_lload hx hb dX0_riseByTangents_47 (lv_at hl 0 rfl) ?_
  refine lv_ldc2 (v := 1000) hx hb hown (hts _ (List.mem_of_getElem? (i := 5) rfl)) dX0_riseByTangents_49 ?_
  refine lv_lload hx hb dX0_riseByTangents_52 (lv_at hl 1 rfl) ?_
  refine lv_lmul hx hb dX0_riseByTangents_54 ?_
  refine lv_lsub hx hb dX0_riseByTangents_55 ?_
  refine lv_lmul hx hb dX0_riseByTangents_56 ?_
  refine lv_ladd hx hb dX0_riseByTangents_57 ?_
  refine lv_ldc2 (v := 1000000000) hx hb hown (hts _ (List.mem_of_getElem? (i := 6) rfl)) dX0_riseByTangents_58 ?_
  refine lv_ldiv hx hb dX0_riseByTangents_61 (by decide) ?_
  obtain rfl := q_rt hq
  exact ro_lret hx hb hr hk dX0_riseByTangents_62
theorem hd_X0_riseByTangents : ynm yX0_riseByTangents 4 := by unfold ynm; decide +kernel
theorem hd_X0_tangentOf : ynm yX0_tangentOf 1 := by unfold ynm; decide +kernel
theorem in_X0_valueBehind_X0 : ∀ w ∈ wsX00, w ∈ wsX0_valueBehind := fun _ h => List.mem_cons_of_mem _ (List.mem_append_right _ h)
def F_X0_valueBehind (cn : Int32) (cf : Nat → Int32) (p1 : Int32) (p2 : Int32) : Option (Int32) := vlet (if p1 < 0 then (0 : Int32) else p1) fun x1 => (F_X0_cell cn cf x1 1).bind fun r2 => (F_X0_cell cn cf (p1 + 1) 0).bind fun r4 => (F_X0_cell cn cf p1 0).bind fun r6 => vlet ((r4 - r6).toInt64) fun x8 => if p1 < 0 then (some (r2)) else (if (cn - 1) ≤ p1 then (some (r2)) else (if (0 : Int32) < (lg_cmp x8 0) then ((F_X0_cell cn cf p1 0).bind fun r12 => vgd (¬ x8 = 0) <| vlet ((((1000 : Int32) * (p2 - r12)).toInt64) / x8) fun x15 => (F_X0_cell cn cf (p1 + 1) 1).bind fun r16 => vlet ((r16 - r2).toInt64) fun x18 => (F_X0_cell cn cf p1 2).bind fun r19 => if r19 = 1 then (some (r2 + (((x18 * x15) / 1000).toInt32))) else (if r19 = 2 then (some (r2 + ((((x18 * x15) * x15) / 1000000).toInt32))) else (if r19 = 3 then (some (r2 + (((x18 * ((1000000 : Int64) - (((1000 : Int64) - x15) * ((1000 : Int64) - x15)))) / 1000000).toInt32))) else (if r19 = 4 then (some (r2 + (((((x18 * x15) * x15) * ((3000 : Int64) - ((2 : Int64) * x15))) / 1000000000).toInt32))) else (if r19 = 5 then ((F_X0_tangentOf cn cf p1).bind fun r26 => vlet ((x8 * (r26.toInt64)) / 1000) fun x28 => (F_X0_tangentOf cn cf (p1 + 1)).bind fun r29 => vlet ((x8 * (r29.toInt64)) / 1000) fun x31 => (F_X0_riseByTangents x18 x15 x28 x31).bind fun r32 => some (r2 + (r32.toInt32))) else (some (r2))))))) else (some (r2))))
set_option maxHeartbeats 4000000 in
set_option maxRecDepth 100000 in
theorem k_X0_valueBehind (l : Launch) (G : va_G) (g : Nat → ClassId) (h1 a1 : Nat) (cn : Int32) (cf : Nat → Int32) (p1 : Int32) (p2 : Int32) (res : Int32) (hq : F_X0_valueBehind cn cf p1 p2 = some res) : roC l yX0_valueBehind wsX0_valueBehind (rmF 2 47) G g [.ref h1, .int p1, .int p2] [(h1, .inr (0, [.int cn, .ref a1])), (a1, .inl (g 0, 96, .inl cf))] (some (.int res)) := by
  refine roC.of (cc := cX0_valueBehind) (maxL := 14) (ret := (some .int)) (by decide) rfl (Nat.le_of_ble_eq_true rfl) ?_
  intro p e s m below meth c ls X K hP hl
  obtain ⟨hx, hb, hml, hr, hown, hts, hk⟩ := id X
  have hl : lv_has ls 14 [(0, .ref h1), (1, .int p1), (2, .int p2)] := hl
  unfold F_X0_valueBehind at hq
  refine lv_aload_n hx hb dX0_valueBehind_0 rfl (lv_at hl 0 rfl) ?_
  refine lv_iload_n hx hb dX0_valueBehind_1 rfl (lv_at hl 1 rfl) ?_
  refine lv_iconst (v := 0) hx hb dX0_valueBehind_2 (by decide) ?_
  refine va_mmax hx hb (hml.trans hl.1.symm) hown (hts _ (List.mem_of_getElem? (i := 1) rfl)) (hts _ (List.mem_of_getElem? (i := 2) rfl)) (hts _ (List.mem_of_getElem? (i := 3) rfl)) (hts _ (List.mem_of_getElem? (i := 4) rfl)) (Nat.le_of_ble_eq_true rfl) (Nat.le_of_ble_eq_true rfl) (Nat.zero_le _) (Nat.zero_le _) dX0_valueBehind_3 ?_
  refine lv_topi (fun x1 ex1 => ?_)
  have hq := q_let hq ex1
  refine lv_iconst (v := 1) hx hb dX0_valueBehind_6 (by decide) ?_
  obtain ⟨r2, hh3, hq⟩ := q_bd hq
  refine roV (ci := 0) (As := [.int x1, .int 1]) (rest := []) X K (k_X0_cell l G g h1 a1 cn cf x1 1 _ hh3) hd_X0_cell gX0_valueBehind_X0_cell hP hl.1 dX0_valueBehind_7 rfl rfl ⟨Nat.le_of_ble_eq_true rfl, Nat.le_of_ble_eq_true rfl⟩ rfl rfl rfl (Nat.le_of_ble_eq_true rfl) ⟨Nat.zero_le _, Nat.zero_le _⟩ ?_
  refine lv_istore_n (lv' := [(3, .int r2), (0, .ref h1), (1, .int p1), (2, .int p2)]) hx hb dX0_valueBehind_10 rfl hl (by decide) rfl (fun ls hl => ?_)
  refine lv_aload_n hx hb dX0_valueBehind_11 rfl (lv_at hl 1 rfl) ?_
  refine lv_iload_n hx hb dX0_valueBehind_12 rfl (lv_at hl 2 rfl) ?_
  refine lv_iconst (v := 1) hx hb dX0_valueBehind_13 (by decide) ?_
  refine lv_iadd hx hb dX0_valueBehind_14 ?_
  refine lv_iconst (v := 0) hx hb dX0_valueBehind_15 (by decide) ?_
  obtain ⟨r4, hh5, hq⟩ := q_bd hq
  refine roV (ci := 0) (As := [.int (p1 + 1), .int 0]) (rest := []) X K (k_X0_cell l G g h1 a1 cn cf (p1 + 1) 0 _ hh5) hd_X0_cell gX0_valueBehind_X0_cell hP hl.1 dX0_valueBehind_16 rfl rfl ⟨Nat.le_of_ble_eq_true rfl, Nat.le_of_ble_eq_true rfl⟩ rfl rfl rfl (Nat.le_of_ble_eq_true rfl) ⟨Nat.zero_le _, Nat.zero_le _⟩ ?_
  refine lv_aload_n hx hb dX0_valueBehind_19 rfl (lv_at hl 1 rfl) ?_
  refine lv_iload_n hx hb dX0_valueBehind_20 rfl (lv_at hl 2 rfl) ?_
  refine lv_iconst (v := 0) hx hb dX0_valueBehind_21 (by decide) ?_
  obtain ⟨r6, hh7, hq⟩ := q_bd hq
  refine roV (ci := 0) (As := [.int p1, .int 0]) (rest := [.int r4]) X K (k_X0_cell l G g h1 a1 cn cf p1 0 _ hh7) hd_X0_cell gX0_valueBehind_X0_cell hP hl.1 dX0_valueBehind_22 rfl rfl ⟨Nat.le_of_ble_eq_true rfl, Nat.le_of_ble_eq_true rfl⟩ rfl rfl rfl (Nat.le_of_ble_eq_true rfl) ⟨Nat.zero_le _, Nat.zero_le _⟩ ?_
  refine lv_isub hx hb dX0_valueBehind_25 ?_
  refine lv_i2l (v := (r4 - r6).toInt64) hx hb dX0_valueBehind_26 rfl ?_
  refine lv_topl (fun x8 ex8 => ?_)
  have hq := q_let hq ex8
  refine lv_lstore (lv' := [(4, .long x8), (3, .int r2), (0, .ref h1), (1, .int p1), (2, .int p2)]) hx hb dX0_valueBehind_27 hl (by decide) rfl (fun ls hl => ?_)
  refine lv_iload_n hx hb dX0_valueBehind_29 rfl (lv_at hl 3 rfl) ?_
  refine lv_if_lt (tgt := 50) hx hb dX0_valueBehind_30 (by decide) (fun c9 => ?_) (fun c9 => ?_)
  · have hq := q_if_t hq c9
    refine lv_iload_n hx hb dX0_valueBehind_50 rfl (lv_at hl 1 rfl) ?_
    obtain rfl := q_rt hq
    exact ro_iret hx hb hr hk dX0_valueBehind_51
  · have hq := q_if_f hq c9
    refine lv_iload_n hx hb dX0_valueBehind_33 rfl (lv_at hl 3 rfl) ?_
    refine lv_aload_n hx hb dX0_valueBehind_34 rfl (lv_at hl 2 rfl) ?_
    refine va_get (D := G) (ci := 0) (v := .int cn) (C := RX0) (T := TX0) (N := 2) hx hb hts in_X0_valueBehind_X0 hown K.1 hP 0 rfl rfl 0 (by decide) (hts _ (List.mem_of_getElem? (i := 5) rfl)) (fun _ h9 => h9) rfl dX0_valueBehind_35 ?_
    refine lv_iconst (v := 1) hx hb dX0_valueBehind_38 (by decide) ?_
    refine lv_isub hx hb dX0_valueBehind_39 ?_
    refine lv_icmp_ge (tgt := 50) hx hb dX0_valueBehind_40 (by decide) (fun c10 => ?_) (fun c10 => ?_)
    · have hq := q_if_t hq c10
      refine lv_iload_n hx hb dX0_valueBehind_50 rfl (lv_at hl 1 rfl) ?_
      obtain rfl := q_rt hq
      exact ro_iret hx hb hr hk dX0_valueBehind_51
    · have hq := q_if_f hq c10
      refine lv_lload hx hb dX0_valueBehind_43 (lv_at hl 0 rfl) ?_
      refine lv_lconst (v := 0) hx hb dX0_valueBehind_45 (by decide) ?_
      refine W.lcmp hx hb dX0_valueBehind_46 ?_
      refine lv_if_gt (tgt := 52) hx hb dX0_valueBehind_47 (by decide) (fun c11 => ?_) (fun c11 => ?_)
      · have hq := q_if_t hq c11
        refine lv_sipush (v := 1000) hx hb dX0_valueBehind_52 (by decide) ?_
        refine lv_iload_n hx hb dX0_valueBehind_55 rfl (lv_at hl 4 rfl) ?_
        refine lv_aload_n hx hb dX0_valueBehind_56 rfl (lv_at hl 2 rfl) ?_
        refine lv_iload_n hx hb dX0_valueBehind_57 rfl (lv_at hl 3 rfl) ?_
        refine lv_iconst (v := 0) hx hb dX0_valueBehind_58 (by decide) ?_
        obtain ⟨r12, hh13, hq⟩ := q_bd hq
        refine roV (ci := 0) (As := [.int p1, .int 0]) (rest := [.int p2, .int 1000]) X K (k_X0_cell l G g h1 a1 cn cf p1 0 _ hh13) hd_X0_cell gX0_valueBehind_X0_cell hP hl.1 dX0_valueBehind_59 rfl rfl ⟨Nat.le_of_ble_eq_true rfl, Nat.le_of_ble_eq_true rfl⟩ rfl rfl rfl (Nat.le_of_ble_eq_true rfl) ⟨Nat.zero_le _, Nat.zero_le _⟩ ?_
        refine lv_isub hx hb dX0_valueBehind_62 ?_
        refine lv_imul hx hb dX0_valueBehind_63 ?_
        refine lv_i2l (v := ((1000 : Int32) * (p2 - r12)).toInt64) hx hb dX0_valueBehind_64 rfl ?_
        refine lv_lload hx hb dX0_valueBehind_65 (lv_at hl 0 rfl) ?_
        obtain ⟨hh14, hq⟩ := q_gd hq
        refine lv_ldiv hx hb dX0_valueBehind_67 hh14 ?_
        refine lv_topl (fun x15 ex15 => ?_)
        have hq := q_let hq ex15
        refine lv_lstore (lv' := [(6, .long x15), (4, .long x8), (3, .int r2), (0, .ref h1), (1, .int p1), (2, .int p2)]) hx hb dX0_valueBehind_68 hl (by decide) rfl (fun ls hl => ?_)
        refine lv_aload_n hx hb dX0_valueBehind_70 rfl (lv_at hl 3 rfl) ?_
        refine lv_iload_n hx hb dX0_valueBehind_71 rfl (lv_at hl 4 rfl) ?_
        refine lv_iconst (v := 1) hx hb dX0_valueBehind_72 (by decide) ?_
        refine lv_iadd hx hb dX0_valueBehind_73 ?_
        refine lv_iconst (v := 1) hx hb dX0_valueBehind_74 (by decide) ?_
        obtain ⟨r16, hh17, hq⟩ := q_bd hq
        refine roV (ci := 0) (As := [.int (p1 + 1), .int 1]) (rest := []) X K (k_X0_cell l G g h1 a1 cn cf (p1 + 1) 1 _ hh17) hd_X0_cell gX0_valueBehind_X0_cell hP hl.1 dX0_valueBehind_75 rfl rfl ⟨Nat.le_of_ble_eq_true rfl, Nat.le_of_ble_eq_true rfl⟩ rfl rfl rfl (Nat.le_of_ble_eq_true rfl) ⟨Nat.zero_le _, Nat.zero_le _⟩ ?_
        refine lv_iload_n hx hb dX0_valueBehind_78 rfl (lv_at hl 2 rfl) ?_
        refine lv_isub hx hb dX0_valueBehind_79 ?_
        refine lv_i2l (v := (r16 - r2).toInt64) hx hb dX0_valueBehind_80 rfl ?_
        refine lv_topl (fun x18 ex18 => ?_)
        have hq := q_let hq ex18
        refine lv_lstore (lv' := [(8, .long x18), (6, .long x15), (4, .long x8), (3, .int r2), (0, .ref h1), (1, .int p1), (2, .int p2)]) hx hb dX0_valueBehind_81 hl (by decide) rfl (fun ls hl => ?_)
        refine lv_aload_n hx hb dX0_valueBehind_83 rfl (lv_at hl 4 rfl) ?_
        refine lv_iload_n hx hb dX0_valueBehind_84 rfl (lv_at hl 5 rfl) ?_
        refine lv_iconst (v := 2) hx hb dX0_valueBehind_85 (by decide) ?_
        obtain ⟨r19, hh20, hq⟩ := q_bd hq
        refine roV (ci := 0) (As := [.int p1, .int 2]) (rest := []) X K (k_X0_cell l G g h1 a1 cn cf p1 2 _ hh20) hd_X0_cell gX0_valueBehind_X0_cell hP hl.1 dX0_valueBehind_86 rfl rfl ⟨Nat.le_of_ble_eq_true rfl, Nat.le_of_ble_eq_true rfl⟩ rfl rfl rfl (Nat.le_of_ble_eq_true rfl) ⟨Nat.zero_le _, Nat.zero_le _⟩ ?_
        refine sw_c (x := r19) (k := 1) (fun c21 => ?_) (fun c21 => ?_)
        · have hq := q_if_t hq c21
          refine lv_tableIn (tgt := 124) hx hb dX0_valueBehind_89 (by rw [c21]; decide) (by rw [c21]; decide) (by rw [c21]; rfl) (by decide) ?_
          refine lv_iload_n hx hb dX0_valueBehind_124 rfl (lv_at hl 3 rfl) ?_
          refine lv_lload hx hb dX0_valueBehind_125 (lv_at hl 0 rfl) ?_
          refine lv_lload hx hb dX0_valueBehind_127 (lv_at hl 1 rfl) ?_
          refine lv_lmul hx hb dX0_valueBehind_129 ?_
          refine lv_ldc2 (v := 1000) hx hb hown (hts _ (List.mem_of_getElem? (i := 6) rfl)) dX0_valueBehind_130 ?_
          refine lv_ldiv hx hb dX0_valueBehind_133 (by decide) ?_
          refine lv_l2i (v := ((x18 * x15) / 1000).toInt32) hx hb dX0_valueBehind_134 rfl ?_
          refine lv_iadd hx hb dX0_valueBehind_135 ?_
          obtain rfl := q_rt hq
          exact ro_iret hx hb hr hk dX0_valueBehind_136
        have hq := q_if_f hq c21
        refine sw_c (x := r19) (k := 2) (fun c22 => ?_) (fun c22 => ?_)
        · have hq := q_if_t hq c22
          refine lv_tableIn (tgt := 137) hx hb dX0_valueBehind_89 (by rw [c22]; decide) (by rw [c22]; decide) (by rw [c22]; rfl) (by decide) ?_
          refine lv_iload_n hx hb dX0_valueBehind_137 rfl (lv_at hl 3 rfl) ?_
          refine lv_lload hx hb dX0_valueBehind_138 (lv_at hl 0 rfl) ?_
          refine lv_lload hx hb dX0_valueBehind_140 (lv_at hl 1 rfl) ?_
          refine lv_lmul hx hb dX0_valueBehind_142 ?_
          refine lv_lload hx hb dX0_valueBehind_143 (lv_at hl 1 rfl) ?_
          refine lv_lmul hx hb dX0_valueBehind_145 ?_
          refine lv_ldc2 (v := 1000000) hx hb hown (hts _ (List.mem_of_getElem? (i := 7) rfl)) dX0_valueBehind_146 ?_
          refine lv_ldiv hx hb dX0_valueBehind_149 (by decide) ?_
          refine lv_l2i (v := (((x18 * x15) * x15) / 1000000).toInt32) hx hb dX0_valueBehind_150 rfl ?_
          refine lv_iadd hx hb dX0_valueBehind_151 ?_
          obtain rfl := q_rt hq
          exact ro_iret hx hb hr hk dX0_valueBehind_152
        have hq := q_if_f hq c22
        refine sw_c (x := r19) (k := 3) (fun c23 => ?_) (fun c23 => ?_)
        · have hq := q_if_t hq c23
          refine lv_tableIn (tgt := 153) hx hb dX0_valueBehind_89 (by rw [c23]; decide) (by rw [c23]; decide) (by rw [c23]; rfl) (by decide) ?_
          refine lv_iload_n hx hb dX0_valueBehind_153 rfl (lv_at hl 3 rfl) ?_
          refine lv_lload hx hb dX0_valueBehind_154 (lv_at hl 0 rfl) ?_
          refine lv_ldc2 (v := 1000000) hx hb hown (hts _ (List.mem_of_getElem? (i := 7) rfl)) dX0_valueBehind_156 ?_
          refine lv_ldc2 (v := 1000) hx hb hown (hts _ (List.mem_of_getElem? (i := 6) rfl)) dX0_valueBehind_159 ?_
          refine lv_lload hx hb dX0_valueBehind_162 (lv_at hl 1 rfl) ?_
          refine lv_lsub hx hb dX0_valueBehind_164 ?_
          refine lv_ldc2 (v := 1000) hx hb hown (hts _ (List.mem_of_getElem? (i := 6) rfl)) dX0_valueBehind_165 ?_
          refine lv_lload hx hb dX0_valueBehind_168 (lv_at hl 1 rfl) ?_
          refine lv_lsub hx hb dX0_valueBehind_170 ?_
          refine lv_lmul hx hb dX0_valueBehind_171 ?_
          refine lv_lsub hx hb dX0_valueBehind_172 ?_
          refine lv_lmul hx hb dX0_valueBehind_173 ?_
          refine lv_ldc2 (v := 1000000) hx hb hown (hts _ (List.mem_of_getElem? (i := 7) rfl)) dX0_valueBehind_174 ?_
          refine lv_ldiv hx hb dX0_valueBehind_177 (by decide) ?_
          refine lv_l2i (v := ((x18 * ((1000000 : Int64) - (((1000 : Int64) - x15) * ((1000 : Int64) - x15)))) / 1000000).toInt32) hx hb dX0_valueBehind_178 rfl ?_
          refine lv_iadd hx hb dX0_valueBehind_179 ?_
          obtain rfl := q_rt hq
          exact ro_iret hx hb hr hk dX0_valueBehind_180
        have hq := q_if_f hq c23
        refine sw_c (x := r19) (k := 4) (fun c24 => ?_) (fun c24 => ?_)
        · have hq := q_if_t hq c24
          refine lv_tableIn (tgt := 181) hx hb dX0_valueBehind_89 (by rw [c24]; decide) (by rw [c24]; decide) (by rw [c24]; rfl) (by decide) ?_
          refine lv_iload_n hx hb dX0_valueBehind_181 rfl (lv_at hl 3 rfl) ?_
          refine lv_lload hx hb dX0_valueBehind_182 (lv_at hl 0 rfl) ?_
          refine lv_lload hx hb dX0_valueBehind_184 (lv_at hl 1 rfl) ?_
          refine lv_lmul hx hb dX0_valueBehind_186 ?_
          refine lv_lload hx hb dX0_valueBehind_187 (lv_at hl 1 rfl) ?_
          refine lv_lmul hx hb dX0_valueBehind_189 ?_
          refine lv_ldc2 (v := 3000) hx hb hown (hts _ (List.mem_of_getElem? (i := 8) rfl)) dX0_valueBehind_190 ?_
          refine lv_ldc2 (v := 2) hx hb hown (hts _ (List.mem_of_getElem? (i := 9) rfl)) dX0_valueBehind_193 ?_
          refine lv_lload hx hb dX0_valueBehind_196 (lv_at hl 1 rfl) ?_
          refine lv_lmul hx hb dX0_valueBehind_198 ?_
          refine lv_lsub hx hb dX0_valueBehind_199 ?_
          refine lv_lmul hx hb dX0_valueBehind_200 ?_
          refine lv_ldc2 (v := 1000000000) hx hb hown (hts _ (List.mem_of_getElem? (i := 10) rfl)) dX0_valueBehind_201 ?_
          refine lv_ldiv hx hb dX0_valueBehind_204 (by decide) ?_
          refine lv_l2i (v := ((((x18 * x15) * x15) * ((3000 : Int64) - ((2 : Int64) * x15))) / 1000000000).toInt32) hx hb dX0_valueBehind_205 rfl ?_
          refine lv_iadd hx hb dX0_valueBehind_206 ?_
          obtain rfl := q_rt hq
          exact ro_iret hx hb hr hk dX0_valueBehind_207
        have hq := q_if_f hq c24
        refine sw_c (x := r19) (k := 5) (fun c25 => ?_) (fun c25 => ?_)
        · have hq := q_if_t hq c25
          refine lv_tableIn (tgt := 208) hx hb dX0_valueBehind_89 (by rw [c25]; decide) (by rw [c25]; decide) (by rw [c25]; rfl) (by decide) ?_
          refine lv_lload hx hb dX0_valueBehind_208 (lv_at hl 2 rfl) ?_
          refine lv_aload_n hx hb dX0_valueBehind_210 rfl (lv_at hl 4 rfl) ?_
          refine lv_iload_n hx hb dX0_valueBehind_211 rfl (lv_at hl 5 rfl) ?_
          obtain ⟨r26, hh27, hq⟩ := q_bd hq
          refine roV (ci := 0) (As := [.int p1]) (rest := [.long x8]) X K (k_X0_tangentOf l G g h1 a1 cn cf p1 _ hh27) hd_X0_tangentOf gX0_valueBehind_X0_tangentOf hP hl.1 dX0_valueBehind_212 rfl rfl ⟨Nat.le_of_ble_eq_true rfl, Nat.le_of_ble_eq_true rfl⟩ rfl rfl rfl (Nat.le_of_ble_eq_true rfl) ⟨Nat.zero_le _, Nat.zero_le _⟩ ?_
          refine lv_i2l (v := r26.toInt64) hx hb dX0_valueBehind_215 rfl ?_
          refine lv_lmul hx hb dX0_valueBehind_216 ?_
          refine lv_ldc2 (v := 1000) hx hb hown (hts _ (List.mem_of_getElem? (i := 6) rfl)) dX0_valueBehind_217 ?_
          refine lv_ldiv hx hb dX0_valueBehind_220 (by decide) ?_
          refine lv_topl (fun x28 ex28 => ?_)
          have hq := q_let hq ex28
          refine lv_lstore (lv' := [(10, .long x28), (8, .long x18), (6, .long x15), (4, .long x8), (3, .int r2), (0, .ref h1), (1, .int p1), (2, .int p2)]) hx hb dX0_valueBehind_221 hl (by decide) rfl (fun ls hl => ?_)
          refine lv_lload hx hb dX0_valueBehind_223 (lv_at hl 3 rfl) ?_
          refine lv_aload_n hx hb dX0_valueBehind_225 rfl (lv_at hl 5 rfl) ?_
          refine lv_iload_n hx hb dX0_valueBehind_226 rfl (lv_at hl 6 rfl) ?_
          refine lv_iconst (v := 1) hx hb dX0_valueBehind_227 (by decide) ?_
          refine lv_iadd hx hb dX0_valueBehind_228 ?_
          obtain ⟨r29, hh30, hq⟩ := q_bd hq
          refine roV (ci := 0) (As := [.int (p1 + 1)]) (rest := [.long x8]) X K (k_X0_tangentOf l G g h1 a1 cn cf (p1 + 1) _ hh30) hd_X0_tangentOf gX0_valueBehind_X0_tangentOf hP hl.1 dX0_valueBehind_229 rfl rfl ⟨Nat.le_of_ble_eq_true rfl, Nat.le_of_ble_eq_true rfl⟩ rfl rfl rfl (Nat.le_of_ble_eq_true rfl) ⟨Nat.zero_le _, Nat.zero_le _⟩ ?_
          refine lv_i2l (v := r29.toInt64) hx hb dX0_valueBehind_232 rfl ?_
          refine lv_lmul hx hb dX0_valueBehind_233 ?_
          refine lv_ldc2 (v := 1000) hx hb hown (hts _ (List.mem_of_getElem? (i := 6) rfl)) dX0_valueBehind_234 ?_
          refine lv_ldiv hx hb dX0_valueBehind_237 (by decide) ?_
          refine lv_topl (fun x31 ex31 => ?_)
          have hq := q_let hq ex31
          refine lv_lstore (lv' := [(12, .long x31), (10, .long x28), (8, .long x18), (6, .long x15), (4, .long x8), (3, .int r2), (0, .ref h1), (1, .int p1), (2, .int p2)]) hx hb dX0_valueBehind_238 hl (by decide) rfl (fun ls hl => ?_)
          refine lv_iload_n hx hb dX0_valueBehind_240 rfl (lv_at hl 5 rfl) ?_
          refine lv_lload hx hb dX0_valueBehind_241 (lv_at hl 2 rfl) ?_
          refine lv_lload hx hb dX0_valueBehind_243 (lv_at hl 3 rfl) ?_
          refine lv_lload hx hb dX0_valueBehind_245 (lv_at hl 1 rfl) ?_
          refine lv_lload hx hb dX0_valueBehind_247 (lv_at hl 0 rfl) ?_
          obtain ⟨r32, hh33, hq⟩ := q_bd hq
          refine roS (As := [.long x18, .long x15, .long x28, .long x31]) (rest := [.int r2]) X K (k_X0_riseByTangents l G g x18 x15 x28 x31 _ hh33) hd_X0_riseByTangents gX0_valueBehind_X0_riseByTangents (hP.sub [] rfl) hl.1 dX0_valueBehind_249 rfl rfl ⟨Nat.le_of_ble_eq_true rfl, Nat.le_of_ble_eq_true rfl⟩ rfl (Nat.le_of_ble_eq_true rfl) ⟨Nat.zero_le _, Nat.zero_le _⟩ ?_
          refine lv_l2i (v := r32.toInt32) hx hb dX0_valueBehind_252 rfl ?_
          refine lv_iadd hx hb dX0_valueBehind_253 ?_
          obtain rfl := q_rt hq
          exact ro_iret hx hb hr hk dX0_valueBehind_254
        have hq := q_if_f hq c25
        refine lv_tableOut (tgt := 255) hx hb dX0_valueBehind_89 (by have zc21 := lv_neT (a := 1) c21 rfl; have zc22 := lv_neT (a := 2) c22 rfl; have zc23 := lv_neT (a := 3) c23 rfl; have zc24 := lv_neT (a := 4) c24 rfl; have zc25 := lv_neT (a := 5) c25 rfl; omega) (by decide) ?_
        refine lv_iload_n hx hb dX0_valueBehind_255 rfl (lv_at hl 3 rfl) ?_
        obtain rfl := q_rt hq
        exact ro_iret hx hb hr hk dX0_valueBehind_256
      · have hq := q_if_f hq c11
        refine lv_iload_n hx hb dX0_valueBehind_50 rfl (lv_at hl 1 rfl) ?_
        obtain rfl := q_rt hq
        exact ro_iret hx hb hr hk dX0_valueBehind_51
theorem hd_X0_valueBehind : ynm yX0_valueBehind 2 := by unfold ynm; decide +kernel
def F_X0_valueAt (cn : Int32) (cf : Nat → Int32) (p1 : Int32) : Option (Int32) := (F_X0_countUpTo cn cf p1).bind fun r1 => (F_X0_valueBehind cn cf (r1 - 1) p1).bind fun r3 => some (r3)
set_option maxHeartbeats 4000000 in
set_option maxRecDepth 100000 in
theorem k_X0_valueAt (l : Launch) (G : va_G) (g : Nat → ClassId) (h1 a1 : Nat) (cn : Int32) (cf : Nat → Int32) (p1 : Int32) (res : Int32) (hq : F_X0_valueAt cn cf p1 = some res) : roC l yX0_valueAt wsX0_valueAt (rmF 3 80) G g [.ref h1, .int p1] [(h1, .inr (0, [.int cn, .ref a1])), (a1, .inl (g 0, 96, .inl cf))] (some (.int res)) := by
  refine roC.of (cc := cX0_valueAt) (maxL := 2) (ret := (some .int)) (by decide) rfl (Nat.le_of_ble_eq_true rfl) ?_
  intro p e s m below meth c ls X K hP hl
  obtain ⟨hx, hb, hml, hr, hown, hts, hk⟩ := id X
  have hl : lv_has ls 2 [(0, .ref h1), (1, .int p1)] := hl
  unfold F_X0_valueAt at hq
  refine lv_aload_n hx hb dX0_valueAt_0 rfl (lv_at hl 0 rfl) ?_
  refine lv_aload_n hx hb dX0_valueAt_1 rfl (lv_at hl 0 rfl) ?_
  refine lv_iload_n hx hb dX0_valueAt_2 rfl (lv_at hl 1 rfl) ?_
  obtain ⟨r1, hh2, hq⟩ := q_bd hq
  refine roV (ci := 0) (As := [.int p1]) (rest := [.ref h1]) X K (k_X0_countUpTo l G g h1 a1 cn cf p1 _ hh2) hd_X0_countUpTo gX0_valueAt_X0_countUpTo hP hl.1 dX0_valueAt_3 rfl rfl ⟨Nat.le_of_ble_eq_true rfl, Nat.le_of_ble_eq_true rfl⟩ rfl rfl rfl (Nat.le_of_ble_eq_true rfl) ⟨Nat.zero_le _, Nat.zero_le _⟩ ?_
  refine lv_iconst (v := 1) hx hb dX0_valueAt_6 (by decide) ?_
  refine lv_isub hx hb dX0_valueAt_7 ?_
  refine lv_iload_n hx hb dX0_valueAt_8 rfl (lv_at hl 1 rfl) ?_
  obtain ⟨r3, hh4, hq⟩ := q_bd hq
  refine roV (ci := 0) (As := [.int (r1 - 1), .int p1]) (rest := []) X K (k_X0_valueBehind l G g h1 a1 cn cf (r1 - 1) p1 _ hh4) hd_X0_valueBehind gX0_valueAt_X0_valueBehind hP hl.1 dX0_valueAt_9 rfl rfl ⟨Nat.le_of_ble_eq_true rfl, Nat.le_of_ble_eq_true rfl⟩ rfl rfl rfl (Nat.le_of_ble_eq_true rfl) ⟨Nat.zero_le _, Nat.zero_le _⟩ ?_
  obtain rfl := q_rt hq
  exact ro_iret hx hb hr hk dX0_valueAt_12
theorem in_X0_become_X0 : ∀ w ∈ wsX00, w ∈ wsX0_become := fun _ h => List.mem_cons_of_mem _ (List.mem_append_right _ h)
def F_X0_become (cn : Int32) (cf : Nat → Int32) (dn : Int32) (df : Nat → Int32) : Option (Int32 × (Nat → Int32)) := vgd (¬ (0 : Int32) < 0 ∧ ¬ (0 : Int32) < 0 ∧ ¬ (dn * 6) < 0 ∧ (0 : Int32).toNatClampNeg + (dn * 6).toNatClampNeg ≤ 96 ∧ (0 : Int32).toNatClampNeg + (dn * 6).toNatClampNeg ≤ 96) <| vlet (va_cpy df cf (0 : Int32).toNatClampNeg (0 : Int32).toNatClampNeg (dn * 6).toNatClampNeg) fun f2 => some (dn, f2)
set_option maxHeartbeats 4000000 in
set_option maxRecDepth 100000 in
theorem k_X0_become (l : Launch) (G : va_G) (g : Nat → ClassId) (h1 a1 h2 a2 : Nat) (cn : Int32) (cf : Nat → Int32) (dn : Int32) (df : Nat → Int32) (res : Int32 × (Nat → Int32)) (hq : F_X0_become cn cf dn df = some res) : rwC l yX0_become wsX0_become (rmF 1 40) G g [.ref h1, .ref h2] [(h1, .inr (0, [.int cn, .ref a1])), (a1, .inl (g 0, 96, .inl cf)), (h2, .inr (0, [.int dn, .ref a2])), (a2, .inl (g 0, 96, .inl df))] none [(h1, .inr (0, [.int res.1, .ref a1])), (a1, .inl (g 0, 96, .inl res.2)), (h2, .inr (0, [.int dn, .ref a2])), (a2, .inl (g 0, 96, .inl df))] := by
  refine rwC.of (cc := cX0_become) (maxL := 2) (ret := none) (by decide) rfl (Nat.le_of_ble_eq_true rfl) ?_
  intro p e s m below meth c ls A X K hA hP hD hS hl
  obtain ⟨hx, hb, hml, hr, hown, hts, hk⟩ := id X
  have hl : lv_has ls 2 [(0, .ref h1), (1, .ref h2)] := hl
  unfold F_X0_become at hq
  refine lv_aload_n hx hb dX0_become_0 rfl (lv_at hl 0 rfl) ?_
  refine lv_aload_n hx hb dX0_become_1 rfl (lv_at hl 1 rfl) ?_
  refine va_get (D := G) (ci := 0) (v := .int dn) (C := RX0) (T := TX0) (N := 2) hx hb hts in_X0_become_X0 hown K.1 hP 2 rfl rfl 0 (by decide) (hts _ (List.mem_of_getElem? (i := 1) rfl)) (fun _ h9 => h9) rfl dX0_become_2 ?_
  refine va_put (D := G) (ci := 0) (v := .int dn) (ty := .int) (C := RX0) (T := TX0) (N := 2) hx hb hts in_X0_become_X0 tyX0 tyX0_ok nmX0 hown K.1 hP hD hS 0 rfl rfl 0 (by decide) (hts _ (List.mem_of_getElem? (i := 1) rfl)) (fun _ h9 => h9) rfl (by decide +kernel) rfl rfl (Nat.le_of_ble_eq_true rfl) dX0_become_5 (fun H locs hP hD hS => ?_)
  have hP : va_P G vwCl [(h1, .inr (0, [.int dn, .ref a1])), (a1, .inl (g 0, 96, .inl cf)), (h2, .inr (0, [.int dn, .ref a2])), (a2, .inl (g 0, 96, .inl df))] H := hP
  have hD : va_D A [(h1, .inr (0, [.int dn, .ref a1])), (a1, .inl (g 0, 96, .inl cf)), (h2, .inr (0, [.int dn, .ref a2])), (a2, .inl (g 0, 96, .inl df))] := hD
  refine lv_aload_n hx hb dX0_become_8 rfl (lv_at hl 1 rfl) ?_
  refine va_get (D := G) (ci := 0) (v := .ref a2) (C := RX0) (T := TX0) (N := 2) hx hb hts in_X0_become_X0 hown K.1 hP 2 rfl rfl 1 (by decide) (hts _ (List.mem_of_getElem? (i := 2) rfl)) (fun _ h9 => h9) rfl dX0_become_9 ?_
  refine lv_iconst (v := 0) hx hb dX0_become_12 (by decide) ?_
  refine lv_aload_n hx hb dX0_become_13 rfl (lv_at hl 0 rfl) ?_
  refine va_get (D := G) (ci := 0) (v := .ref a1) (C := RX0) (T := TX0) (N := 2) hx hb hts in_X0_become_X0 hown K.1 hP 0 rfl rfl 1 (by decide) (hts _ (List.mem_of_getElem? (i := 2) rfl)) (fun _ h9 => h9) rfl dX0_become_14 ?_
  refine lv_iconst (v := 0) hx hb dX0_become_17 (by decide) ?_
  refine lv_aload_n hx hb dX0_become_18 rfl (lv_at hl 0 rfl) ?_
  refine va_get (D := G) (ci := 0) (v := .int dn) (C := RX0) (T := TX0) (N := 2) hx hb hts in_X0_become_X0 hown K.1 hP 0 rfl rfl 0 (by decide) (hts _ (List.mem_of_getElem? (i := 1) rfl)) (fun _ h9 => h9) rfl dX0_become_19 ?_
  refine lv_bipush (v := 6) hx hb dX0_become_22 (by decide) ?_
  refine lv_imul hx hb dX0_become_24 ?_
  obtain ⟨hh1, hq⟩ := q_gd hq
  refine va_copyi hx hb (hml.trans hl.1.symm) hown (hts _ (List.mem_of_getElem? (i := 3) rfl)) (hts _ (List.mem_of_getElem? (i := 4) rfl)) (hts _ (List.mem_of_getElem? (i := 5) rfl)) (hts _ (List.mem_of_getElem? (i := 6) rfl)) K.1 hP hD hS 3 1 0 0 rfl rfl rfl rfl rfl hh1.1 hh1.2.1 hh1.2.2.1 hh1.2.2.2.1 hh1.2.2.2.2 (fun _ _ => rfl) (Nat.le_of_ble_eq_true rfl) (Nat.le_of_ble_eq_true rfl) dX0_become_25 (fun H locs hP hD hS => ?_)
  obtain ⟨f2, ef2⟩ : ∃ y, y = va_cpy df cf (0 : Int32).toNatClampNeg (0 : Int32).toNatClampNeg (dn * 6).toNatClampNeg := ⟨_, rfl⟩
  have hq := q_let hq ef2
  have hP : va_P G vwCl [(h1, .inr (0, [.int dn, .ref a1])), (a1, .inl (g 0, 96, .inl f2)), (h2, .inr (0, [.int dn, .ref a2])), (a2, .inl (g 0, 96, .inl df))] H := by rw [ef2]; exact hP
  have hD : va_D A [(h1, .inr (0, [.int dn, .ref a1])), (a1, .inl (g 0, 96, .inl f2)), (h2, .inr (0, [.int dn, .ref a2])), (a2, .inl (g 0, 96, .inl df))] := by rw [ef2]; exact hD
  obtain rfl := q_rt hq
  exact rw_vret hx hb hr hk hP hD hS dX0_become_28
theorem in_X0_becomeS_X0 : ∀ w ∈ wsX00, w ∈ wsX0_become := fun _ h => List.mem_cons_of_mem _ (List.mem_append_right _ h)
def F_X0_becomeS (cn : Int32) (cf : Nat → Int32) : Option (Int32 × (Nat → Int32)) := vgd (¬ (0 : Int32) < 0 ∧ ¬ (0 : Int32) < 0 ∧ ¬ (cn * 6) < 0 ∧ (0 : Int32).toNatClampNeg + (cn * 6).toNatClampNeg ≤ 96 ∧ (0 : Int32).toNatClampNeg + (cn * 6).toNatClampNeg ≤ 96) <| vlet (va_cpy cf cf (0 : Int32).toNatClampNeg (0 : Int32).toNatClampNeg (cn * 6).toNatClampNeg) fun f2 => some (cn, f2)
set_option maxHeartbeats 4000000 in
set_option maxRecDepth 100000 in
theorem k_X0_becomeS (l : Launch) (G : va_G) (g : Nat → ClassId) (h1 a1 : Nat) (cn : Int32) (cf : Nat → Int32) (res : Int32 × (Nat → Int32)) (hq : F_X0_becomeS cn cf = some res) : rwC l yX0_become wsX0_become (rmF 1 40) G g [.ref h1, .ref h1] [(h1, .inr (0, [.int cn, .ref a1])), (a1, .inl (g 0, 96, .inl cf))] none [(h1, .inr (0, [.int res.1, .ref a1])), (a1, .inl (g 0, 96, .inl res.2))] := by
  refine rwC.of (cc := cX0_become) (maxL := 2) (ret := none) (by decide) rfl (Nat.le_of_ble_eq_true rfl) ?_
  intro p e s m below meth c ls A X K hA hP hD hS hl
  obtain ⟨hx, hb, hml, hr, hown, hts, hk⟩ := id X
  have hl : lv_has ls 2 [(0, .ref h1), (1, .ref h1)] := hl
  unfold F_X0_becomeS at hq
  refine lv_aload_n hx hb dX0_become_0 rfl (lv_at hl 0 rfl) ?_
  refine lv_aload_n hx hb dX0_become_1 rfl (lv_at hl 1 rfl) ?_
  refine va_get (D := G) (ci := 0) (v := .int cn) (C := RX0) (T := TX0) (N := 2) hx hb hts in_X0_becomeS_X0 hown K.1 hP 0 rfl rfl 0 (by decide) (hts _ (List.mem_of_getElem? (i := 1) rfl)) (fun _ h9 => h9) rfl dX0_become_2 ?_
  refine va_put (D := G) (ci := 0) (v := .int cn) (ty := .int) (C := RX0) (T := TX0) (N := 2) hx hb hts in_X0_becomeS_X0 tyX0 tyX0_ok nmX0 hown K.1 hP hD hS 0 rfl rfl 0 (by decide) (hts _ (List.mem_of_getElem? (i := 1) rfl)) (fun _ h9 => h9) rfl (by decide +kernel) rfl rfl (Nat.le_of_ble_eq_true rfl) dX0_become_5 (fun H locs hP hD hS => ?_)
  have hP : va_P G vwCl [(h1, .inr (0, [.int cn, .ref a1])), (a1, .inl (g 0, 96, .inl cf))] H := hP
  have hD : va_D A [(h1, .inr (0, [.int cn, .ref a1])), (a1, .inl (g 0, 96, .inl cf))] := hD
  refine lv_aload_n hx hb dX0_become_8 rfl (lv_at hl 1 rfl) ?_
  refine va_get (D := G) (ci := 0) (v := .ref a1) (C := RX0) (T := TX0) (N := 2) hx hb hts in_X0_becomeS_X0 hown K.1 hP 0 rfl rfl 1 (by decide) (hts _ (List.mem_of_getElem? (i := 2) rfl)) (fun _ h9 => h9) rfl dX0_become_9 ?_
  refine lv_iconst (v := 0) hx hb dX0_become_12 (by decide) ?_
  refine lv_aload_n hx hb dX0_become_13 rfl (lv_at hl 0 rfl) ?_
  refine va_get (D := G) (ci := 0) (v := .ref a1) (C := RX0) (T := TX0) (N := 2) hx hb hts in_X0_becomeS_X0 hown K.1 hP 0 rfl rfl 1 (by decide) (hts _ (List.mem_of_getElem? (i := 2) rfl)) (fun _ h9 => h9) rfl dX0_become_14 ?_
  refine lv_iconst (v := 0) hx hb dX0_become_17 (by decide) ?_
  refine lv_aload_n hx hb dX0_become_18 rfl (lv_at hl 0 rfl) ?_
  refine va_get (D := G) (ci := 0) (v := .int cn) (C := RX0) (T := TX0) (N := 2) hx hb hts in_X0_becomeS_X0 hown K.1 hP 0 rfl rfl 0 (by decide) (hts _ (List.mem_of_getElem? (i := 1) rfl)) (fun _ h9 => h9) rfl dX0_become_19 ?_
  refine lv_bipush (v := 6) hx hb dX0_become_22 (by decide) ?_
  refine lv_imul hx hb dX0_become_24 ?_
  obtain ⟨hh1, hq⟩ := q_gd hq
  refine va_copyi hx hb (hml.trans hl.1.symm) hown (hts _ (List.mem_of_getElem? (i := 3) rfl)) (hts _ (List.mem_of_getElem? (i := 4) rfl)) (hts _ (List.mem_of_getElem? (i := 5) rfl)) (hts _ (List.mem_of_getElem? (i := 6) rfl)) K.1 hP hD hS 1 1 0 0 rfl rfl rfl rfl rfl hh1.1 hh1.2.1 hh1.2.2.1 hh1.2.2.2.1 hh1.2.2.2.2 (fun _ _ => rfl) (Nat.le_of_ble_eq_true rfl) (Nat.le_of_ble_eq_true rfl) dX0_become_25 (fun H locs hP hD hS => ?_)
  obtain ⟨f2, ef2⟩ : ∃ y, y = va_cpy cf cf (0 : Int32).toNatClampNeg (0 : Int32).toNatClampNeg (cn * 6).toNatClampNeg := ⟨_, rfl⟩
  have hq := q_let hq ef2
  have hP : va_P G vwCl [(h1, .inr (0, [.int cn, .ref a1])), (a1, .inl (g 0, 96, .inl f2))] H := by rw [ef2]; exact hP
  have hD : va_D A [(h1, .inr (0, [.int cn, .ref a1])), (a1, .inl (g 0, 96, .inl f2))] := by rw [ef2]; exact hD
  obtain rfl := q_rt hq
  exact rw_vret hx hb hr hk hP hD hS dX0_become_28

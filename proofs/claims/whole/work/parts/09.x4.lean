theorem in_X4_thrown_X4 : ∀ w ∈ wsX40, w ∈ wsX4_thrown := fun _ h => List.mem_cons_of_mem _ (List.mem_append_right _ h)
def F_X4_thrown (uw : Int32) : Option (Int32) := some (uw)
set_option maxHeartbeats 4000000 in
set_option maxRecDepth 100000 in
theorem k_X4_thrown (l : Launch) (G : va_G) (g : Nat → ClassId) (jo js jp ja jk jt jb : Nat) (un : Int32) (uy : Int32) (uw : Int32) (uq : Int32) (uz : Int32) (us : Nat → Int32) (up : Nat → Int32) (ua : Nat → Int32) (uk : Nat → Int32) (ut : Nat → Int32) (ub : Nat → Int32) (res : Int32) (hq : F_X4_thrown uw = some res) : roC l yX4_thrown wsX4_thrown (rmF 0 0) G g [.ref jo] [(jo, .inr (4, [.ref js, .ref jp, .ref ja, .ref jk, .int un, .ref jt, .int uy, .int uw, .ref jb, .int uq, .int uz])), (js, .inl (g 0, 388, .inl us)), (jp, .inl (g 0, 1552, .inl up)), (ja, .inl (g 0, 388, .inl ua)), (jk, .inl (g 0, 97, .inl uk)), (jt, .inl (g 0, 150, .inl ut)), (jb, .inl (g 0, 1000, .inl ub))] (some (.int res)) := by
  refine roC.of (cc := cX4_thrown) (maxL := 1) (ret := (some .int)) (by decide) rfl (Nat.le_of_ble_eq_true rfl) ?_
  intro p e s m below meth c ls X K hP hl
  obtain ⟨hx, hb, hml, hr, hown, hts, hk⟩ := id X
  have hl : lv_has ls 1 [(0, .ref jo)] := hl
  unfold F_X4_thrown at hq
  refine lv_aload_n hx hb dX4_thrown_0 rfl (lv_at hl 0 rfl) ?_
  refine va_get (D := G) (ci := 4) (v := .int uw) (C := RX4) (T := TX4) (N := 11) hx hb hts in_X4_thrown_X4 hown K.1 hP 0 rfl rfl 7 (by decide) (hts _ (List.mem_of_getElem? (i := 1) rfl)) (fun _ h9 => h9) rfl dX4_thrown_1 ?_
  obtain rfl := q_rt hq
  exact ro_iret hx hb hr hk dX4_thrown_4
def F_X4_in (p1 : Int32) (p2 : Int32) (p3 : Int32) : Option (Int32) := if p1 < p2 then (some (0)) else (if p3 < p1 then (some (0)) else (some (1)))
set_option maxHeartbeats 4000000 in
set_option maxRecDepth 100000 in
theorem k_X4_in (l : Launch) (G : va_G) (g : Nat → ClassId) (p1 : Int32) (p2 : Int32) (p3 : Int32) (res : Int32) (hq : F_X4_in p1 p2 p3 = some res) : roC l yX4_in wsX4_in (rmF 0 0) G g [.int p1, .int p2, .int p3] [] (some (.int res)) := by
  refine roC.of (cc := cX4_in) (maxL := 3) (ret := (some .boolean)) (by decide) rfl (Nat.le_of_ble_eq_true rfl) ?_
  intro p e s m below meth c ls X K hP hl
  obtain ⟨hx, hb, hml, hr, hown, hts, hk⟩ := id X
  have hl : lv_has ls 3 [(0, .int p1), (1, .int p2), (2, .int p3)] := hl
  unfold F_X4_in at hq
  refine lv_iload_n hx hb dX4_in_0 rfl (lv_at hl 0 rfl) ?_
  refine lv_iload_n hx hb dX4_in_1 rfl (lv_at hl 1 rfl) ?_
  refine lv_icmp_lt (tgt := 14) hx hb dX4_in_2 (by decide) (fun c1 => ?_) (fun c1 => ?_)
  · have hq := q_if_t hq c1
    refine lv_iconst (v := 0) hx hb dX4_in_14 (by decide) ?_
    obtain rfl := q_rt hq
    exact ro_zret hx hb hr nz_0 hk dX4_in_15
  · have hq := q_if_f hq c1
    refine lv_iload_n hx hb dX4_in_5 rfl (lv_at hl 0 rfl) ?_
    refine lv_iload_n hx hb dX4_in_6 rfl (lv_at hl 2 rfl) ?_
    refine lv_icmp_gt (tgt := 14) hx hb dX4_in_7 (by decide) (fun c2 => ?_) (fun c2 => ?_)
    · have hq := q_if_t hq c2
      refine lv_iconst (v := 0) hx hb dX4_in_14 (by decide) ?_
      obtain rfl := q_rt hq
      exact ro_zret hx hb hr nz_0 hk dX4_in_15
    · have hq := q_if_f hq c2
      refine lv_iconst (v := 1) hx hb dX4_in_10 (by decide) ?_
      refine lv_goto (tgt := 15) hx hb dX4_in_11 (by decide) ?_
      obtain rfl := q_rt hq
      exact ro_zret hx hb hr nz_1 hk dX4_in_15
theorem in_X4_fails_X4 : ∀ w ∈ wsX40, w ∈ wsX4_fails := fun _ h => List.mem_cons_of_mem _ (List.mem_append_right _ h)
def F_X4_fails (uw : Int32) (p1 : Int32) : Option (Int32 × Int32) := some (0, p1)
set_option maxHeartbeats 4000000 in
set_option maxRecDepth 100000 in
theorem k_X4_fails (l : Launch) (G : va_G) (g : Nat → ClassId) (jo js jp ja jk jt jb : Nat) (un : Int32) (uy : Int32) (uw : Int32) (uq : Int32) (uz : Int32) (us : Nat → Int32) (up : Nat → Int32) (ua : Nat → Int32) (uk : Nat → Int32) (ut : Nat → Int32) (ub : Nat → Int32) (p1 : Int32) (res : Int32 × Int32) (hq : F_X4_fails uw p1 = some res) : rwC l yX4_fails wsX4_fails (rmF 0 0) G g [.ref jo, .int p1] [(jo, .inr (4, [.ref js, .ref jp, .ref ja, .ref jk, .int un, .ref jt, .int uy, .int uw, .ref jb, .int uq, .int uz])), (js, .inl (g 0, 388, .inl us)), (jp, .inl (g 0, 1552, .inl up)), (ja, .inl (g 0, 388, .inl ua)), (jk, .inl (g 0, 97, .inl uk)), (jt, .inl (g 0, 150, .inl ut)), (jb, .inl (g 0, 1000, .inl ub))] (some (.int res.1)) [(jo, .inr (4, [.ref js, .ref jp, .ref ja, .ref jk, .int un, .ref jt, .int uy, .int res.2, .ref jb, .int uq, .int uz])), (js, .inl (g 0, 388, .inl us)), (jp, .inl (g 0, 1552, .inl up)), (ja, .inl (g 0, 388, .inl ua)), (jk, .inl (g 0, 97, .inl uk)), (jt, .inl (g 0, 150, .inl ut)), (jb, .inl (g 0, 1000, .inl ub))] := by
  refine rwC.of (cc := cX4_fails) (maxL := 2) (ret := (some .int)) (by decide) rfl (Nat.le_of_ble_eq_true rfl) ?_
  intro p e s m below meth c ls A X K hA hP hD hS hl
  obtain ⟨hx, hb, hml, hr, hown, hts, hk⟩ := id X
  have hl : lv_has ls 2 [(0, .ref jo), (1, .int p1)] := hl
  unfold F_X4_fails at hq
  refine lv_aload_n hx hb dX4_fails_0 rfl (lv_at hl 0 rfl) ?_
  refine lv_iload_n hx hb dX4_fails_1 rfl (lv_at hl 1 rfl) ?_
  refine va_put (D := G) (ci := 4) (v := .int p1) (ty := .int) (C := RX4) (T := TX4) (N := 11) hx hb hts in_X4_fails_X4 tyX4 tyX4_ok nmX4 hown K.1 hP hD hS 0 rfl rfl 7 (by decide) (hts _ (List.mem_of_getElem? (i := 1) rfl)) (fun _ h9 => h9) rfl (by decide +kernel) rfl rfl (Nat.le_of_ble_eq_true rfl) dX4_fails_2 (fun H locs hP hD hS => ?_)
  have hP : va_P G vwCl [(jo, .inr (4, [.ref js, .ref jp, .ref ja, .ref jk, .int un, .ref jt, .int uy, .int p1, .ref jb, .int uq, .int uz])), (js, .inl (g 0, 388, .inl us)), (jp, .inl (g 0, 1552, .inl up)), (ja, .inl (g 0, 388, .inl ua)), (jk, .inl (g 0, 97, .inl uk)), (jt, .inl (g 0, 150, .inl ut)), (jb, .inl (g 0, 1000, .inl ub))] H := hP
  have hD : va_D A [(jo, .inr (4, [.ref js, .ref jp, .ref ja, .ref jk, .int un, .ref jt, .int uy, .int p1, .ref jb, .int uq, .int uz])), (js, .inl (g 0, 388, .inl us)), (jp, .inl (g 0, 1552, .inl up)), (ja, .inl (g 0, 388, .inl ua)), (jk, .inl (g 0, 97, .inl uk)), (jt, .inl (g 0, 150, .inl ut)), (jb, .inl (g 0, 1000, .inl ub))] := hD
  refine lv_iconst (v := 0) hx hb dX4_fails_5 (by decide) ?_
  obtain rfl := q_rt hq
  exact rw_iret hx hb hr hk hP hD hS dX4_fails_6
theorem in_X4_tells_X4 : ∀ w ∈ wsX40, w ∈ wsX4_tells := fun _ h => List.mem_cons_of_mem _ (List.mem_append_right _ h)
def F_X4_tells (uw : Int32) (p1 : Int32) : Option (Int32 × Int32) := some (p1, 0)
set_option maxHeartbeats 4000000 in
set_option maxRecDepth 100000 in
theorem k_X4_tells (l : Launch) (G : va_G) (g : Nat → ClassId) (jo js jp ja jk jt jb : Nat) (un : Int32) (uy : Int32) (uw : Int32) (uq : Int32) (uz : Int32) (us : Nat → Int32) (up : Nat → Int32) (ua : Nat → Int32) (uk : Nat → Int32) (ut : Nat → Int32) (ub : Nat → Int32) (p1 : Int32) (res : Int32 × Int32) (hq : F_X4_tells uw p1 = some res) : rwC l yX4_tells wsX4_tells (rmF 0 0) G g [.ref jo, .int p1] [(jo, .inr (4, [.ref js, .ref jp, .ref ja, .ref jk, .int un, .ref jt, .int uy, .int uw, .ref jb, .int uq, .int uz])), (js, .inl (g 0, 388, .inl us)), (jp, .inl (g 0, 1552, .inl up)), (ja, .inl (g 0, 388, .inl ua)), (jk, .inl (g 0, 97, .inl uk)), (jt, .inl (g 0, 150, .inl ut)), (jb, .inl (g 0, 1000, .inl ub))] (some (.int res.1)) [(jo, .inr (4, [.ref js, .ref jp, .ref ja, .ref jk, .int un, .ref jt, .int uy, .int res.2, .ref jb, .int uq, .int uz])), (js, .inl (g 0, 388, .inl us)), (jp, .inl (g 0, 1552, .inl up)), (ja, .inl (g 0, 388, .inl ua)), (jk, .inl (g 0, 97, .inl uk)), (jt, .inl (g 0, 150, .inl ut)), (jb, .inl (g 0, 1000, .inl ub))] := by
  refine rwC.of (cc := cX4_tells) (maxL := 2) (ret := (some .int)) (by decide) rfl (Nat.le_of_ble_eq_true rfl) ?_
  intro p e s m below meth c ls A X K hA hP hD hS hl
  obtain ⟨hx, hb, hml, hr, hown, hts, hk⟩ := id X
  have hl : lv_has ls 2 [(0, .ref jo), (1, .int p1)] := hl
  unfold F_X4_tells at hq
  refine lv_aload_n hx hb dX4_tells_0 rfl (lv_at hl 0 rfl) ?_
  refine lv_iconst (v := 0) hx hb dX4_tells_1 (by decide) ?_
  refine va_put (D := G) (ci := 4) (v := .int 0) (ty := .int) (C := RX4) (T := TX4) (N := 11) hx hb hts in_X4_tells_X4 tyX4 tyX4_ok nmX4 hown K.1 hP hD hS 0 rfl rfl 7 (by decide) (hts _ (List.mem_of_getElem? (i := 1) rfl)) (fun _ h9 => h9) rfl (by decide +kernel) rfl rfl (Nat.le_of_ble_eq_true rfl) dX4_tells_2 (fun H locs hP hD hS => ?_)
  have hP : va_P G vwCl [(jo, .inr (4, [.ref js, .ref jp, .ref ja, .ref jk, .int un, .ref jt, .int uy, .int 0, .ref jb, .int uq, .int uz])), (js, .inl (g 0, 388, .inl us)), (jp, .inl (g 0, 1552, .inl up)), (ja, .inl (g 0, 388, .inl ua)), (jk, .inl (g 0, 97, .inl uk)), (jt, .inl (g 0, 150, .inl ut)), (jb, .inl (g 0, 1000, .inl ub))] H := hP
  have hD : va_D A [(jo, .inr (4, [.ref js, .ref jp, .ref ja, .ref jk, .int un, .ref jt, .int uy, .int 0, .ref jb, .int uq, .int uz])), (js, .inl (g 0, 388, .inl us)), (jp, .inl (g 0, 1552, .inl up)), (ja, .inl (g 0, 388, .inl ua)), (jk, .inl (g 0, 97, .inl uk)), (jt, .inl (g 0, 150, .inl ut)), (jb, .inl (g 0, 1000, .inl ub))] := hD
  refine lv_iload_n hx hb dX4_tells_5 rfl (lv_at hl 1 rfl) ?_
  obtain rfl := q_rt hq
  exact rw_iret hx hb hr hk hP hD hS dX4_tells_6
theorem in_X4_hold_X4 : ∀ w ∈ wsX40, w ∈ wsX4_hold := fun _ h => List.mem_cons_of_mem _ (List.mem_append_right _ h)
def F_X4_hold_2 (us : Nat → Int32) : Nat → (Nat → Int32) → Int32 → Option ((Nat → Int32))
  | 0, _, _ => none
  | n + 1, ua, v1 => if (388 : Int32) ≤ v1 then (some (ua)) else (vgd (ix (v1) 388) <| vgd (ix (v1) 388) <| vlet (upd ua v1.toNatClampNeg (us v1.toNatClampNeg)) fun f5 => vlet ((v1 : Int32) + 1) fun x6 => F_X4_hold_2 us n f5 x6)
set_option maxHeartbeats 4000000 in
set_option maxRecDepth 100000 in
theorem w_X4_hold_2 {p : Program} {l : Launch} {e : Env} {s : State} {m : MethodId} {args : Array Value} {below : List Frame} {meth : Method} {c : Code} {G : va_G} {g : Nat → ClassId} (X : cx p s m args meth c cX4_hold 2 none RX4 wsX4_hold) (K : amb G g s) {A : Nat → Prop} (hA : ∀ q : Nat, s.heap.size ≤ q → A q) (jo js jp ja jk jt jb : Nat) (un : Int32) (uy : Int32) (uw : Int32) (uq : Int32) (uz : Int32) (up : Nat → Int32) (uk : Nat → Int32) (ut : Nat → Int32) (ub : Nat → Int32) (us : Nat → Int32) (res : (Nat → Int32)) : ∀ (n : Nat) (ua : Nat → Int32) (v1 : Int32), F_X4_hold_2 us n ua v1 = some res → ∀ (H : Heap) (locs : List Loc), va_P G vwCl [(jo, .inr (4, [.ref js, .ref jp, .ref ja, .ref jk, .int un, .ref jt, .int uy, .int uw, .ref jb, .int uq, .int uz])), (js, .inl (g 0, 388, .inl us)), (jp, .inl (g 0, 1552, .inl up)), (ja, .inl (g 0, 388, .inl ua)), (jk, .inl (g 0, 97, .inl uk)), (jt, .inl (g 0, 150, .inl ut)), (jb, .inl (g 0, 1000, .inl ub))] H → va_D A [(jo, .inr (4, [.ref js, .ref jp, .ref ja, .ref jk, .int un, .ref jt, .int uy, .int uw, .ref jb, .int uq, .int uz])), (js, .inl (g 0, 388, .inl us)), (jp, .inl (g 0, 1552, .inl up)), (ja, .inl (g 0, 388, .inl ua)), (jk, .inl (g 0, 97, .inl uk)), (jt, .inl (g 0, 150, .inl ut)), (jb, .inl (g 0, 1000, .inl ub))] → va_S A s.heap H locs → ∀ (ls : Array Slot), lv_has ls 2 [(0, .ref jo), (1, .int v1)] → W p l e (rmF 0 0) s m args below meth c H locs 0 0 (rwM G A below none [(jo, .inr (4, [.ref js, .ref jp, .ref ja, .ref jk, .int un, .ref jt, .int uy, .int uw, .ref jb, .int uq, .int uz])), (js, .inl (g 0, 388, .inl us)), (jp, .inl (g 0, 1552, .inl up)), (ja, .inl (g 0, 388, .inl res)), (jk, .inl (g 0, 97, .inl uk)), (jt, .inl (g 0, 150, .inl ut)), (jb, .inl (g 0, 1000, .inl ub))] args s) (F0 m 2 ls []) := by
  obtain ⟨hx, hb, hml, hr, hown, hts, hk⟩ := id X
  intro n
  induction n with
  | zero => intro ua v1 hq; exact q_no hq
  | succ n ih =>
    intro ua v1 hq H locs hP hD hS ls hl
    rw [F_X4_hold_2] at hq
    refine lv_iload_n hx hb dX4_hold_2 rfl (lv_at hl 1 rfl) ?_
    refine lv_sipush (v := 388) hx hb dX4_hold_3 (by decide) ?_
    refine lv_icmp_ge (tgt := 27) hx hb dX4_hold_6 (by decide) (fun c2 => ?_) (fun c2 => ?_)
    · have hq := q_if_t hq c2
      obtain rfl := q_rt hq
      exact rw_vret hx hb hr hk hP hD hS dX4_hold_27
    · have hq := q_if_f hq c2
      refine lv_aload_n hx hb dX4_hold_9 rfl (lv_at hl 0 rfl) ?_
      refine va_get (D := G) (ci := 4) (v := .ref ja) (C := RX4) (T := TX4) (N := 11) hx hb hts in_X4_hold_X4 hown K.1 hP 0 rfl rfl 2 (by decide) (hts _ (List.mem_of_getElem? (i := 1) rfl)) (fun _ h9 => h9) rfl dX4_hold_10 ?_
      refine lv_iload_n hx hb dX4_hold_13 rfl (lv_at hl 1 rfl) ?_
      refine lv_aload_n hx hb dX4_hold_14 rfl (lv_at hl 0 rfl) ?_
      refine va_get (D := G) (ci := 4) (v := .ref js) (C := RX4) (T := TX4) (N := 11) hx hb hts in_X4_hold_X4 hown K.1 hP 0 rfl rfl 0 (by decide) (hts _ (List.mem_of_getElem? (i := 2) rfl)) (fun _ h9 => h9) rfl dX4_hold_15 ?_
      refine lv_iload_n hx hb dX4_hold_18 rfl (lv_at hl 1 rfl) ?_
      obtain ⟨hh3, hq⟩ := q_gd hq
      refine va_iald hx hb K.1 hP 1 0 rfl rfl (vp_in_iff.mpr hh3) dX4_hold_19 ?_
      obtain ⟨hh4, hq⟩ := q_gd hq
      refine va_iast hx hb K.1 hP hD hS 3 0 rfl rfl (vp_in_iff.mpr hh4) dX4_hold_20 (fun H locs hP hD hS => ?_)
      obtain ⟨f5, ef5⟩ : ∃ y, y = upd ua v1.toNatClampNeg (us v1.toNatClampNeg) := ⟨_, rfl⟩
      have hq := q_let hq ef5
      have hP : va_P G vwCl [(jo, .inr (4, [.ref js, .ref jp, .ref ja, .ref jk, .int un, .ref jt, .int uy, .int uw, .ref jb, .int uq, .int uz])), (js, .inl (g 0, 388, .inl us)), (jp, .inl (g 0, 1552, .inl up)), (ja, .inl (g 0, 388, .inl f5)), (jk, .inl (g 0, 97, .inl uk)), (jt, .inl (g 0, 150, .inl ut)), (jb, .inl (g 0, 1000, .inl ub))] H := by rw [ef5]; exact hP
      have hD : va_D A [(jo, .inr (4, [.ref js, .ref jp, .ref ja, .ref jk, .int un, .ref jt, .int uy, .int uw, .ref jb, .int uq, .int uz])), (js, .inl (g 0, 388, .inl us)), (jp, .inl (g 0, 1552, .inl up)), (ja, .inl (g 0, 388, .inl f5)), (jk, .inl (g 0, 97, .inl uk)), (jt, .inl (g 0, 150, .inl ut)), (jb, .inl (g 0, 1000, .inl ub))] := by rw [ef5]; exact hD
      obtain ⟨x6, ex6⟩ : ∃ y : Int32, y = (v1 : Int32) + 1 := ⟨_, rfl⟩
      have hq := q_let hq ex6
      refine lv_iinc (v := x6) (lv' := [(1, .int x6), (0, .ref jo)]) hx hb dX4_hold_21 hl (k := 1) rfl (by rw [ex6]; rfl) (by decide) rfl (fun ls hl => ?_)
      refine lv_goto (tgt := 2) hx hb dX4_hold_24 (by decide) ?_
      exact ih f5 x6 hq _ _ hP hD hS ls (lv_sub hl [1, 0] rfl)
def F_X4_hold (us : Nat → Int32) (ua : Nat → Int32) : Option ((Nat → Int32)) := F_X4_hold_2 us 2000 ua 0
set_option maxHeartbeats 4000000 in
set_option maxRecDepth 100000 in
theorem k_X4_hold (l : Launch) (G : va_G) (g : Nat → ClassId) (jo js jp ja jk jt jb : Nat) (un : Int32) (uy : Int32) (uw : Int32) (uq : Int32) (uz : Int32) (us : Nat → Int32) (up : Nat → Int32) (ua : Nat → Int32) (uk : Nat → Int32) (ut : Nat → Int32) (ub : Nat → Int32) (res : (Nat → Int32)) (hq : F_X4_hold us ua = some res) : rwC l yX4_hold wsX4_hold (rmF 0 0) G g [.ref jo] [(jo, .inr (4, [.ref js, .ref jp, .ref ja, .ref jk, .int un, .ref jt, .int uy, .int uw, .ref jb, .int uq, .int uz])), (js, .inl (g 0, 388, .inl us)), (jp, .inl (g 0, 1552, .inl up)), (ja, .inl (g 0, 388, .inl ua)), (jk, .inl (g 0, 97, .inl uk)), (jt, .inl (g 0, 150, .inl ut)), (jb, .inl (g 0, 1000, .inl ub))] none [(jo, .inr (4, [.ref js, .ref jp, .ref ja, .ref jk, .int un, .ref jt, .int uy, .int uw, .ref jb, .int uq, .int uz])), (js, .inl (g 0, 388, .inl us)), (jp, .inl (g 0, 1552, .inl up)), (ja, .inl (g 0, 388, .inl res)), (jk, .inl (g 0, 97, .inl uk)), (jt, .inl (g 0, 150, .inl ut)), (jb, .inl (g 0, 1000, .inl ub))] := by
  refine rwC.of (cc := cX4_hold) (maxL := 2) (ret := none) (by decide) rfl (Nat.le_of_ble_eq_true rfl) ?_
  intro p e s m below meth c ls A X K hA hP hD hS hl
  obtain ⟨hx, hb, hml, hr, hown, hts, hk⟩ := id X
  have hl : lv_has ls 2 [(0, .ref jo)] := hl
  unfold F_X4_hold at hq
  refine lv_iconst (v := 0) hx hb dX4_hold_0 (by decide) ?_
  refine lv_istore_n (lv' := [(1, .int 0), (0, .ref jo)]) hx hb dX4_hold_1 rfl hl (by decide) rfl (fun ls hl => ?_)
  exact w_X4_hold_2 X K hA jo js jp ja jk jt jb un uy uw uq uz up uk ut ub us _ 2000 ua 0 hq _ _ hP hD hS ls (lv_sub hl [1, 0] rfl)
theorem hd_X4_tells : ynm yX4_tells 1 := by unfold ynm; decide +kernel
theorem in_X4_ends_X4 : ∀ w ∈ wsX40, w ∈ wsX4_ends := fun _ h => List.mem_cons_of_mem _ (List.mem_append_right _ h)
def F_X4_ends_51 (un : Int32) (uw : Int32) (ua : Nat → Int32) (v1 : Int32) : Nat → (Nat → Int32) → Int32 → Option (Int32 × Int32 × Int32 × (Nat → Int32))
  | 0, _, _ => none
  | n + 1, up, v2 => if (388 : Int32) ≤ v2 then (vlet (un + 1) fun x4 => (F_X4_tells uw v1).bind fun o8 => some (o8.1, x4, o8.2, up)) else (vgd (ix (v2) 388) <| vgd (ix (((388 : Int32) * un) + v2) 1552) <| vlet (upd up (((388 : Int32) * un) + v2).toNatClampNeg (ua v2.toNatClampNeg)) fun f11 => vlet ((v2 : Int32) + 1) fun x12 => F_X4_ends_51 un uw ua v1 n f11 x12)
set_option maxHeartbeats 4000000 in
set_option maxRecDepth 100000 in
theorem w_X4_ends_51 {p : Program} {l : Launch} {e : Env} {s : State} {m : MethodId} {args : Array Value} {below : List Frame} {meth : Method} {c : Code} {G : va_G} {g : Nat → ClassId} (X : cx p s m args meth c cX4_ends 3 (some .int) RX4 wsX4_ends) (K : amb G g s) {A : Nat → Prop} (hA : ∀ q : Nat, s.heap.size ≤ q → A q) (jo js jp ja jk jt jb : Nat) (uy : Int32) (uq : Int32) (uz : Int32) (us : Nat → Int32) (uk : Nat → Int32) (ut : Nat → Int32) (ub : Nat → Int32) (un : Int32) (uw : Int32) (ua : Nat → Int32) (v1 : Int32) (res : Int32 × Int32 × Int32 × (Nat → Int32)) : ∀ (n : Nat) (up : Nat → Int32) (v2 : Int32), F_X4_ends_51 un uw ua v1 n up v2 = some res → ∀ (H : Heap) (locs : List Loc), va_P G vwCl [(jo, .inr (4, [.ref js, .ref jp, .ref ja, .ref jk, .int un, .ref jt, .int uy, .int uw, .ref jb, .int uq, .int uz])), (js, .inl (g 0, 388, .inl us)), (jp, .inl (g 0, 1552, .inl up)), (ja, .inl (g 0, 388, .inl ua)), (jk, .inl (g 0, 97, .inl uk)), (jt, .inl (g 0, 150, .inl ut)), (jb, .inl (g 0, 1000, .inl ub))] H → va_D A [(jo, .inr (4, [.ref js, .ref jp, .ref ja, .ref jk, .int un, .ref jt, .int uy, .int uw, .ref jb, .int uq, .int uz])), (js, .inl (g 0, 388, .inl us)), (jp, .inl (g 0, 1552, .inl up)), (ja, .inl (g 0, 388, .inl ua)), (jk, .inl (g 0, 97, .inl uk)), (jt, .inl (g 0, 150, .inl ut)), (jb, .inl (g 0, 1000, .inl ub))] → va_S A s.heap H locs → ∀ (ls : Array Slot), lv_has ls 3 [(0, .ref jo), (1, .int v1), (2, .int v2)] → W p l e (rmF 1 21) s m args below meth c H locs 0 0 (rwM G A below (some (.int res.1)) [(jo, .inr (4, [.ref js, .ref jp, .ref ja, .ref jk, .int res.2.1, .ref jt, .int uy, .int res.2.2.1, .ref jb, .int uq, .int uz])), (js, .inl (g 0, 388, .inl us)), (jp, .inl (g 0, 1552, .inl res.2.2.2)), (ja, .inl (g 0, 388, .inl ua)), (jk, .inl (g 0, 97, .inl uk)), (jt, .inl (g 0, 150, .inl ut)), (jb, .inl (g 0, 1000, .inl ub))] args s) (F0 m 51 ls []) := by
  obtain ⟨hx, hb, hml, hr, hown, hts, hk⟩ := id X
  intro n
  induction n with
  | zero => intro up v2 hq; exact q_no hq
  | succ n ih =>
    intro up v2 hq H locs hP hD hS ls hl
    rw [F_X4_ends_51] at hq
    refine lv_iload_n hx hb dX4_ends_51 rfl (lv_at hl 2 rfl) ?_
    refine lv_sipush (v := 388) hx hb dX4_ends_52 (by decide) ?_
    refine lv_icmp_ge (tgt := 85) hx hb dX4_ends_55 (by decide) (fun c3 => ?_) (fun c3 => ?_)
    · have hq := q_if_t hq c3
      refine lv_aload_n hx hb dX4_ends_85 rfl (lv_at hl 0 rfl) ?_
      refine lv_dup hx hb dX4_ends_86 rfl ?_
      refine va_get (D := G) (ci := 4) (v := .int un) (C := RX4) (T := TX4) (N := 11) hx hb hts in_X4_ends_X4 hown K.1 hP 0 rfl rfl 4 (by decide) (hts _ (List.mem_of_getElem? (i := 1) rfl)) (fun _ h9 => h9) rfl dX4_ends_87 ?_
      refine lv_iconst (v := 1) hx hb dX4_ends_90 (by decide) ?_
      refine lv_iadd hx hb dX4_ends_91 ?_
      refine lv_topi (fun x4 ex4 => ?_)
      have hq := q_let hq ex4
      refine va_put (D := G) (ci := 4) (v := .int x4) (ty := .int) (C := RX4) (T := TX4) (N := 11) hx hb hts in_X4_ends_X4 tyX4 tyX4_ok nmX4 hown K.1 hP hD hS 0 rfl rfl 4 (by decide) (hts _ (List.mem_of_getElem? (i := 1) rfl)) (fun _ h9 => h9) rfl (by decide +kernel) rfl rfl (Nat.le_of_ble_eq_true rfl) dX4_ends_92 (fun H locs hP hD hS => ?_)
      have hP : va_P G vwCl [(jo, .inr (4, [.ref js, .ref jp, .ref ja, .ref jk, .int x4, .ref jt, .int uy, .int uw, .ref jb, .int uq, .int uz])), (js, .inl (g 0, 388, .inl us)), (jp, .inl (g 0, 1552, .inl up)), (ja, .inl (g 0, 388, .inl ua)), (jk, .inl (g 0, 97, .inl uk)), (jt, .inl (g 0, 150, .inl ut)), (jb, .inl (g 0, 1000, .inl ub))] H := hP
      have hD : va_D A [(jo, .inr (4, [.ref js, .ref jp, .ref ja, .ref jk, .int x4, .ref jt, .int uy, .int uw, .ref jb, .int uq, .int uz])), (js, .inl (g 0, 388, .inl us)), (jp, .inl (g 0, 1552, .inl up)), (ja, .inl (g 0, 388, .inl ua)), (jk, .inl (g 0, 97, .inl uk)), (jt, .inl (g 0, 150, .inl ut)), (jb, .inl (g 0, 1000, .inl ub))] := hD
      refine lv_aload_n hx hb dX4_ends_95 rfl (lv_at hl 0 rfl) ?_
      refine lv_iload_n hx hb dX4_ends_96 rfl (lv_at hl 1 rfl) ?_
      obtain ⟨⟨r5, y6⟩, hh7, hq⟩ := q_bd hq
      refine rwV (ci := 4) (wr := []) (As := [.int v1]) (rest := []) X K (k_X4_tells l G g jo js jp ja jk jt jb x4 uy uw uq uz us up ua uk ut ub v1 _ hh7) hd_X4_tells gX4_ends_X4_tells hP hD hS hA [0, 1, 2, 3, 4, 5, 6] [] rfl rfl ⟨by decide, by decide, by decide⟩ hl.1 dX4_ends_97 rfl rfl ⟨Nat.le_of_ble_eq_true rfl, Nat.le_of_ble_eq_true rfl⟩ rfl rfl rfl (Nat.le_of_ble_eq_true rfl) ⟨Nat.zero_le _, Nat.zero_le _⟩ (fun H locs hP hD hS => ?_)
      have hP : va_P G vwCl [(jo, .inr (4, [.ref js, .ref jp, .ref ja, .ref jk, .int x4, .ref jt, .int uy, .int y6, .ref jb, .int uq, .int uz])), (js, .inl (g 0, 388, .inl us)), (jp, .inl (g 0, 1552, .inl up)), (ja, .inl (g 0, 388, .inl ua)), (jk, .inl (g 0, 97, .inl uk)), (jt, .inl (g 0, 150, .inl ut)), (jb, .inl (g 0, 1000, .inl ub))] H := hP
      have hD : va_D A [(jo, .inr (4, [.ref js, .ref jp, .ref ja, .ref jk, .int x4, .ref jt, .int uy, .int y6, .ref jb, .int uq, .int uz])), (js, .inl (g 0, 388, .inl us)), (jp, .inl (g 0, 1552, .inl up)), (ja, .inl (g 0, 388, .inl ua)), (jk, .inl (g 0, 97, .inl uk)), (jt, .inl (g 0, 150, .inl ut)), (jb, .inl (g 0, 1000, .inl ub))] := hD
      obtain rfl := q_rt hq
      exact rw_iret hx hb hr hk hP hD hS dX4_ends_100
    · have hq := q_if_f hq c3
      refine lv_aload_n hx hb dX4_ends_58 rfl (lv_at hl 0 rfl) ?_
      refine va_get (D := G) (ci := 4) (v := .ref jp) (C := RX4) (T := TX4) (N := 11) hx hb hts in_X4_ends_X4 hown K.1 hP 0 rfl rfl 1 (by decide) (hts _ (List.mem_of_getElem? (i := 2) rfl)) (fun _ h9 => h9) rfl dX4_ends_59 ?_
      refine lv_sipush (v := 388) hx hb dX4_ends_62 (by decide) ?_
      refine lv_aload_n hx hb dX4_ends_65 rfl (lv_at hl 0 rfl) ?_
      refine va_get (D := G) (ci := 4) (v := .int un) (C := RX4) (T := TX4) (N := 11) hx hb hts in_X4_ends_X4 hown K.1 hP 0 rfl rfl 4 (by decide) (hts _ (List.mem_of_getElem? (i := 1) rfl)) (fun _ h9 => h9) rfl dX4_ends_66 ?_
      refine lv_imul hx hb dX4_ends_69 ?_
      refine lv_iload_n hx hb dX4_ends_70 rfl (lv_at hl 2 rfl) ?_
      refine lv_iadd hx hb dX4_ends_71 ?_
      refine lv_aload_n hx hb dX4_ends_72 rfl (lv_at hl 0 rfl) ?_
      refine va_get (D := G) (ci := 4) (v := .ref ja) (C := RX4) (T := TX4) (N := 11) hx hb hts in_X4_ends_X4 hown K.1 hP 0 rfl rfl 2 (by decide) (hts _ (List.mem_of_getElem? (i := 3) rfl)) (fun _ h9 => h9) rfl dX4_ends_73 ?_
      refine lv_iload_n hx hb dX4_ends_76 rfl (lv_at hl 2 rfl) ?_
      obtain ⟨hh9, hq⟩ := q_gd hq
      refine va_iald hx hb K.1 hP 3 0 rfl rfl (vp_in_iff.mpr hh9) dX4_ends_77 ?_
      obtain ⟨hh10, hq⟩ := q_gd hq
      refine va_iast hx hb K.1 hP hD hS 2 0 rfl rfl (vp_in_iff.mpr hh10) dX4_ends_78 (fun H locs hP hD hS => ?_)
      obtain ⟨f11, ef11⟩ : ∃ y, y = upd up (((388 : Int32) * un) + v2).toNatClampNeg (ua v2.toNatClampNeg) := ⟨_, rfl⟩
      have hq := q_let hq ef11
      have hP : va_P G vwCl [(jo, .inr (4, [.ref js, .ref jp, .ref ja, .ref jk, .int un, .ref jt, .int uy, .int uw, .ref jb, .int uq, .int uz])), (js, .inl (g 0, 388, .inl us)), (jp, .inl (g 0, 1552, .inl f11)), (ja, .inl (g 0, 388, .inl ua)), (jk, .inl (g 0, 97, .inl uk)), (jt, .inl (g 0, 150, .inl ut)), (jb, .inl (g 0, 1000, .inl ub))] H := by rw [ef11]; exact hP
      have hD : va_D A [(jo, .inr (4, [.ref js, .ref jp, .ref ja, .ref jk, .int un, .ref jt, .int uy, .int uw, .ref jb, .int uq, .int uz])), (js, .inl (g 0, 388, .inl us)), (jp, .inl (g 0, 1552, .inl f11)), (ja, .inl (g 0, 388, .inl ua)), (jk, .inl (g 0, 97, .inl uk)), (jt, .inl (g 0, 150, .inl ut)), (jb, .inl (g 0, 1000, .inl ub))] := by rw [ef11]; exact hD
      obtain ⟨x12, ex12⟩ : ∃ y : Int32, y = (v2 : Int32) + 1 := ⟨_, rfl⟩
      have hq := q_let hq ex12
      refine lv_iinc (v := x12) (lv' := [(2, .int x12), (0, .ref jo), (1, .int v1)]) hx hb dX4_ends_79 hl (k := 2) rfl (by rw [ex12]; rfl) (by decide) rfl (fun ls hl => ?_)
      refine lv_goto (tgt := 51) hx hb dX4_ends_82 (by decide) ?_
      exact ih f11 x12 hq _ _ hP hD hS ls (lv_sub hl [1, 2, 0] rfl)
def F_X4_ends_49 (un : Int32) (uw : Int32) (up : Nat → Int32) (ua : Nat → Int32) (v1 : Int32) : Option (Int32 × Int32 × Int32 × (Nat → Int32)) := F_X4_ends_51 un uw ua v1 2000 up 0
set_option maxHeartbeats 4000000 in
set_option maxRecDepth 100000 in
theorem w_X4_ends_49 {p : Program} {l : Launch} {e : Env} {s : State} {m : MethodId} {args : Array Value} {below : List Frame} {meth : Method} {c : Code} {G : va_G} {g : Nat → ClassId} (X : cx p s m args meth c cX4_ends 3 (some .int) RX4 wsX4_ends) (K : amb G g s) {A : Nat → Prop} (hA : ∀ q : Nat, s.heap.size ≤ q → A q) (jo js jp ja jk jt jb : Nat) (uy : Int32) (uq : Int32) (uz : Int32) (us : Nat → Int32) (uk : Nat → Int32) (ut : Nat → Int32) (ub : Nat → Int32) (un : Int32) (uw : Int32) (up : Nat → Int32) (ua : Nat → Int32) (v1 : Int32) (res : Int32 × Int32 × Int32 × (Nat → Int32)) (hq : F_X4_ends_49 un uw up ua v1 = some res) : ∀ (H : Heap) (locs : List Loc), va_P G vwCl [(jo, .inr (4, [.ref js, .ref jp, .ref ja, .ref jk, .int un, .ref jt, .int uy, .int uw, .ref jb, .int uq, .int uz])), (js, .inl (g 0, 388, .inl us)), (jp, .inl (g 0, 1552, .inl up)), (ja, .inl (g 0, 388, .inl ua)), (jk, .inl (g 0, 97, .inl uk)), (jt, .inl (g 0, 150, .inl ut)), (jb, .inl (g 0, 1000, .inl ub))] H → va_D A [(jo, .inr (4, [.ref js, .ref jp, .ref ja, .ref jk, .int un, .ref jt, .int uy, .int uw, .ref jb, .int uq, .int uz])), (js, .inl (g 0, 388, .inl us)), (jp, .inl (g 0, 1552, .inl up)), (ja, .inl (g 0, 388, .inl ua)), (jk, .inl (g 0, 97, .inl uk)), (jt, .inl (g 0, 150, .inl ut)), (jb, .inl (g 0, 1000, .inl ub))] → va_S A s.heap H locs → ∀ (ls : Array Slot), lv_has ls 3 [(0, .ref jo), (1, .int v1)] → W p l e (rmF 1 21) s m args below meth c H locs 0 0 (rwM G A below (some (.int res.1)) [(jo, .inr (4, [.ref js, .ref jp, .ref ja, .ref jk, .int res.2.1, .ref jt, .int uy, .int res.2.2.1, .ref jb, .int uq, .int uz])), (js, .inl (g 0, 388, .inl us)), (jp, .inl (g 0, 1552, .inl res.2.2.2)), (ja, .inl (g 0, 388, .inl ua)), (jk, .inl (g 0, 97, .inl uk)), (jt, .inl (g 0, 150, .inl ut)), (jb, .inl (g 0, 1000, .inl ub))] args s) (F0 m 49 ls []) := by
  obtain ⟨hx, hb, hml, hr, hown, hts, hk⟩ := id X
  intro H locs hP hD hS ls hl
  unfold F_X4_ends_49 at hq
  refine lv_iconst (v := 0) hx hb dX4_ends_49 (by decide) ?_
  refine lv_istore_n (lv' := [(2, .int 0), (0, .ref jo), (1, .int v1)]) hx hb dX4_ends_50 rfl hl (by decide) rfl (fun ls hl => ?_)
  exact w_X4_ends_51 X K hA jo js jp ja jk jt jb uy uq uz us uk ut ub un uw ua v1 _ 2000 up 0 hq _ _ hP hD hS ls (lv_sub hl [1, 2, 0] rfl)
def F_X4_ends_10 (un : Int32) (uw : Int32) (ua : Nat → Int32) (v1 : Int32) : Nat → (Nat → Int32) → Int32 → Option (Int32 × Int32 × Int32 × (Nat → Int32))
  | 0, _, _ => none
  | n + 1, up, v2 => if (1164 : Int32) ≤ v2 then (vlet (un - 1) fun x4 => F_X4_ends_49 x4 uw up ua v1) else (vgd (ix (v2 + 388) 1552) <| vgd (ix (v2) 1552) <| vlet (upd up v2.toNatClampNeg (up (v2 + 388).toNatClampNeg)) fun f7 => vlet ((v2 : Int32) + 1) fun x8 => F_X4_ends_10 un uw ua v1 n f7 x8)
set_option maxHeartbeats 4000000 in
set_option maxRecDepth 100000 in
theorem w_X4_ends_10 {p : Program} {l : Launch} {e : Env} {s : State} {m : MethodId} {args : Array Value} {below : List Frame} {meth : Method} {c : Code} {G : va_G} {g : Nat → ClassId} (X : cx p s m args meth c cX4_ends 3 (some .int) RX4 wsX4_ends) (K : amb G g s) {A : Nat → Prop} (hA : ∀ q : Nat, s.heap.size ≤ q → A q) (jo js jp ja jk jt jb : Nat) (uy : Int32) (uq : Int32) (uz : Int32) (us : Nat → Int32) (uk : Nat → Int32) (ut : Nat → Int32) (ub : Nat → Int32) (un : Int32) (uw : Int32) (ua : Nat → Int32) (v1 : Int32) (res : Int32 × Int32 × Int32 × (Nat → Int32)) : ∀ (n : Nat) (up : Nat → Int32) (v2 : Int32), F_X4_ends_10 un uw ua v1 n up v2 = some res → ∀ (H : Heap) (locs : List Loc), va_P G vwCl [(jo, .inr (4, [.ref js, .ref jp, .ref ja, .ref jk, .int un, .ref jt, .int uy, .int uw, .ref jb, .int uq, .int uz])), (js, .inl (g 0, 388, .inl us)), (jp, .inl (g 0, 1552, .inl up)), (ja, .inl (g 0, 388, .inl ua)), (jk, .inl (g 0, 97, .inl uk)), (jt, .inl (g 0, 150, .inl ut)), (jb, .inl (g 0, 1000, .inl ub))] H → va_D A [(jo, .inr (4, [.ref js, .ref jp, .ref ja, .ref jk, .int un, .ref jt, .int uy, .int uw, .ref jb, .int uq, .int uz])), (js, .inl (g 0, 388, .inl us)), (jp, .inl (g 0, 1552, .inl up)), (ja, .inl (g 0, 388, .inl ua)), (jk, .inl (g 0, 97, .inl uk)), (jt, .inl (g 0, 150, .inl ut)), (jb, .inl (g 0, 1000, .inl ub))] → va_S A s.heap H locs → ∀ (ls : Array Slot), lv_has ls 3 [(0, .ref jo), (1, .int v1), (2, .int v2)] → W p l e (rmF 1 21) s m args below meth c H locs 0 0 (rwM G A below (some (.int res.1)) [(jo, .inr (4, [.ref js, .ref jp, .ref ja, .ref jk, .int res.2.1, .ref jt, .int uy, .int res.2.2.1, .ref jb, .int uq, .int uz])), (js, .inl (g 0, 388, .inl us)), (jp, .inl (g 0, 1552, .inl res.2.2.2)), (ja, .inl (g 0, 388, .inl ua)), (jk, .inl (g 0, 97, .inl uk)), (jt, .inl (g 0, 150, .inl ut)), (jb, .inl (g 0, 1000, .inl ub))] args s) (F0 m 10 ls []) := by
  obtain ⟨hx, hb, hml, hr, hown, hts, hk⟩ := id X
  intro n
  induction n with
  | zero => intro up v2 hq; exact q_no hq
  | succ n ih =>
    intro up v2 hq H locs hP hD hS ls hl
    rw [F_X4_ends_10] at hq
    refine lv_iload_n hx hb dX4_ends_10 rfl (lv_at hl 2 rfl) ?_
    refine lv_sipush (v := 1164) hx hb dX4_ends_11 (by decide) ?_
    refine lv_icmp_ge (tgt := 39) hx hb dX4_ends_14 (by decide) (fun c3 => ?_) (fun c3 => ?_)
    · have hq := q_if_t hq c3
      refine lv_aload_n hx hb dX4_ends_39 rfl (lv_at hl 0 rfl) ?_
      refine lv_dup hx hb dX4_ends_40 rfl ?_
      refine va_get (D := G) (ci := 4) (v := .int un) (C := RX4) (T := TX4) (N := 11) hx hb hts in_X4_ends_X4 hown K.1 hP 0 rfl rfl 4 (by decide) (hts _ (List.mem_of_getElem? (i := 1) rfl)) (fun _ h9 => h9) rfl dX4_ends_41 ?_
      refine lv_iconst (v := 1) hx hb dX4_ends_44 (by decide) ?_
      refine lv_isub hx hb dX4_ends_45 ?_
      refine lv_topi (fun x4 ex4 => ?_)
      have hq := q_let hq ex4
      refine va_put (D := G) (ci := 4) (v := .int x4) (ty := .int) (C := RX4) (T := TX4) (N := 11) hx hb hts in_X4_ends_X4 tyX4 tyX4_ok nmX4 hown K.1 hP hD hS 0 rfl rfl 4 (by decide) (hts _ (List.mem_of_getElem? (i := 1) rfl)) (fun _ h9 => h9) rfl (by decide +kernel) rfl rfl (Nat.le_of_ble_eq_true rfl) dX4_ends_46 (fun H locs hP hD hS => ?_)
      have hP : va_P G vwCl [(jo, .inr (4, [.ref js, .ref jp, .ref ja, .ref jk, .int x4, .ref jt, .int uy, .int uw, .ref jb, .int uq, .int uz])), (js, .inl (g 0, 388, .inl us)), (jp, .inl (g 0, 1552, .inl up)), (ja, .inl (g 0, 388, .inl ua)), (jk, .inl (g 0, 97, .inl uk)), (jt, .inl (g 0, 150, .inl ut)), (jb, .inl (g 0, 1000, .inl ub))] H := hP
      have hD : va_D A [(jo, .inr (4, [.ref js, .ref jp, .ref ja, .ref jk, .int x4, .ref jt, .int uy, .int uw, .ref jb, .int uq, .int uz])), (js, .inl (g 0, 388, .inl us)), (jp, .inl (g 0, 1552, .inl up)), (ja, .inl (g 0, 388, .inl ua)), (jk, .inl (g 0, 97, .inl uk)), (jt, .inl (g 0, 150, .inl ut)), (jb, .inl (g 0, 1000, .inl ub))] := hD
      exact w_X4_ends_49 X K hA jo js jp ja jk jt jb uy uq uz us uk ut ub x4 uw up ua v1 _ hq _ _ hP hD hS ls (lv_sub hl [0, 1] rfl)
    · have hq := q_if_f hq c3
      refine lv_aload_n hx hb dX4_ends_17 rfl (lv_at hl 0 rfl) ?_
      refine va_get (D := G) (ci := 4) (v := .ref jp) (C := RX4) (T := TX4) (N := 11) hx hb hts in_X4_ends_X4 hown K.1 hP 0 rfl rfl 1 (by decide) (hts _ (List.mem_of_getElem? (i := 2) rfl)) (fun _ h9 => h9) rfl dX4_ends_18 ?_
      refine lv_iload_n hx hb dX4_ends_21 rfl (lv_at hl 2 rfl) ?_
      refine lv_aload_n hx hb dX4_ends_22 rfl (lv_at hl 0 rfl) ?_
      refine va_get (D := G) (ci := 4) (v := .ref jp) (C := RX4) (T := TX4) (N := 11) hx hb hts in_X4_ends_X4 hown K.1 hP 0 rfl rfl 1 (by decide) (hts _ (List.mem_of_getElem? (i := 2) rfl)) (fun _ h9 => h9) rfl dX4_ends_23 ?_
      refine lv_iload_n hx hb dX4_ends_26 rfl (lv_at hl 2 rfl) ?_
      refine lv_sipush (v := 388) hx hb dX4_ends_27 (by decide) ?_
      refine lv_iadd hx hb dX4_ends_30 ?_
      obtain ⟨hh5, hq⟩ := q_gd hq
      refine va_iald hx hb K.1 hP 2 0 rfl rfl (vp_in_iff.mpr hh5) dX4_ends_31 ?_
      obtain ⟨hh6, hq⟩ := q_gd hq
      refine va_iast hx hb K.1 hP hD hS 2 0 rfl rfl (vp_in_iff.mpr hh6) dX4_ends_32 (fun H locs hP hD hS => ?_)
      obtain ⟨f7, ef7⟩ : ∃ y, y = upd up v2.toNatClampNeg (up (v2 + 388).toNatClampNeg) := ⟨_, rfl⟩
      have hq := q_let hq ef7
      have hP : va_P G vwCl [(jo, .inr (4, [.ref js, .ref jp, .ref ja, .ref jk, .int un, .ref jt, .int uy, .int uw, .ref jb, .int uq, .int uz])), (js, .inl (g 0, 388, .inl us)), (jp, .inl (g 0, 1552, .inl f7)), (ja, .inl (g 0, 388, .inl ua)), (jk, .inl (g 0, 97, .inl uk)), (jt, .inl (g 0, 150, .inl ut)), (jb, .inl (g 0, 1000, .inl ub))] H := by rw [ef7]; exact hP
      have hD : va_D A [(jo, .inr (4, [.ref js, .ref jp, .ref ja, .ref jk, .int un, .ref jt, .int uy, .int uw, .ref jb, .int uq, .int uz])), (js, .inl (g 0, 388, .inl us)), (jp, .inl (g 0, 1552, .inl f7)), (ja, .inl (g 0, 388, .inl ua)), (jk, .inl (g 0, 97, .inl uk)), (jt, .inl (g 0, 150, .inl ut)), (jb, .inl (g 0, 1000, .inl ub))] := by rw [ef7]; exact hD
      obtain ⟨x8, ex8⟩ : ∃ y : Int32, y = (v2 : Int32) + 1 := ⟨_, rfl⟩
      have hq := q_let hq ex8
      refine lv_iinc (v := x8) (lv' := [(2, .int x8), (0, .ref jo), (1, .int v1)]) hx hb dX4_ends_33 hl (k := 2) rfl (by rw [ex8]; rfl) (by decide) rfl (fun ls hl => ?_)
      refine lv_goto (tgt := 10) hx hb dX4_ends_36 (by decide) ?_
      exact ih f7 x8 hq _ _ hP hD hS ls (lv_sub hl [1, 2, 0] rfl)
def F_X4_ends (un : Int32) (uw : Int32) (up : Nat → Int32) (ua : Nat → Int32) (p1 : Int32) : Option (Int32 × Int32 × Int32 × (Nat → Int32)) := if un = 4 then (F_X4_ends_10 un uw ua p1 2000 up 0) else (F_X4_ends_49 un uw up ua p1)
set_option maxHeartbeats 4000000 in
set_option maxRecDepth 100000 in
theorem k_X4_ends (l : Launch) (G : va_G) (g : Nat → ClassId) (jo js jp ja jk jt jb : Nat) (un : Int32) (uy : Int32) (uw : Int32) (uq : Int32) (uz : Int32) (us : Nat → Int32) (up : Nat → Int32) (ua : Nat → Int32) (uk : Nat → Int32) (ut : Nat → Int32) (ub : Nat → Int32) (p1 : Int32) (res : Int32 × Int32 × Int32 × (Nat → Int32)) (hq : F_X4_ends un uw up ua p1 = some res) : rwC l yX4_ends wsX4_ends (rmF 1 21) G g [.ref jo, .int p1] [(jo, .inr (4, [.ref js, .ref jp, .ref ja, .ref jk, .int un, .ref jt, .int uy, .int uw, .ref jb, .int uq, .int uz])), (js, .inl (g 0, 388, .inl us)), (jp, .inl (g 0, 1552, .inl up)), (ja, .inl (g 0, 388, .inl ua)), (jk, .inl (g 0, 97, .inl uk)), (jt, .inl (g 0, 150, .inl ut)), (jb, .inl (g 0, 1000, .inl ub))] (some (.int res.1)) [(jo, .inr (4, [.ref js, .ref jp, .ref ja, .ref jk, .int res.2.1, .ref jt, .int uy, .int res.2.2.1, .ref jb, .int uq, .int uz])), (js, .inl (g 0, 388, .inl us)), (jp, .inl (g 0, 1552, .inl res.2.2.2)), (ja, .inl (g 0, 388, .inl ua)), (jk, .inl (g 0, 97, .inl uk)), (jt, .inl (g 0, 150, .inl ut)), (jb, .inl (g 0, 1000, .inl ub))] := by
  refine rwC.of (cc := cX4_ends) (maxL := 3) (ret := (some .int)) (by decide) rfl (Nat.le_of_ble_eq_true rfl) ?_
  intro p e s m below meth c ls A X K hA hP hD hS hl
  obtain ⟨hx, hb, hml, hr, hown, hts, hk⟩ := id X
  have hl : lv_has ls 3 [(0, .ref jo), (1, .int p1)] := hl
  unfold F_X4_ends at hq
  refine lv_aload_n hx hb dX4_ends_0 rfl (lv_at hl 0 rfl) ?_
  refine va_get (D := G) (ci := 4) (v := .int un) (C := RX4) (T := TX4) (N := 11) hx hb hts in_X4_ends_X4 hown K.1 hP 0 rfl rfl 4 (by decide) (hts _ (List.mem_of_getElem? (i := 1) rfl)) (fun _ h9 => h9) rfl dX4_ends_1 ?_
  refine lv_iconst (v := 4) hx hb dX4_ends_4 (by decide) ?_
  refine lv_icmp_ne (tgt := 49) hx hb dX4_ends_5 (by decide) (fun c1 => ?_) (fun c1 => ?_)
  · have hq := q_if_f hq c1
    exact w_X4_ends_49 X K hA jo js jp ja jk jt jb uy uq uz us uk ut ub un uw up ua p1 _ hq _ _ hP hD hS ls (lv_sub hl [0, 1] rfl)
  · have hq := q_if_t hq c1
    refine lv_iconst (v := 0) hx hb dX4_ends_8 (by decide) ?_
    refine lv_istore_n (lv' := [(2, .int 0), (0, .ref jo), (1, .int p1)]) hx hb dX4_ends_9 rfl hl (by decide) rfl (fun ls hl => ?_)
    exact w_X4_ends_10 X K hA jo js jp ja jk jt jb uy uq uz us uk ut ub un uw ua p1 _ 2000 up 0 hq _ _ hP hD hS ls (lv_sub hl [1, 2, 0] rfl)
theorem hd_X4_in : ynm yX4_in 3 := by unfold ynm; decide +kernel
def F_X4_isCurve (p1 : Int32) : Option (Int32) := (F_X4_in p1 0 3).bind fun r1 => vgd (r1 = 0 ∨ r1 = 1) <| some (r1)
set_option maxHeartbeats 4000000 in
set_option maxRecDepth 100000 in
theorem k_X4_isCurve (l : Launch) (G : va_G) (g : Nat → ClassId) (p1 : Int32) (res : Int32) (hq : F_X4_isCurve p1 = some res) : roC l yX4_isCurve wsX4_isCurve (rmF 1 22) G g [.int p1] [] (some (.int res)) := by
  refine roC.of (cc := cX4_isCurve) (maxL := 1) (ret := (some .boolean)) (by decide) rfl (Nat.le_of_ble_eq_true rfl) ?_
  intro p e s m below meth c ls X K hP hl
  obtain ⟨hx, hb, hml, hr, hown, hts, hk⟩ := id X
  have hl : lv_has ls 1 [(0, .int p1)] := hl
  unfold F_X4_isCurve at hq
  refine lv_iload_n hx hb dX4_isCurve_0 rfl (lv_at hl 0 rfl) ?_
  refine lv_iconst (v := 0) hx hb dX4_isCurve_1 (by decide) ?_
  refine lv_iconst (v := 3) hx hb dX4_isCurve_2 (by decide) ?_
  obtain ⟨r1, hh2, hq⟩ := q_bd hq
  refine roS (As := [.int p1, .int 0, .int 3]) (rest := []) X K (k_X4_in l G g p1 0 3 _ hh2) hd_X4_in gX4_isCurve_X4_in hP hl.1 dX4_isCurve_3 rfl rfl ⟨Nat.le_of_ble_eq_true rfl, Nat.le_of_ble_eq_true rfl⟩ rfl (Nat.le_of_ble_eq_true rfl) ⟨Nat.zero_le _, Nat.zero_le _⟩ ?_
  obtain ⟨hh3, hq⟩ := q_gd hq
  obtain rfl := q_rt hq
  exact ro_zret hx hb hr (nz_b hh3) hk dX4_isCurve_6
theorem in_X4_many_X4 : ∀ w ∈ wsX40, w ∈ wsX4_many := fun _ h => List.mem_cons_of_mem _ (List.mem_append_right _ h)
def F_X4_many (us : Nat → Int32) (p1 : Int32) : Option (Int32) := vgd (ix ((97 : Int32) * p1) 388) <| some (us ((97 : Int32) * p1).toNatClampNeg)
set_option maxHeartbeats 4000000 in
set_option maxRecDepth 100000 in
theorem k_X4_many (l : Launch) (G : va_G) (g : Nat → ClassId) (jo js jp ja jk jt jb : Nat) (un : Int32) (uy : Int32) (uw : Int32) (uq : Int32) (uz : Int32) (us : Nat → Int32) (up : Nat → Int32) (ua : Nat → Int32) (uk : Nat → Int32) (ut : Nat → Int32) (ub : Nat → Int32) (p1 : Int32) (res : Int32) (hq : F_X4_many us p1 = some res) : roC l yX4_many wsX4_many (rmF 0 0) G g [.ref jo, .int p1] [(jo, .inr (4, [.ref js, .ref jp, .ref ja, .ref jk, .int un, .ref jt, .int uy, .int uw, .ref jb, .int uq, .int uz])), (js, .inl (g 0, 388, .inl us)), (jp, .inl (g 0, 1552, .inl up)), (ja, .inl (g 0, 388, .inl ua)), (jk, .inl (g 0, 97, .inl uk)), (jt, .inl (g 0, 150, .inl ut)), (jb, .inl (g 0, 1000, .inl ub))] (some (.int res)) := by
  refine roC.of (cc := cX4_many) (maxL := 2) (ret := (some .int)) (by decide) rfl (Nat.le_of_ble_eq_true rfl) ?_
  intro p e s m below meth c ls X K hP hl
  obtain ⟨hx, hb, hml, hr, hown, hts, hk⟩ := id X
  have hl : lv_has ls 2 [(0, .ref jo), (1, .int p1)] := hl
  unfold F_X4_many at hq
  refine lv_aload_n hx hb dX4_many_0 rfl (lv_at hl 0 rfl) ?_
  refine va_get (D := G) (ci := 4) (v := .ref js) (C := RX4) (T := TX4) (N := 11) hx hb hts in_X4_many_X4 hown K.1 hP 0 rfl rfl 0 (by decide) (hts _ (List.mem_of_getElem? (i := 1) rfl)) (fun _ h9 => h9) rfl dX4_many_1 ?_
  refine lv_bipush (v := 97) hx hb dX4_many_4 (by decide) ?_
  refine lv_iload_n hx hb dX4_many_6 rfl (lv_at hl 1 rfl) ?_
  refine lv_imul hx hb dX4_many_7 ?_
  obtain ⟨hh1, hq⟩ := q_gd hq
  refine va_iald hx hb K.1 hP 1 0 rfl rfl (vp_in_iff.mpr hh1) dX4_many_8 ?_
  obtain rfl := q_rt hq
  exact ro_iret hx hb hr hk dX4_many_9
theorem hd_X4_isCurve : ynm yX4_isCurve 1 := by unfold ynm; decide +kernel
theorem hd_X4_many : ynm yX4_many 1 := by unfold ynm; decide +kernel
def F_X4_isKey (us : Nat → Int32) (p1 : Int32) (p2 : Int32) : Option (Int32) := (F_X4_isCurve p1).bind fun r1 => if r1 = 0 then (some (0)) else ((F_X4_many us p1).bind fun r4 => (F_X4_in p2 0 (r4 - 1)).bind fun r6 => if r6 = 0 then (some (0)) else (some (1)))
set_option maxHeartbeats 4000000 in
set_option maxRecDepth 100000 in
theorem k_X4_isKey (l : Launch) (G : va_G) (g : Nat → ClassId) (jo js jp ja jk jt jb : Nat) (un : Int32) (uy : Int32) (uw : Int32) (uq : Int32) (uz : Int32) (us : Nat → Int32) (up : Nat → Int32) (ua : Nat → Int32) (uk : Nat → Int32) (ut : Nat → Int32) (ub : Nat → Int32) (p1 : Int32) (p2 : Int32) (res : Int32) (hq : F_X4_isKey us p1 p2 = some res) : roC l yX4_isKey wsX4_isKey (rmF 2 42) G g [.ref jo, .int p1, .int p2] [(jo, .inr (4, [.ref js, .ref jp, .ref ja, .ref jk, .int un, .ref jt, .int uy, .int uw, .ref jb, .int uq, .int uz])), (js, .inl (g 0, 388, .inl us)), (jp, .inl (g 0, 1552, .inl up)), (ja, .inl (g 0, 388, .inl ua)), (jk, .inl (g 0, 97, .inl uk)), (jt, .inl (g 0, 150, .inl ut)), (jb, .inl (g 0, 1000, .inl ub))] (some (.int res)) := by
  refine roC.of (cc := cX4_isKey) (maxL := 3) (ret := (some .boolean)) (by decide) rfl (Nat.le_of_ble_eq_true rfl) ?_
  intro p e s m below meth c ls X K hP hl
  obtain ⟨hx, hb, hml, hr, hown, hts, hk⟩ := id X
  have hl : lv_has ls 3 [(0, .ref jo), (1, .int p1), (2, .int p2)] := hl
  unfold F_X4_isKey at hq
  refine lv_iload_n hx hb dX4_isKey_0 rfl (lv_at hl 1 rfl) ?_
  obtain ⟨r1, hh2, hq⟩ := q_bd hq
  refine roS (As := [.int p1]) (rest := []) X K (k_X4_isCurve l G g p1 _ hh2) hd_X4_isCurve gX4_isKey_X4_isCurve (hP.sub [] rfl) hl.1 dX4_isKey_1 rfl rfl ⟨Nat.le_of_ble_eq_true rfl, Nat.le_of_ble_eq_true rfl⟩ rfl (Nat.le_of_ble_eq_true rfl) ⟨Nat.zero_le _, Nat.zero_le _⟩ ?_
  refine lv_if_eq (tgt := 26) hx hb dX4_isKey_4 (by decide) (fun c3 => ?_) (fun c3 => ?_)
  · have hq := q_if_t hq c3
    refine lv_iconst (v := 0) hx hb dX4_isKey_26 (by decide) ?_
    obtain rfl := q_rt hq
    exact ro_zret hx hb hr nz_0 hk dX4_isKey_27
  · have hq := q_if_f hq c3
    refine lv_iload_n hx hb dX4_isKey_7 rfl (lv_at hl 2 rfl) ?_
    refine lv_iconst (v := 0) hx hb dX4_isKey_8 (by decide) ?_
    refine lv_aload_n hx hb dX4_isKey_9 rfl (lv_at hl 0 rfl) ?_
    refine lv_iload_n hx hb dX4_isKey_10 rfl (lv_at hl 1 rfl) ?_
    obtain ⟨r4, hh5, hq⟩ := q_bd hq
    refine roV (ci := 4) (As := [.int p1]) (rest := [.int 0, .int p2]) X K (k_X4_many l G g jo js jp ja jk jt jb un uy uw uq uz us up ua uk ut ub p1 _ hh5) hd_X4_many gX4_isKey_X4_many hP hl.1 dX4_isKey_11 rfl rfl ⟨Nat.le_of_ble_eq_true rfl, Nat.le_of_ble_eq_true rfl⟩ rfl rfl rfl (Nat.le_of_ble_eq_true rfl) ⟨Nat.zero_le _, Nat.zero_le _⟩ ?_
    refine lv_iconst (v := 1) hx hb dX4_isKey_14 (by decide) ?_
    refine lv_isub hx hb dX4_isKey_15 ?_
    obtain ⟨r6, hh7, hq⟩ := q_bd hq
    refine roS (As := [.int p2, .int 0, .int (r4 - 1)]) (rest := []) X K (k_X4_in l G g p2 0 (r4 - 1) _ hh7) hd_X4_in gX4_isKey_X4_in (hP.sub [] rfl) hl.1 dX4_isKey_16 rfl rfl ⟨Nat.le_of_ble_eq_true rfl, Nat.le_of_ble_eq_true rfl⟩ rfl (Nat.le_of_ble_eq_true rfl) ⟨Nat.zero_le _, Nat.zero_le _⟩ ?_
    refine lv_if_eq (tgt := 26) hx hb dX4_isKey_19 (by decide) (fun c8 => ?_) (fun c8 => ?_)
    · have hq := q_if_t hq c8
      refine lv_iconst (v := 0) hx hb dX4_isKey_26 (by decide) ?_
      obtain rfl := q_rt hq
      exact ro_zret hx hb hr nz_0 hk dX4_isKey_27
    · have hq := q_if_f hq c8
      refine lv_iconst (v := 1) hx hb dX4_isKey_22 (by decide) ?_
      refine lv_goto (tgt := 27) hx hb dX4_isKey_23 (by decide) ?_
      obtain rfl := q_rt hq
      exact ro_zret hx hb hr nz_1 hk dX4_isKey_27
def F_X4_spot (p1 : Int32) (p2 : Int32) : Option (Int32) := some ((((97 : Int32) * p1) + 1) + ((6 : Int32) * p2))
set_option maxHeartbeats 4000000 in
set_option maxRecDepth 100000 in
theorem k_X4_spot (l : Launch) (G : va_G) (g : Nat → ClassId) (p1 : Int32) (p2 : Int32) (res : Int32) (hq : F_X4_spot p1 p2 = some res) : roC l yX4_spot wsX4_spot (rmF 0 0) G g [.int p1, .int p2] [] (some (.int res)) := by
  refine roC.of (cc := cX4_spot) (maxL := 2) (ret := (some .int)) (by decide) rfl (Nat.le_of_ble_eq_true rfl) ?_
  intro p e s m below meth c ls X K hP hl
  obtain ⟨hx, hb, hml, hr, hown, hts, hk⟩ := id X
  have hl : lv_has ls 2 [(0, .int p1), (1, .int p2)] := hl
  unfold F_X4_spot at hq
  refine lv_bipush (v := 97) hx hb dX4_spot_0 (by decide) ?_
  refine lv_iload_n hx hb dX4_spot_2 rfl (lv_at hl 0 rfl) ?_
  refine lv_imul hx hb dX4_spot_3 ?_
  refine lv_iconst (v := 1) hx hb dX4_spot_4 (by decide) ?_
  refine lv_iadd hx hb dX4_spot_5 ?_
  refine lv_bipush (v := 6) hx hb dX4_spot_6 (by decide) ?_
  refine lv_iload_n hx hb dX4_spot_8 rfl (lv_at hl 1 rfl) ?_
  refine lv_imul hx hb dX4_spot_9 ?_
  refine lv_iadd hx hb dX4_spot_10 ?_
  obtain rfl := q_rt hq
  exact ro_iret hx hb hr hk dX4_spot_11
theorem hd_X4_spot : ynm yX4_spot 2 := by unfold ynm; decide +kernel
theorem in_X4_of_X4 : ∀ w ∈ wsX40, w ∈ wsX4_of := fun _ h => List.mem_cons_of_mem _ (List.mem_append_right _ h)
def F_X4_of (us : Nat → Int32) (p1 : Int32) (p2 : Int32) (p3 : Int32) : Option (Int32) := (F_X4_spot p1 p2).bind fun r1 => vgd (ix (r1 + p3) 388) <| some (us (r1 + p3).toNatClampNeg)
set_option maxHeartbeats 4000000 in
set_option maxRecDepth 100000 in
theorem k_X4_of (l : Launch) (G : va_G) (g : Nat → ClassId) (jo js jp ja jk jt jb : Nat) (un : Int32) (uy : Int32) (uw : Int32) (uq : Int32) (uz : Int32) (us : Nat → Int32) (up : Nat → Int32) (ua : Nat → Int32) (uk : Nat → Int32) (ut : Nat → Int32) (ub : Nat → Int32) (p1 : Int32) (p2 : Int32) (p3 : Int32) (res : Int32) (hq : F_X4_of us p1 p2 p3 = some res) : roC l yX4_of wsX4_of (rmF 1 21) G g [.ref jo, .int p1, .int p2, .int p3] [(jo, .inr (4, [.ref js, .ref jp, .ref ja, .ref jk, .int un, .ref jt, .int uy, .int uw, .ref jb, .int uq, .int uz])), (js, .inl (g 0, 388, .inl us)), (jp, .inl (g 0, 1552, .inl up)), (ja, .inl (g 0, 388, .inl ua)), (jk, .inl (g 0, 97, .inl uk)), (jt, .inl (g 0, 150, .inl ut)), (jb, .inl (g 0, 1000, .inl ub))] (some (.int res)) := by
  refine roC.of (cc := cX4_of) (maxL := 4) (ret := (some .int)) (by decide) rfl (Nat.le_of_ble_eq_true rfl) ?_
  intro p e s m below meth c ls X K hP hl
  obtain ⟨hx, hb, hml, hr, hown, hts, hk⟩ := id X
  have hl : lv_has ls 4 [(0, .ref jo), (1, .int p1), (2, .int p2), (3, .int p3)] := hl
  unfold F_X4_of at hq
  refine lv_aload_n hx hb dX4_of_0 rfl (lv_at hl 0 rfl) ?_
  refine va_get (D := G) (ci := 4) (v := .ref js) (C := RX4) (T := TX4) (N := 11) hx hb hts in_X4_of_X4 hown K.1 hP 0 rfl rfl 0 (by decide) (hts _ (List.mem_of_getElem? (i := 1) rfl)) (fun _ h9 => h9) rfl dX4_of_1 ?_
  refine lv_iload_n hx hb dX4_of_4 rfl (lv_at hl 1 rfl) ?_
  refine lv_iload_n hx hb dX4_of_5 rfl (lv_at hl 2 rfl) ?_
  obtain ⟨r1, hh2, hq⟩ := q_bd hq
  refine roS (As := [.int p1, .int p2]) (rest := [.ref js]) X K (k_X4_spot l G g p1 p2 _ hh2) hd_X4_spot gX4_of_X4_spot (hP.sub [] rfl) hl.1 dX4_of_6 rfl rfl ⟨Nat.le_of_ble_eq_true rfl, Nat.le_of_ble_eq_true rfl⟩ rfl (Nat.le_of_ble_eq_true rfl) ⟨Nat.zero_le _, Nat.zero_le _⟩ ?_
  refine lv_iload_n hx hb dX4_of_9 rfl (lv_at hl 3 rfl) ?_
  refine lv_iadd hx hb dX4_of_10 ?_
  obtain ⟨hh3, hq⟩ := q_gd hq
  refine va_iald hx hb K.1 hP 1 0 rfl rfl (vp_in_iff.mpr hh3) dX4_of_11 ?_
  obtain rfl := q_rt hq
  exact ro_iret hx hb hr hk dX4_of_12
def F_X4_isFrame (p1 : Int32) : Option (Int32) := (F_X4_in p1 0 999).bind fun r1 => vgd (r1 = 0 ∨ r1 = 1) <| some (r1)
set_option maxHeartbeats 4000000 in
set_option maxRecDepth 100000 in
theorem k_X4_isFrame (l : Launch) (G : va_G) (g : Nat → ClassId) (p1 : Int32) (res : Int32) (hq : F_X4_isFrame p1 = some res) : roC l yX4_isFrame wsX4_isFrame (rmF 1 22) G g [.int p1] [] (some (.int res)) := by
  refine roC.of (cc := cX4_isFrame) (maxL := 1) (ret := (some .boolean)) (by decide) rfl (Nat.le_of_ble_eq_true rfl) ?_
  intro p e s m below meth c ls X K hP hl
  obtain ⟨hx, hb, hml, hr, hown, hts, hk⟩ := id X
  have hl : lv_has ls 1 [(0, .int p1)] := hl
  unfold F_X4_isFrame at hq
  refine lv_iload_n hx hb dX4_isFrame_0 rfl (lv_at hl 0 rfl) ?_
  refine lv_iconst (v := 0) hx hb dX4_isFrame_1 (by decide) ?_
  refine lv_sipush (v := 999) hx hb dX4_isFrame_2 (by decide) ?_
  obtain ⟨r1, hh2, hq⟩ := q_bd hq
  refine roS (As := [.int p1, .int 0, .int 999]) (rest := []) X K (k_X4_in l G g p1 0 999 _ hh2) hd_X4_in gX4_isFrame_X4_in hP hl.1 dX4_isFrame_5 rfl rfl ⟨Nat.le_of_ble_eq_true rfl, Nat.le_of_ble_eq_true rfl⟩ rfl (Nat.le_of_ble_eq_true rfl) ⟨Nat.zero_le _, Nat.zero_le _⟩ ?_
  obtain ⟨hh3, hq⟩ := q_gd hq
  obtain rfl := q_rt hq
  exact ro_zret hx hb hr (nz_b hh3) hk dX4_isFrame_8
def F_X4_isValue (p1 : Int32) : Option (Int32) := (F_X4_in p1 (-9999) 9999).bind fun r1 => vgd (r1 = 0 ∨ r1 = 1) <| some (r1)
set_option maxHeartbeats 4000000 in
set_option maxRecDepth 100000 in
theorem k_X4_isValue (l : Launch) (G : va_G) (g : Nat → ClassId) (p1 : Int32) (res : Int32) (hq : F_X4_isValue p1 = some res) : roC l yX4_isValue wsX4_isValue (rmF 1 22) G g [.int p1] [] (some (.int res)) := by
  refine roC.of (cc := cX4_isValue) (maxL := 1) (ret := (some .boolean)) (by decide) rfl (Nat.le_of_ble_eq_true rfl) ?_
  intro p e s m below meth c ls X K hP hl
  obtain ⟨hx, hb, hml, hr, hown, hts, hk⟩ := id X
  have hl : lv_has ls 1 [(0, .int p1)] := hl
  unfold F_X4_isValue at hq
  refine lv_iload_n hx hb dX4_isValue_0 rfl (lv_at hl 0 rfl) ?_
  refine lv_sipush (v := (-9999)) hx hb dX4_isValue_1 (by decide) ?_
  refine lv_sipush (v := 9999) hx hb dX4_isValue_4 (by decide) ?_
  obtain ⟨r1, hh2, hq⟩ := q_bd hq
  refine roS (As := [.int p1, .int (-9999), .int 9999]) (rest := []) X K (k_X4_in l G g p1 (-9999) 9999 _ hh2) hd_X4_in gX4_isValue_X4_in hP hl.1 dX4_isValue_7 rfl rfl ⟨Nat.le_of_ble_eq_true rfl, Nat.le_of_ble_eq_true rfl⟩ rfl (Nat.le_of_ble_eq_true rfl) ⟨Nat.zero_le _, Nat.zero_le _⟩ ?_
  obtain ⟨hh3, hq⟩ := q_gd hq
  obtain rfl := q_rt hq
  exact ro_zret hx hb hr (nz_b hh3) hk dX4_isValue_10
theorem hd_X4_of : ynm yX4_of 3 := by unfold ynm; decide +kernel
def F_X4_keyAt_2 (us : Nat → Int32) (v1 : Int32) (v2 : Int32) : Nat → Int32 → Option (Int32)
  | 0, _ => none
  | n + 1, v3 => (F_X4_many us v1).bind fun r4 => if r4 ≤ v3 then (some ((-1))) else ((F_X4_of us v1 v3 0).bind fun r7 => if r7 = v2 then (some (v3)) else (vlet ((v3 : Int32) + 1) fun x10 => F_X4_keyAt_2 us v1 v2 n x10))
set_option maxHeartbeats 4000000 in
set_option maxRecDepth 100000 in
theorem w_X4_keyAt_2 {p : Program} {l : Launch} {e : Env} {s : State} {m : MethodId} {args : Array Value} {below : List Frame} {meth : Method} {c : Code} {G : va_G} {g : Nat → ClassId} (X : cx p s m args meth c cX4_keyAt 4 (some .int) RX4 wsX4_keyAt) (K : amb G g s) (jo js jp ja jk jt jb : Nat) (un : Int32) (uy : Int32) (uw : Int32) (uq : Int32) (uz : Int32) (up : Nat → Int32) (ua : Nat → Int32) (uk : Nat → Int32) (ut : Nat → Int32) (ub : Nat → Int32) (us : Nat → Int32) (v1 : Int32) (v2 : Int32) (hP : va_P G vwCl [(jo, .inr (4, [.ref js, .ref jp, .ref ja, .ref jk, .int un, .ref jt, .int uy, .int uw, .ref jb, .int uq, .int uz])), (js, .inl (g 0, 388, .inl us)), (jp, .inl (g 0, 1552, .inl up)), (ja, .inl (g 0, 388, .inl ua)), (jk, .inl (g 0, 97, .inl uk)), (jt, .inl (g 0, 150, .inl ut)), (jb, .inl (g 0, 1000, .inl ub))] s.heap) (res : Int32) : ∀ (n : Nat) (v3 : Int32), F_X4_keyAt_2 us v1 v2 n v3 = some res → ∀ (ls : Array Slot), lv_has ls 4 [(0, .ref jo), (1, .int v1), (2, .int v2), (3, .int v3)] → W p l e (rmF 2 44) s m args below meth c s.heap [] 0 0 (roM below (some (.int res)) args s) (F0 m 2 ls []) := by
  obtain ⟨hx, hb, hml, hr, hown, hts, hk⟩ := id X
  intro n
  induction n with
  | zero => intro v3 hq; exact q_no hq
  | succ n ih =>
    intro v3 hq ls hl
    rw [F_X4_keyAt_2] at hq
    refine lv_iload_n hx hb dX4_keyAt_2 rfl (lv_at hl 3 rfl) ?_
    refine lv_aload_n hx hb dX4_keyAt_3 rfl (lv_at hl 0 rfl) ?_
    refine lv_iload_n hx hb dX4_keyAt_4 rfl (lv_at hl 1 rfl) ?_
    obtain ⟨r4, hh5, hq⟩ := q_bd hq
    refine roV (ci := 4) (As := [.int v1]) (rest := [.int v3]) X K (k_X4_many l G g jo js jp ja jk jt jb un uy uw uq uz us up ua uk ut ub v1 _ hh5) hd_X4_many gX4_keyAt_X4_many hP hl.1 dX4_keyAt_5 rfl rfl ⟨Nat.le_of_ble_eq_true rfl, Nat.le_of_ble_eq_true rfl⟩ rfl rfl rfl (Nat.le_of_ble_eq_true rfl) ⟨Nat.zero_le _, Nat.zero_le _⟩ ?_
    refine lv_icmp_ge (tgt := 30) hx hb dX4_keyAt_8 (by decide) (fun c6 => ?_) (fun c6 => ?_)
    · have hq := q_if_t hq c6
      refine lv_iconst (v := (-1)) hx hb dX4_keyAt_30 (by decide) ?_
      obtain rfl := q_rt hq
      exact ro_iret hx hb hr hk dX4_keyAt_31
    · have hq := q_if_f hq c6
      refine lv_aload_n hx hb dX4_keyAt_11 rfl (lv_at hl 0 rfl) ?_
      refine lv_iload_n hx hb dX4_keyAt_12 rfl (lv_at hl 1 rfl) ?_
      refine lv_iload_n hx hb dX4_keyAt_13 rfl (lv_at hl 3 rfl) ?_
      refine lv_iconst (v := 0) hx hb dX4_keyAt_14 (by decide) ?_
      obtain ⟨r7, hh8, hq⟩ := q_bd hq
      refine roV (ci := 4) (As := [.int v1, .int v3, .int 0]) (rest := []) X K (k_X4_of l G g jo js jp ja jk jt jb un uy uw uq uz us up ua uk ut ub v1 v3 0 _ hh8) hd_X4_of gX4_keyAt_X4_of hP hl.1 dX4_keyAt_15 rfl rfl ⟨Nat.le_of_ble_eq_true rfl, Nat.le_of_ble_eq_true rfl⟩ rfl rfl rfl (Nat.le_of_ble_eq_true rfl) ⟨Nat.zero_le _, Nat.zero_le _⟩ ?_
      refine lv_iload_n hx hb dX4_keyAt_18 rfl (lv_at hl 2 rfl) ?_
      refine lv_icmp_ne (tgt := 24) hx hb dX4_keyAt_19 (by decide) (fun c9 => ?_) (fun c9 => ?_)
      · have hq := q_if_f hq c9
        obtain ⟨x10, ex10⟩ : ∃ y : Int32, y = (v3 : Int32) + 1 := ⟨_, rfl⟩
        have hq := q_let hq ex10
        refine lv_iinc (v := x10) (lv' := [(3, .int x10), (0, .ref jo), (1, .int v1), (2, .int v2)]) hx hb dX4_keyAt_24 hl (k := 3) rfl (by rw [ex10]; rfl) (by decide) rfl (fun ls hl => ?_)
        refine lv_goto (tgt := 2) hx hb dX4_keyAt_27 (by decide) ?_
        exact ih x10 hq ls (lv_sub hl [1, 2, 3, 0] rfl)
      · have hq := q_if_t hq c9
        refine lv_iload_n hx hb dX4_keyAt_22 rfl (lv_at hl 3 rfl) ?_
        obtain rfl := q_rt hq
        exact ro_iret hx hb hr hk dX4_keyAt_23
def F_X4_keyAt (us : Nat → Int32) (p1 : Int32) (p2 : Int32) : Option (Int32) := F_X4_keyAt_2 us p1 p2 2000 0
set_option maxHeartbeats 4000000 in
set_option maxRecDepth 100000 in
theorem k_X4_keyAt (l : Launch) (G : va_G) (g : Nat → ClassId) (jo js jp ja jk jt jb : Nat) (un : Int32) (uy : Int32) (uw : Int32) (uq : Int32) (uz : Int32) (us : Nat → Int32) (up : Nat → Int32) (ua : Nat → Int32) (uk : Nat → Int32) (ut : Nat → Int32) (ub : Nat → Int32) (p1 : Int32) (p2 : Int32) (res : Int32) (hq : F_X4_keyAt us p1 p2 = some res) : roC l yX4_keyAt wsX4_keyAt (rmF 2 44) G g [.ref jo, .int p1, .int p2] [(jo, .inr (4, [.ref js, .ref jp, .ref ja, .ref jk, .int un, .ref jt, .int uy, .int uw, .ref jb, .int uq, .int uz])), (js, .inl (g 0, 388, .inl us)), (jp, .inl (g 0, 1552, .inl up)), (ja, .inl (g 0, 388, .inl ua)), (jk, .inl (g 0, 97, .inl uk)), (jt, .inl (g 0, 150, .inl ut)), (jb, .inl (g 0, 1000, .inl ub))] (some (.int res)) := by
  refine roC.of (cc := cX4_keyAt) (maxL := 4) (ret := (some .int)) (by decide) rfl (Nat.le_of_ble_eq_true rfl) ?_
  intro p e s m below meth c ls X K hP hl
  obtain ⟨hx, hb, hml, hr, hown, hts, hk⟩ := id X
  have hl : lv_has ls 4 [(0, .ref jo), (1, .int p1), (2, .int p2)] := hl
  unfold F_X4_keyAt at hq
  refine lv_iconst (v := 0) hx hb dX4_keyAt_0 (by decide) ?_
  refine lv_istore_n (lv' := [(3, .int 0), (0, .ref jo), (1, .int p1), (2, .int p2)]) hx hb dX4_keyAt_1 rfl hl (by decide) rfl (fun ls hl => ?_)
  exact w_X4_keyAt_2 X K jo js jp ja jk jt jb un uy uw uq uz up ua uk ut ub us p1 p2 hP _ 2000 0 hq ls (lv_sub hl [1, 2, 3, 0] rfl)
def F_X4_hasLock_4 (us : Nat → Int32) (v1 : Int32) : Nat → Int32 → Int32 → Option (Int32)
  | 0, _, _ => none
  | n + 1, v2, v3 => (F_X4_many us v1).bind fun r4 => if r4 ≤ v3 then (vgd (v2 = 0 ∨ v2 = 1) <| some (v2)) else (if v2 = 0 then ((F_X4_of us v1 v3 5).bind fun r10 => if r10 = 1 then (vlet ((v3 : Int32) + 1) fun x14 => F_X4_hasLock_4 us v1 n 1 x14) else (vlet ((v3 : Int32) + 1) fun x13 => F_X4_hasLock_4 us v1 n 0 x13)) else (vlet ((v3 : Int32) + 1) fun x9 => F_X4_hasLock_4 us v1 n 1 x9))
set_option maxHeartbeats 4000000 in
set_option maxRecDepth 100000 in
theorem w_X4_hasLock_4 {p : Program} {l : Launch} {e : Env} {s : State} {m : MethodId} {args : Array Value} {below : List Frame} {meth : Method} {c : Code} {G : va_G} {g : Nat → ClassId} (X : cx p s m args meth c cX4_hasLock 4 (some .boolean) RX4 wsX4_hasLock) (K : amb G g s) (jo js jp ja jk jt jb : Nat) (un : Int32) (uy : Int32) (uw : Int32) (uq : Int32) (uz : Int32) (up : Nat → Int32) (ua : Nat → Int32) (uk : Nat → Int32) (ut : Nat → Int32) (ub : Nat → Int32) (us : Nat → Int32) (v1 : Int32) (hP : va_P G vwCl [(jo, .inr (4, [.ref js, .ref jp, .ref ja, .ref jk, .int un, .ref jt, .int uy, .int uw, .ref jb, .int uq, .int uz])), (js, .inl (g 0, 388, .inl us)), (jp, .inl (g 0, 1552, .inl up)), (ja, .inl (g 0, 388, .inl ua)), (jk, .inl (g 0, 97, .inl uk)), (jt, .inl (g 0, 150, .inl ut)), (jb, .inl (g 0, 1000, .inl ub))] s.heap) (res : Int32) : ∀ (n : Nat) (v2 : Int32) (v3 : Int32), F_X4_hasLock_4 us v1 n v2 v3 = some res → ∀ (ls : Array Slot), lv_has ls 4 [(0, .ref jo), (1, .int v1), (2, .int v2), (3, .int v3)] → W p l e (rmF 2 44) s m args below meth c s.heap [] 0 0 (roM below (some (.int res)) args s) (F0 m 4 ls []) := by
  obtain ⟨hx, hb, hml, hr, hown, hts, hk⟩ := id X
  intro n
  induction n with
  | zero => intro v2 v3 hq; exact q_no hq
  | succ n ih =>
    intro v2 v3 hq ls hl
    rw [F_X4_hasLock_4] at hq
    refine lv_iload_n hx hb dX4_hasLock_4 rfl (lv_at hl 3 rfl) ?_
    refine lv_aload_n hx hb dX4_hasLock_5 rfl (lv_at hl 0 rfl) ?_
    refine lv_iload_n hx hb dX4_hasLock_6 rfl (lv_at hl 1 rfl) ?_
    obtain ⟨r4, hh5, hq⟩ := q_bd hq
    refine roV (ci := 4) (As := [.int v1]) (rest := [.int v3]) X K (k_X4_many l G g jo js jp ja jk jt jb un uy uw uq uz us up ua uk ut ub v1 _ hh5) hd_X4_many gX4_hasLock_X4_many hP hl.1 dX4_hasLock_7 rfl rfl ⟨Nat.le_of_ble_eq_true rfl, Nat.le_of_ble_eq_true rfl⟩ rfl rfl rfl (Nat.le_of_ble_eq_true rfl) ⟨Nat.zero_le _, Nat.zero_le _⟩ ?_
    refine lv_icmp_ge (tgt := 40) hx hb dX4_hasLock_10 (by decide) (fun c6 => ?_) (fun c6 => ?_)
    · have hq := q_if_t hq c6
      refine lv_iload_n hx hb dX4_hasLock_40 rfl (lv_at hl 2 rfl) ?_
      obtain ⟨hh7, hq⟩ := q_gd hq
      obtain rfl := q_rt hq
      exact ro_zret hx hb hr (nz_b hh7) hk dX4_hasLock_41
    · have hq := q_if_f hq c6
      refine lv_iload_n hx hb dX4_hasLock_13 rfl (lv_at hl 2 rfl) ?_
      refine lv_if_ne (tgt := 28) hx hb dX4_hasLock_14 (by decide) (fun c8 => ?_) (fun c8 => ?_)
      · have hq := q_if_f hq c8
        refine lv_iconst (v := 1) hx hb dX4_hasLock_28 (by decide) ?_
        refine lv_goto (tgt := 33) hx hb dX4_hasLock_29 (by decide) ?_
        refine lv_istore_n (lv' := [(2, .int 1), (0, .ref jo), (1, .int v1), (3, .int v3)]) hx hb dX4_hasLock_33 rfl hl (by decide) rfl (fun ls hl => ?_)
        obtain ⟨x9, ex9⟩ : ∃ y : Int32, y = (v3 : Int32) + 1 := ⟨_, rfl⟩
        have hq := q_let hq ex9
        refine lv_iinc (v := x9) (lv' := [(3, .int x9), (2, .int 1), (0, .ref jo), (1, .int v1)]) hx hb dX4_hasLock_34 hl (k := 3) rfl (by rw [ex9]; rfl) (by decide) rfl (fun ls hl => ?_)
        refine lv_goto (tgt := 4) hx hb dX4_hasLock_37 (by decide) ?_
        exact ih 1 x9 hq ls (lv_sub hl [2, 3, 1, 0] rfl)
      · have hq := q_if_t hq c8
        refine lv_aload_n hx hb dX4_hasLock_17 rfl (lv_at hl 0 rfl) ?_
        refine lv_iload_n hx hb dX4_hasLock_18 rfl (lv_at hl 1 rfl) ?_
        refine lv_iload_n hx hb dX4_hasLock_19 rfl (lv_at hl 3 rfl) ?_
        refine lv_iconst (v := 5) hx hb dX4_hasLock_20 (by decide) ?_
        obtain ⟨r10, hh11, hq⟩ := q_bd hq
        refine roV (ci := 4) (As := [.int v1, .int v3, .int 5]) (rest := []) X K (k_X4_of l G g jo js jp ja jk jt jb un uy uw uq uz us up ua uk ut ub v1 v3 5 _ hh11) hd_X4_of gX4_hasLock_X4_of hP hl.1 dX4_hasLock_21 rfl rfl ⟨Nat.le_of_ble_eq_true rfl, Nat.le_of_ble_eq_true rfl⟩ rfl rfl rfl (Nat.le_of_ble_eq_true rfl) ⟨Nat.zero_le _, Nat.zero_le _⟩ ?_
        refine lv_iconst (v := 1) hx hb dX4_hasLock_24 (by decide) ?_
        refine lv_icmp_ne (tgt := 32) hx hb dX4_hasLock_25 (by decide) (fun c12 => ?_) (fun c12 => ?_)
        · have hq := q_if_f hq c12
          refine lv_iconst (v := 0) hx hb dX4_hasLock_32 (by decide) ?_
          refine lv_istore_n (lv' := [(2, .int 0), (0, .ref jo), (1, .int v1), (3, .int v3)]) hx hb dX4_hasLock_33 rfl hl (by decide) rfl (fun ls hl => ?_)
          obtain ⟨x13, ex13⟩ : ∃ y : Int32, y = (v3 : Int32) + 1 := ⟨_, rfl⟩
          have hq := q_let hq ex13
          refine lv_iinc (v := x13) (lv' := [(3, .int x13), (2, .int 0), (0, .ref jo), (1, .int v1)]) hx hb dX4_hasLock_34 hl (k := 3) rfl (by rw [ex13]; rfl) (by decide) rfl (fun ls hl => ?_)
          refine lv_goto (tgt := 4) hx hb dX4_hasLock_37 (by decide) ?_
          exact ih 0 x13 hq ls (lv_sub hl [2, 3, 1, 0] rfl)
        · have hq := q_if_t hq c12
          refine lv_iconst (v := 1) hx hb dX4_hasLock_28 (by decide) ?_
          refine lv_goto (tgt := 33) hx hb dX4_hasLock_29 (by decide) ?_
          refine lv_istore_n (lv' := [(2, .int 1), (0, .ref jo), (1, .int v1), (3, .int v3)]) hx hb dX4_hasLock_33 rfl hl (by decide) rfl (fun ls hl => ?_)
          obtain ⟨x14, ex14⟩ : ∃ y : Int32, y = (v3 : Int32) + 1 := ⟨_, rfl⟩
          have hq := q_let hq ex14
          refine lv_iinc (v := x14) (lv' := [(3, .int x14), (2, .int 1), (0, .ref jo), (1, .int v1)]) hx hb dX4_hasLock_34 hl (k := 3) rfl (by rw [ex14]; rfl) (by decide) rfl (fun ls hl => ?_)
          refine lv_goto (tgt := 4) hx hb dX4_hasLock_37 (by decide) ?_
          exact ih 1 x14 hq ls (lv_sub hl [2, 3, 1, 0] rfl)
def F_X4_hasLock (us : Nat → Int32) (p1 : Int32) : Option (Int32) := F_X4_hasLock_4 us p1 2000 0 0
set_option maxHeartbeats 4000000 in
set_option maxRecDepth 100000 in
theorem k_X4_hasLock (l : Launch) (G : va_G) (g : Nat → ClassId) (jo js jp ja jk jt jb : Nat) (un : Int32) (uy : Int32) (uw : Int32) (uq : Int32) (uz : Int32) (us : Nat → Int32) (up : Nat → Int32) (ua : Nat → Int32) (uk : Nat → Int32) (ut : Nat → Int32) (ub : Nat → Int32) (p1 : Int32) (res : Int32) (hq : F_X4_hasLock us p1 = some res) : roC l yX4_hasLock wsX4_hasLock (rmF 2 44) G g [.ref jo, .int p1] [(jo, .inr (4, [.ref js, .ref jp, .ref ja, .ref jk, .int un, .ref jt, .int uy, .int uw, .ref jb, .int uq, .int uz])), (js, .inl (g 0, 388, .inl us)), (jp, .inl (g 0, 1552, .inl up)), (ja, .inl (g 0, 388, .inl ua)), (jk, .inl (g 0, 97, .inl uk)), (jt, .inl (g 0, 150, .inl ut)), (jb, .inl (g 0, 1000, .inl ub))] (some (.int res)) := by
  refine roC.of (cc := cX4_hasLock) (maxL := 4) (ret := (some .boolean)) (by decide) rfl (Nat.le_of_ble_eq_true rfl) ?_
  intro p e s m below meth c ls X K hP hl
  obtain ⟨hx, hb, hml, hr, hown, hts, hk⟩ := id X
  have hl : lv_has ls 4 [(0, .ref jo), (1, .int p1)] := hl
  unfold F_X4_hasLock at hq
  refine lv_iconst (v := 0) hx hb dX4_hasLock_0 (by decide) ?_
  refine lv_istore_n (lv' := [(2, .int 0), (0, .ref jo), (1, .int p1)]) hx hb dX4_hasLock_1 rfl hl (by decide) rfl (fun ls hl => ?_)
  refine lv_iconst (v := 0) hx hb dX4_hasLock_2 (by decide) ?_
  refine lv_istore_n (lv' := [(3, .int 0), (2, .int 0), (0, .ref jo), (1, .int p1)]) hx hb dX4_hasLock_3 rfl hl (by decide) rfl (fun ls hl => ?_)
  exact w_X4_hasLock_4 X K jo js jp ja jk jt jb un uy uw uq uz up ua uk ut ub us p1 hP _ 2000 0 0 hq ls (lv_sub hl [2, 3, 1, 0] rfl)
def F_X4_tangent_117 (us : Nat → Int32) (v1 : Int32) (v2 : Int32) (v3 : Int32) (v4 : Int32) : Option (Int32) := (F_X4_of us v1 (v2 + 1) 0).bind fun r5 => (F_X4_of us v1 (v2 - 1) 0).bind fun r7 => vgd (¬ (r5 - r7) = 0) <| some (((1000 : Int32) * (v4 - v3)) / (r5 - r7))
set_option maxHeartbeats 4000000 in
set_option maxRecDepth 100000 in
theorem w_X4_tangent_117 {p : Program} {l : Launch} {e : Env} {s : State} {m : MethodId} {args : Array Value} {below : List Frame} {meth : Method} {c : Code} {G : va_G} {g : Nat → ClassId} (X : cx p s m args meth c cX4_tangent 8 (some .int) RX4 wsX4_tangent) (K : amb G g s) (jo js jp ja jk jt jb : Nat) (un : Int32) (uy : Int32) (uw : Int32) (uq : Int32) (uz : Int32) (up : Nat → Int32) (ua : Nat → Int32) (uk : Nat → Int32) (ut : Nat → Int32) (ub : Nat → Int32) (us : Nat → Int32) (v1 : Int32) (v2 : Int32) (v3 : Int32) (v4 : Int32) (hP : va_P G vwCl [(jo, .inr (4, [.ref js, .ref jp, .ref ja, .ref jk, .int un, .ref jt, .int uy, .int uw, .ref jb, .int uq, .int uz])), (js, .inl (g 0, 388, .inl us)), (jp, .inl (g 0, 1552, .inl up)), (ja, .inl (g 0, 388, .inl ua)), (jk, .inl (g 0, 97, .inl uk)), (jt, .inl (g 0, 150, .inl ut)), (jb, .inl (g 0, 1000, .inl ub))] s.heap) (res : Int32) (hq : F_X4_tangent_117 us v1 v2 v3 v4 = some res) : ∀ (ls : Array Slot), lv_has ls 8 [(0, .ref jo), (1, .int v1), (2, .int v2), (4, .int v3), (6, .int v4)] → W p l e (rmF 2 44) s m args below meth c s.heap [] 0 0 (roM below (some (.int res)) args s) (F0 m 117 ls []) := by
  obtain ⟨hx, hb, hml, hr, hown, hts, hk⟩ := id X
  intro ls hl
  unfold F_X4_tangent_117 at hq
  refine lv_sipush (v := 1000) hx hb dX4_tangent_117 (by decide) ?_
  refine lv_iload hx hb dX4_tangent_120 (lv_at hl 4 rfl) ?_
  refine lv_iload hx hb dX4_tangent_122 (lv_at hl 3 rfl) ?_
  refine lv_isub hx hb dX4_tangent_124 ?_
  refine lv_imul hx hb dX4_tangent_125 ?_
  refine lv_aload_n hx hb dX4_tangent_126 rfl (lv_at hl 0 rfl) ?_
  refine lv_iload_n hx hb dX4_tangent_127 rfl (lv_at hl 1 rfl) ?_
  refine lv_iload_n hx hb dX4_tangent_128 rfl (lv_at hl 2 rfl) ?_
  refine lv_iconst (v := 1) hx hb dX4_tangent_129 (by decide) ?_
  refine lv_iadd hx hb dX4_tangent_130 ?_
  refine lv_iconst (v := 0) hx hb dX4_tangent_131 (by decide) ?_
  obtain ⟨r5, hh6, hq⟩ := q_bd hq
  refine roV (ci := 4) (As := [.int v1, .int (v2 + 1), .int 0]) (rest := [.int ((1000 : Int32) * (v4 - v3))]) X K (k_X4_of l G g jo js jp ja jk jt jb un uy uw uq uz us up ua uk ut ub v1 (v2 + 1) 0 _ hh6) hd_X4_of gX4_tangent_X4_of hP hl.1 dX4_tangent_132 rfl rfl ⟨Nat.le_of_ble_eq_true rfl, Nat.le_of_ble_eq_true rfl⟩ rfl rfl rfl (Nat.le_of_ble_eq_true rfl) ⟨Nat.zero_le _, Nat.zero_le _⟩ ?_
  refine lv_aload_n hx hb dX4_tangent_135 rfl (lv_at hl 0 rfl) ?_
  refine lv_iload_n hx hb dX4_tangent_136 rfl (lv_at hl 1 rfl) ?_
  refine lv_iload_n hx hb dX4_tangent_137 rfl (lv_at hl 2 rfl) ?_
  refine lv_iconst (v := 1) hx hb dX4_tangent_138 (by decide) ?_
  refine lv_isub hx hb dX4_tangent_139 ?_
  refine lv_iconst (v := 0) hx hb dX4_tangent_140 (by decide) ?_
  obtain ⟨r7, hh8, hq⟩ := q_bd hq
  refine roV (ci := 4) (As := [.int v1, .int (v2 - 1), .int 0]) (rest := [.int r5, .int ((1000 : Int32) * (v4 - v3))]) X K (k_X4_of l G g jo js jp ja jk jt jb un uy uw uq uz us up ua uk ut ub v1 (v2 - 1) 0 _ hh8) hd_X4_of gX4_tangent_X4_of hP hl.1 dX4_tangent_141 rfl rfl ⟨Nat.le_of_ble_eq_true rfl, Nat.le_of_ble_eq_true rfl⟩ rfl rfl rfl (Nat.le_of_ble_eq_true rfl) ⟨Nat.zero_le _, Nat.zero_le _⟩ ?_
  refine lv_isub hx hb dX4_tangent_144 ?_
  obtain ⟨hh9, hq⟩ := q_gd hq
  refine lv_idiv hx hb dX4_tangent_145 hh9 ?_
  obtain rfl := q_rt hq
  exact ro_iret hx hb hr hk dX4_tangent_146
def F_X4_tangent_101 (us : Nat → Int32) (v1 : Int32) (v2 : Int32) (v3 : Int32) (v4 : Int32) (v5 : Int32) (v6 : Int32) : Option (Int32) := if v3 = 2 then (if v6 = 0 then (F_X4_tangent_117 us v1 v2 v4 v5) else (some (0))) else (F_X4_tangent_117 us v1 v2 v4 v5)
set_option maxHeartbeats 4000000 in
set_option maxRecDepth 100000 in
theorem w_X4_tangent_101 {p : Program} {l : Launch} {e : Env} {s : State} {m : MethodId} {args : Array Value} {below : List Frame} {meth : Method} {c : Code} {G : va_G} {g : Nat → ClassId} (X : cx p s m args meth c cX4_tangent 8 (some .int) RX4 wsX4_tangent) (K : amb G g s) (jo js jp ja jk jt jb : Nat) (un : Int32) (uy : Int32) (uw : Int32) (uq : Int32) (uz : Int32) (up : Nat → Int32) (ua : Nat → Int32) (uk : Nat → Int32) (ut : Nat → Int32) (ub : Nat → Int32) (us : Nat → Int32) (v1 : Int32) (v2 : Int32) (v3 : Int32) (v4 : Int32) (v5 : Int32) (v6 : Int32) (hP : va_P G vwCl [(jo, .inr (4, [.ref js, .ref jp, .ref ja, .ref jk, .int un, .ref jt, .int uy, .int uw, .ref jb, .int uq, .int uz])), (js, .inl (g 0, 388, .inl us)), (jp, .inl (g 0, 1552, .inl up)), (ja, .inl (g 0, 388, .inl ua)), (jk, .inl (g 0, 97, .inl uk)), (jt, .inl (g 0, 150, .inl ut)), (jb, .inl (g 0, 1000, .inl ub))] s.heap) (res : Int32) (hq : F_X4_tangent_101 us v1 v2 v3 v4 v5 v6 = some res) : ∀ (ls : Array Slot), lv_has ls 8 [(0, .ref jo), (1, .int v1), (2, .int v2), (3, .int v3), (4, .int v4), (6, .int v5)] → W p l e (rmF 2 44) s m args below meth c s.heap [] 0 0 (roM below (some (.int res)) args s) (F0 m 101 ls [.int v6]) := by
  obtain ⟨hx, hb, hml, hr, hown, hts, hk⟩ := id X
  intro ls hl
  unfold F_X4_tangent_101 at hq
  refine lv_istore (lv' := [(7, .int v6), (0, .ref jo), (1, .int v1), (2, .int v2), (3, .int v3), (4, .int v4), (6, .int v5)]) hx hb dX4_tangent_101 hl (by decide) rfl (fun ls hl => ?_)
  refine lv_iload_n hx hb dX4_tangent_103 rfl (lv_at hl 4 rfl) ?_
  refine lv_iconst (v := 2) hx hb dX4_tangent_104 (by decide) ?_
  refine lv_icmp_ne (tgt := 117) hx hb dX4_tangent_105 (by decide) (fun c7 => ?_) (fun c7 => ?_)
  · have hq := q_if_f hq c7
    exact w_X4_tangent_117 X K jo js jp ja jk jt jb un uy uw uq uz up ua uk ut ub us v1 v2 v4 v5 hP _ hq ls (lv_sub hl [1, 2, 3, 5, 6] rfl)
  · have hq := q_if_t hq c7
    refine lv_iload hx hb dX4_tangent_108 (lv_at hl 0 rfl) ?_
    refine lv_if_eq (tgt := 117) hx hb dX4_tangent_110 (by decide) (fun c8 => ?_) (fun c8 => ?_)
    · have hq := q_if_t hq c8
      exact w_X4_tangent_117 X K jo js jp ja jk jt jb un uy uw uq uz up ua uk ut ub us v1 v2 v4 v5 hP _ hq ls (lv_sub hl [1, 2, 3, 5, 6] rfl)
    · have hq := q_if_f hq c8
      refine lv_iconst (v := 0) hx hb dX4_tangent_113 (by decide) ?_
      refine lv_goto (tgt := 146) hx hb dX4_tangent_114 (by decide) ?_
      obtain rfl := q_rt hq
      exact ro_iret hx hb hr hk dX4_tangent_146
def F_X4_tangent_100 (us : Nat → Int32) (v1 : Int32) (v2 : Int32) (v3 : Int32) (v4 : Int32) (v5 : Int32) : Option (Int32) := F_X4_tangent_101 us v1 v2 v3 v4 v5 0
set_option maxHeartbeats 4000000 in
set_option maxRecDepth 100000 in
theorem w_X4_tangent_100 {p : Program} {l : Launch} {e : Env} {s : State} {m : MethodId} {args : Array Value} {below : List Frame} {meth : Method} {c : Code} {G : va_G} {g : Nat → ClassId} (X : cx p s m args meth c cX4_tangent 8 (some .int) RX4 wsX4_tangent) (K : amb G g s) (jo js jp ja jk jt jb : Nat) (un : Int32) (uy : Int32) (uw : Int32) (uq : Int32) (uz : Int32) (up : Nat → Int32) (ua : Nat → Int32) (uk : Nat → Int32) (ut : Nat → Int32) (ub : Nat → Int32) (us : Nat → Int32) (v1 : Int32) (v2 : Int32) (v3 : Int32) (v4 : Int32) (v5 : Int32) (hP : va_P G vwCl [(jo, .inr (4, [.ref js, .ref jp, .ref ja, .ref jk, .int un, .ref jt, .int uy, .int uw, .ref jb, .int uq, .int uz])), (js, .inl (g 0, 388, .inl us)), (jp, .inl (g 0, 1552, .inl up)), (ja, .inl (g 0, 388, .inl ua)), (jk, .inl (g 0, 97, .inl uk)), (jt, .inl (g 0, 150, .inl ut)), (jb, .inl (g 0, 1000, .inl ub))] s.heap) (res : Int32) (hq : F_X4_tangent_100 us v1 v2 v3 v4 v5 = some res) : ∀ (ls : Array Slot), lv_has ls 8 [(0, .ref jo), (1, .int v1), (2, .int v2), (3, .int v3), (4, .int v4), (6, .int v5)] → W p l e (rmF 2 44) s m args below meth c s.heap [] 0 0 (roM below (some (.int res)) args s) (F0 m 100 ls []) := by
  obtain ⟨hx, hb, hml, hr, hown, hts, hk⟩ := id X
  intro ls hl
  unfold F_X4_tangent_100 at hq
  refine lv_iconst (v := 0) hx hb dX4_tangent_100 (by decide) ?_
  exact w_X4_tangent_101 X K jo js jp ja jk jt jb un uy uw uq uz up ua uk ut ub us v1 v2 v3 v4 v5 0 hP _ hq ls (lv_sub hl [0, 1, 2, 3, 4, 5] rfl)
def F_X4_tangent_96 (us : Nat → Int32) (v1 : Int32) (v2 : Int32) (v3 : Int32) (v4 : Int32) (v5 : Int32) : Option (Int32) := F_X4_tangent_101 us v1 v2 v3 v4 v5 1
set_option maxHeartbeats 4000000 in
set_option maxRecDepth 100000 in
theorem w_X4_tangent_96 {p : Program} {l : Launch} {e : Env} {s : State} {m : MethodId} {args : Array Value} {below : List Frame} {meth : Method} {c : Code} {G : va_G} {g : Nat → ClassId} (X : cx p s m args meth c cX4_tangent 8 (some .int) RX4 wsX4_tangent) (K : amb G g s) (jo js jp ja jk jt jb : Nat) (un : Int32) (uy : Int32) (uw : Int32) (uq : Int32) (uz : Int32) (up : Nat → Int32) (ua : Nat → Int32) (uk : Nat → Int32) (ut : Nat → Int32) (ub : Nat → Int32) (us : Nat → Int32) (v1 : Int32) (v2 : Int32) (v3 : Int32) (v4 : Int32) (v5 : Int32) (hP : va_P G vwCl [(jo, .inr (4, [.ref js, .ref jp, .ref ja, .ref jk, .int un, .ref jt, .int uy, .int uw, .ref jb, .int uq, .int uz])), (js, .inl (g 0, 388, .inl us)), (jp, .inl (g 0, 1552, .inl up)), (ja, .inl (g 0, 388, .inl ua)), (jk, .inl (g 0, 97, .inl uk)), (jt, .inl (g 0, 150, .inl ut)), (jb, .inl (g 0, 1000, .inl ub))] s.heap) (res : Int32) (hq : F_X4_tangent_96 us v1 v2 v3 v4 v5 = some res) : ∀ (ls : Array Slot), lv_has ls 8 [(0, .ref jo), (1, .int v1), (2, .int v2), (3, .int v3), (4, .int v4), (6, .int v5)] → W p l e (rmF 2 44) s m args below meth c s.heap [] 0 0 (roM below (some (.int res)) args s) (F0 m 96 ls []) := by
  obtain ⟨hx, hb, hml, hr, hown, hts, hk⟩ := id X
  intro ls hl
  unfold F_X4_tangent_96 at hq
  refine lv_iconst (v := 1) hx hb dX4_tangent_96 (by decide) ?_
  refine lv_goto (tgt := 101) hx hb dX4_tangent_97 (by decide) ?_
  exact w_X4_tangent_101 X K jo js jp ja jk jt jb un uy uw uq uz up ua uk ut ub us v1 v2 v3 v4 v5 1 hP _ hq ls (lv_sub hl [0, 1, 2, 3, 4, 5] rfl)
def F_X4_tangent_82 (us : Nat → Int32) (v1 : Int32) (v2 : Int32) (v3 : Int32) (v4 : Int32) (v5 : Int32) (v6 : Int32) : Option (Int32) := if v4 < v5 then (F_X4_tangent_100 us v1 v2 v3 v4 v6) else (if v6 < v5 then (F_X4_tangent_100 us v1 v2 v3 v4 v6) else (F_X4_tangent_96 us v1 v2 v3 v4 v6))
set_option maxHeartbeats 4000000 in
set_option maxRecDepth 100000 in
theorem w_X4_tangent_82 {p : Program} {l : Launch} {e : Env} {s : State} {m : MethodId} {args : Array Value} {below : List Frame} {meth : Method} {c : Code} {G : va_G} {g : Nat → ClassId} (X : cx p s m args meth c cX4_tangent 8 (some .int) RX4 wsX4_tangent) (K : amb G g s) (jo js jp ja jk jt jb : Nat) (un : Int32) (uy : Int32) (uw : Int32) (uq : Int32) (uz : Int32) (up : Nat → Int32) (ua : Nat → Int32) (uk : Nat → Int32) (ut : Nat → Int32) (ub : Nat → Int32) (us : Nat → Int32) (v1 : Int32) (v2 : Int32) (v3 : Int32) (v4 : Int32) (v5 : Int32) (v6 : Int32) (hP : va_P G vwCl [(jo, .inr (4, [.ref js, .ref jp, .ref ja, .ref jk, .int un, .ref jt, .int uy, .int uw, .ref jb, .int uq, .int uz])), (js, .inl (g 0, 388, .inl us)), (jp, .inl (g 0, 1552, .inl up)), (ja, .inl (g 0, 388, .inl ua)), (jk, .inl (g 0, 97, .inl uk)), (jt, .inl (g 0, 150, .inl ut)), (jb, .inl (g 0, 1000, .inl ub))] s.heap) (res : Int32) (hq : F_X4_tangent_82 us v1 v2 v3 v4 v5 v6 = some res) : ∀ (ls : Array Slot), lv_has ls 8 [(0, .ref jo), (1, .int v1), (2, .int v2), (3, .int v3), (4, .int v4), (5, .int v5), (6, .int v6)] → W p l e (rmF 2 44) s m args below meth c s.heap [] 0 0 (roM below (some (.int res)) args s) (F0 m 82 ls []) := by
  obtain ⟨hx, hb, hml, hr, hown, hts, hk⟩ := id X
  intro ls hl
  unfold F_X4_tangent_82 at hq
  refine lv_iload hx hb dX4_tangent_82 (lv_at hl 4 rfl) ?_
  refine lv_iload hx hb dX4_tangent_84 (lv_at hl 5 rfl) ?_
  refine lv_icmp_lt (tgt := 100) hx hb dX4_tangent_86 (by decide) (fun c7 => ?_) (fun c7 => ?_)
  · have hq := q_if_t hq c7
    exact w_X4_tangent_100 X K jo js jp ja jk jt jb un uy uw uq uz up ua uk ut ub us v1 v2 v3 v4 v6 hP _ hq ls (lv_sub hl [0, 1, 2, 3, 4, 6] rfl)
  · have hq := q_if_f hq c7
    refine lv_iload hx hb dX4_tangent_89 (lv_at hl 6 rfl) ?_
    refine lv_iload hx hb dX4_tangent_91 (lv_at hl 5 rfl) ?_
    refine lv_icmp_lt (tgt := 100) hx hb dX4_tangent_93 (by decide) (fun c8 => ?_) (fun c8 => ?_)
    · have hq := q_if_t hq c8
      exact w_X4_tangent_100 X K jo js jp ja jk jt jb un uy uw uq uz up ua uk ut ub us v1 v2 v3 v4 v6 hP _ hq ls (lv_sub hl [0, 1, 2, 3, 4, 6] rfl)
    · have hq := q_if_f hq c8
      exact w_X4_tangent_96 X K jo js jp ja jk jt jb un uy uw uq uz up ua uk ut ub us v1 v2 v3 v4 v6 hP _ hq ls (lv_sub hl [0, 1, 2, 3, 4, 6] rfl)
def F_X4_tangent (us : Nat → Int32) (p1 : Int32) (p2 : Int32) : Option (Int32) := (F_X4_of us p1 p2 3).bind fun r1 => if r1 = 0 then ((F_X4_of us p1 p2 4).bind fun r16 => some (r16)) else (if p2 = 0 then (some (0)) else ((F_X4_many us p1).bind fun r5 => if p2 = (r5 - 1) then (some (0)) else ((F_X4_of us p1 (p2 - 1) 1).bind fun r8 => (F_X4_of us p1 p2 1).bind fun r10 => (F_X4_of us p1 (p2 + 1) 1).bind fun r12 => if r10 < r8 then (F_X4_tangent_82 us p1 p2 r1 r8 r10 r12) else (if r12 ≤ r10 then (F_X4_tangent_96 us p1 p2 r1 r8 r12) else (F_X4_tangent_82 us p1 p2 r1 r8 r10 r12)))))
set_option maxHeartbeats 4000000 in
set_option maxRecDepth 100000 in
theorem k_X4_tangent (l : Launch) (G : va_G) (g : Nat → ClassId) (jo js jp ja jk jt jb : Nat) (un : Int32) (uy : Int32) (uw : Int32) (uq : Int32) (uz : Int32) (us : Nat → Int32) (up : Nat → Int32) (ua : Nat → Int32) (uk : Nat → Int32) (ut : Nat → Int32) (ub : Nat → Int32) (p1 : Int32) (p2 : Int32) (res : Int32) (hq : F_X4_tangent us p1 p2 = some res) : roC l yX4_tangent wsX4_tangent (rmF 2 44) G g [.ref jo, .int p1, .int p2] [(jo, .inr (4, [.ref js, .ref jp, .ref ja, .ref jk, .int un, .ref jt, .int uy, .int uw, .ref jb, .int uq, .int uz])), (js, .inl (g 0, 388, .inl us)), (jp, .inl (g 0, 1552, .inl up)), (ja, .inl (g 0, 388, .inl ua)), (jk, .inl (g 0, 97, .inl uk)), (jt, .inl (g 0, 150, .inl ut)), (jb, .inl (g 0, 1000, .inl ub))] (some (.int res)) := by
  refine roC.of (cc := cX4_tangent) (maxL := 8) (ret := (some .int)) (by decide) rfl (Nat.le_of_ble_eq_true rfl) ?_
  intro p e s m below meth c ls X K hP hl
  obtain ⟨hx, hb, hml, hr, hown, hts, hk⟩ := id X
  have hl : lv_has ls 8 [(0, .ref jo), (1, .int p1), (2, .int p2)] := hl
  unfold F_X4_tangent at hq
  refine lv_aload_n hx hb dX4_tangent_0 rfl (lv_at hl 0 rfl) ?_
  refine lv_iload_n hx hb dX4_tangent_1 rfl (lv_at hl 1 rfl) ?_
  refine lv_iload_n hx hb dX4_tangent_2 rfl (lv_at hl 2 rfl) ?_
  refine lv_iconst (v := 3) hx hb dX4_tangent_3 (by decide) ?_
  obtain ⟨r1, hh2, hq⟩ := q_bd hq
  refine roV (ci := 4) (As := [.int p1, .int p2, .int 3]) (rest := []) X K (k_X4_of l G g jo js jp ja jk jt jb un uy uw uq uz us up ua uk ut ub p1 p2 3 _ hh2) hd_X4_of gX4_tangent_X4_of hP hl.1 dX4_tangent_4 rfl rfl ⟨Nat.le_of_ble_eq_true rfl, Nat.le_of_ble_eq_true rfl⟩ rfl rfl rfl (Nat.le_of_ble_eq_true rfl) ⟨Nat.zero_le _, Nat.zero_le _⟩ ?_
  refine lv_istore_n (lv' := [(3, .int r1), (0, .ref jo), (1, .int p1), (2, .int p2)]) hx hb dX4_tangent_7 rfl hl (by decide) rfl (fun ls hl => ?_)
  refine lv_iload_n hx hb dX4_tangent_8 rfl (lv_at hl 0 rfl) ?_
  refine lv_if_ne (tgt := 20) hx hb dX4_tangent_9 (by decide) (fun c3 => ?_) (fun c3 => ?_)
  · have hq := q_if_f hq c3
    refine lv_iload_n hx hb dX4_tangent_20 rfl (lv_at hl 3 rfl) ?_
    refine lv_if_eq (tgt := 35) hx hb dX4_tangent_21 (by decide) (fun c4 => ?_) (fun c4 => ?_)
    · have hq := q_if_t hq c4
      refine lv_iconst (v := 0) hx hb dX4_tangent_35 (by decide) ?_
      obtain rfl := q_rt hq
      exact ro_iret hx hb hr hk dX4_tangent_36
    · have hq := q_if_f hq c4
      refine lv_iload_n hx hb dX4_tangent_24 rfl (lv_at hl 3 rfl) ?_
      refine lv_aload_n hx hb dX4_tangent_25 rfl (lv_at hl 1 rfl) ?_
      refine lv_iload_n hx hb dX4_tangent_26 rfl (lv_at hl 2 rfl) ?_
      obtain ⟨r5, hh6, hq⟩ := q_bd hq
      refine roV (ci := 4) (As := [.int p1]) (rest := [.int p2]) X K (k_X4_many l G g jo js jp ja jk jt jb un uy uw uq uz us up ua uk ut ub p1 _ hh6) hd_X4_many gX4_tangent_X4_many hP hl.1 dX4_tangent_27 rfl rfl ⟨Nat.le_of_ble_eq_true rfl, Nat.le_of_ble_eq_true rfl⟩ rfl rfl rfl (Nat.le_of_ble_eq_true rfl) ⟨Nat.zero_le _, Nat.zero_le _⟩ ?_
      refine lv_iconst (v := 1) hx hb dX4_tangent_30 (by decide) ?_
      refine lv_isub hx hb dX4_tangent_31 ?_
      refine lv_icmp_ne (tgt := 37) hx hb dX4_tangent_32 (by decide) (fun c7 => ?_) (fun c7 => ?_)
      · have hq := q_if_f hq c7
        refine lv_aload_n hx hb dX4_tangent_37 rfl (lv_at hl 1 rfl) ?_
        refine lv_iload_n hx hb dX4_tangent_38 rfl (lv_at hl 2 rfl) ?_
        refine lv_iload_n hx hb dX4_tangent_39 rfl (lv_at hl 3 rfl) ?_
        refine lv_iconst (v := 1) hx hb dX4_tangent_40 (by decide) ?_
        refine lv_isub hx hb dX4_tangent_41 ?_
        refine lv_iconst (v := 1) hx hb dX4_tangent_42 (by decide) ?_
        obtain ⟨r8, hh9, hq⟩ := q_bd hq
        refine roV (ci := 4) (As := [.int p1, .int (p2 - 1), .int 1]) (rest := []) X K (k_X4_of l G g jo js jp ja jk jt jb un uy uw uq uz us up ua uk ut ub p1 (p2 - 1) 1 _ hh9) hd_X4_of gX4_tangent_X4_of hP hl.1 dX4_tangent_43 rfl rfl ⟨Nat.le_of_ble_eq_true rfl, Nat.le_of_ble_eq_true rfl⟩ rfl rfl rfl (Nat.le_of_ble_eq_true rfl) ⟨Nat.zero_le _, Nat.zero_le _⟩ ?_
        refine lv_istore (lv' := [(4, .int r8), (3, .int r1), (0, .ref jo), (1, .int p1), (2, .int p2)]) hx hb dX4_tangent_46 hl (by decide) rfl (fun ls hl => ?_)
        refine lv_aload_n hx hb dX4_tangent_48 rfl (lv_at hl 2 rfl) ?_
        refine lv_iload_n hx hb dX4_tangent_49 rfl (lv_at hl 3 rfl) ?_
        refine lv_iload_n hx hb dX4_tangent_50 rfl (lv_at hl 4 rfl) ?_
        refine lv_iconst (v := 1) hx hb dX4_tangent_51 (by decide) ?_
        obtain ⟨r10, hh11, hq⟩ := q_bd hq
        refine roV (ci := 4) (As := [.int p1, .int p2, .int 1]) (rest := []) X K (k_X4_of l G g jo js jp ja jk jt jb un uy uw uq uz us up ua uk ut ub p1 p2 1 _ hh11) hd_X4_of gX4_tangent_X4_of hP hl.1 dX4_tangent_52 rfl rfl ⟨Nat.le_of_ble_eq_true rfl, Nat.le_of_ble_eq_true rfl⟩ rfl rfl rfl (Nat.le_of_ble_eq_true rfl) ⟨Nat.zero_le _, Nat.zero_le _⟩ ?_
        refine lv_istore (lv' := [(5, .int r10), (4, .int r8), (3, .int r1), (0, .ref jo), (1, .int p1), (2, .int p2)]) hx hb dX4_tangent_55 hl (by decide) rfl (fun ls hl => ?_)
        refine lv_aload_n hx hb dX4_tangent_57 rfl (lv_at hl 3 rfl) ?_
        refine lv_iload_n hx hb dX4_tangent_58 rfl (lv_at hl 4 rfl) ?_
        refine lv_iload_n hx hb dX4_tangent_59 rfl (lv_at hl 5 rfl) ?_
        refine lv_iconst (v := 1) hx hb dX4_tangent_60 (by decide) ?_
        refine lv_iadd hx hb dX4_tangent_61 ?_
        refine lv_iconst (v := 1) hx hb dX4_tangent_62 (by decide) ?_
        obtain ⟨r12, hh13, hq⟩ := q_bd hq
        refine roV (ci := 4) (As := [.int p1, .int (p2 + 1), .int 1]) (rest := []) X K (k_X4_of l G g jo js jp ja jk jt jb un uy uw uq uz us up ua uk ut ub p1 (p2 + 1) 1 _ hh13) hd_X4_of gX4_tangent_X4_of hP hl.1 dX4_tangent_63 rfl rfl ⟨Nat.le_of_ble_eq_true rfl, Nat.le_of_ble_eq_true rfl⟩ rfl rfl rfl (Nat.le_of_ble_eq_true rfl) ⟨Nat.zero_le _, Nat.zero_le _⟩ ?_
        refine lv_istore (lv' := [(6, .int r12), (5, .int r10), (4, .int r8), (3, .int r1), (0, .ref jo), (1, .int p1), (2, .int p2)]) hx hb dX4_tangent_66 hl (by decide) rfl (fun ls hl => ?_)
        refine lv_iload hx hb dX4_tangent_68 (lv_at hl 2 rfl) ?_
        refine lv_iload hx hb dX4_tangent_70 (lv_at hl 1 rfl) ?_
        refine lv_icmp_gt (tgt := 82) hx hb dX4_tangent_72 (by decide) (fun c14 => ?_) (fun c14 => ?_)
        · have hq := q_if_t hq c14
          exact w_X4_tangent_82 X K jo js jp ja jk jt jb un uy uw uq uz up ua uk ut ub us p1 p2 r1 r8 r10 r12 hP _ hq ls (lv_sub hl [4, 5, 6, 3, 2, 1, 0] rfl)
        · have hq := q_if_f hq c14
          refine lv_iload hx hb dX4_tangent_75 (lv_at hl 0 rfl) ?_
          refine lv_iload hx hb dX4_tangent_77 (lv_at hl 1 rfl) ?_
          refine lv_icmp_le (tgt := 96) hx hb dX4_tangent_79 (by decide) (fun c15 => ?_) (fun c15 => ?_)
          · have hq := q_if_t hq c15
            exact w_X4_tangent_96 X K jo js jp ja jk jt jb un uy uw uq uz up ua uk ut ub us p1 p2 r1 r8 r12 hP _ hq ls (lv_sub hl [4, 5, 6, 3, 2, 0] rfl)
          · have hq := q_if_f hq c15
            exact w_X4_tangent_82 X K jo js jp ja jk jt jb un uy uw uq uz up ua uk ut ub us p1 p2 r1 r8 r10 r12 hP _ hq ls (lv_sub hl [4, 5, 6, 3, 2, 1, 0] rfl)
      · have hq := q_if_t hq c7
        refine lv_iconst (v := 0) hx hb dX4_tangent_35 (by decide) ?_
        obtain rfl := q_rt hq
        exact ro_iret hx hb hr hk dX4_tangent_36
  · have hq := q_if_t hq c3
    refine lv_aload_n hx hb dX4_tangent_12 rfl (lv_at hl 1 rfl) ?_
    refine lv_iload_n hx hb dX4_tangent_13 rfl (lv_at hl 2 rfl) ?_
    refine lv_iload_n hx hb dX4_tangent_14 rfl (lv_at hl 3 rfl) ?_
    refine lv_iconst (v := 4) hx hb dX4_tangent_15 (by decide) ?_
    obtain ⟨r16, hh17, hq⟩ := q_bd hq
    refine roV (ci := 4) (As := [.int p1, .int p2, .int 4]) (rest := []) X K (k_X4_of l G g jo js jp ja jk jt jb un uy uw uq uz us up ua uk ut ub p1 p2 4 _ hh17) hd_X4_of gX4_tangent_X4_of hP hl.1 dX4_tangent_16 rfl rfl ⟨Nat.le_of_ble_eq_true rfl, Nat.le_of_ble_eq_true rfl⟩ rfl rfl rfl (Nat.le_of_ble_eq_true rfl) ⟨Nat.zero_le _, Nat.zero_le _⟩ ?_
    obtain rfl := q_rt hq
    exact ro_iret hx hb hr hk dX4_tangent_19
theorem hd_X4_tangent : ynm yX4_tangent 2 := by unfold ynm; decide +kernel
def F_X4_valueAt_62 (us : Nat → Int32) (v1 : Int32) (v2 : Int32) (v3 : Int32) (v4 : Int32) : Option (Int32) := (F_X4_of us v1 v4 1).bind fun r5 => if v4 = v3 then (some (r5)) else ((F_X4_of us v1 (v4 + 1) 0).bind fun r8 => (F_X4_of us v1 v4 0).bind fun r10 => vlet ((r8 - r10).toInt64) fun x12 => (F_X4_of us v1 v4 0).bind fun r13 => vgd (¬ x12 = 0) <| vlet (((1000 : Int64) * ((v2 - r13).toInt64)) / x12) fun x16 => (F_X4_of us v1 (v4 + 1) 1).bind fun r17 => vlet ((r17 - r5).toInt64) fun x19 => (F_X4_of us v1 v4 2).bind fun r20 => if r20 = 0 then (some (r5)) else (if r20 = 1 then (some (r5 + (((x19 * x16) / 1000).toInt32))) else (if r20 = 2 then (some (r5 + ((((x19 * x16) * x16) / 1000000).toInt32))) else (if r20 = 3 then (some (r5 + (((x19 * ((1000000 : Int64) - (((1000 : Int64) - x16) * ((1000 : Int64) - x16)))) / 1000000).toInt32))) else (if r20 = 4 then (some (r5 + (((((x19 * x16) * x16) * ((3000 : Int64) - ((2 : Int64) * x16))) / 1000000000).toInt32))) else ((F_X4_tangent us v1 v4).bind fun r27 => vlet ((x12 * (r27.toInt64)) / 1000) fun x29 => (F_X4_tangent us v1 (v4 + 1)).bind fun r30 => vlet ((x12 * (r30.toInt64)) / 1000) fun x32 => vlet ((x16 * x16) * x16) fun x33 => vlet (x16 * x16) fun x34 => some (r5 + (((((x19 * (((3000 : Int64) * x34) - ((2 : Int64) * x33))) + (x29 * ((x33 - ((2000 : Int64) * x34)) + ((1000000 : Int64) * x16)))) + (x32 * (x33 - ((1000 : Int64) * x34)))) / 1000000000).toInt32))))))))
set_option maxHeartbeats 4000000 in
set_option maxRecDepth 100000 in
theorem w_X4_valueAt_62 {p : Program} {l : Launch} {e : Env} {s : State} {m : MethodId} {args : Array Value} {below : List Frame} {meth : Method} {c : Code} {G : va_G} {g : Nat → ClassId} (X : cx p s m args meth c cX4_valueAt 20 (some .int) RX4 wsX4_valueAt) (K : amb G g s) (jo js jp ja jk jt jb : Nat) (un : Int32) (uy : Int32) (uw : Int32) (uq : Int32) (uz : Int32) (up : Nat → Int32) (ua : Nat → Int32) (uk : Nat → Int32) (ut : Nat → Int32) (ub : Nat → Int32) (us : Nat → Int32) (v1 : Int32) (v2 : Int32) (v3 : Int32) (v4 : Int32) (hP : va_P G vwCl [(jo, .inr (4, [.ref js, .ref jp, .ref ja, .ref jk, .int un, .ref jt, .int uy, .int uw, .ref jb, .int uq, .int uz])), (js, .inl (g 0, 388, .inl us)), (jp, .inl (g 0, 1552, .inl up)), (ja, .inl (g 0, 388, .inl ua)), (jk, .inl (g 0, 97, .inl uk)), (jt, .inl (g 0, 150, .inl ut)), (jb, .inl (g 0, 1000, .inl ub))] s.heap) (res : Int32) (hq : F_X4_valueAt_62 us v1 v2 v3 v4 = some res) : ∀ (ls : Array Slot), lv_has ls 20 [(0, .ref jo), (1, .int v1), (2, .int v2), (3, .int v3), (4, .int v4)] → W p l e (rmF 3 71) s m args below meth c s.heap [] 0 0 (roM below (some (.int res)) args s) (F0 m 62 ls []) := by
  obtain ⟨hx, hb, hml, hr, hown, hts, hk⟩ := id X
  intro ls hl
  unfold F_X4_valueAt_62 at hq
  refine lv_aload_n hx hb dX4_valueAt_62 rfl (lv_at hl 0 rfl) ?_
  refine lv_iload_n hx hb dX4_valueAt_63 rfl (lv_at hl 1 rfl) ?_
  refine lv_iload hx hb dX4_valueAt_64 (lv_at hl 4 rfl) ?_
  refine lv_iconst (v := 1) hx hb dX4_valueAt_66 (by decide) ?_
  obtain ⟨r5, hh6, hq⟩ := q_bd hq
  refine roV (ci := 4) (As := [.int v1, .int v4, .int 1]) (rest := []) X K (k_X4_of l G g jo js jp ja jk jt jb un uy uw uq uz us up ua uk ut ub v1 v4 1 _ hh6) hd_X4_of gX4_valueAt_X4_of hP hl.1 dX4_valueAt_67 rfl rfl ⟨Nat.le_of_ble_eq_true rfl, Nat.le_of_ble_eq_true rfl⟩ rfl rfl rfl (Nat.le_of_ble_eq_true rfl) ⟨Nat.zero_le _, Nat.zero_le _⟩ ?_
  refine lv_istore (lv' := [(5, .int r5), (0, .ref jo), (1, .int v1), (2, .int v2), (3, .int v3), (4, .int v4)]) hx hb dX4_valueAt_70 hl (by decide) rfl (fun ls hl => ?_)
  refine lv_iload hx hb dX4_valueAt_72 (lv_at hl 5 rfl) ?_
  refine lv_iload_n hx hb dX4_valueAt_74 rfl (lv_at hl 4 rfl) ?_
  refine lv_icmp_ne (tgt := 81) hx hb dX4_valueAt_75 (by decide) (fun c7 => ?_) (fun c7 => ?_)
  · have hq := q_if_f hq c7
    refine lv_aload_n hx hb dX4_valueAt_81 rfl (lv_at hl 1 rfl) ?_
    refine lv_iload_n hx hb dX4_valueAt_82 rfl (lv_at hl 2 rfl) ?_
    refine lv_iload hx hb dX4_valueAt_83 (lv_at hl 5 rfl) ?_
    refine lv_iconst (v := 1) hx hb dX4_valueAt_85 (by decide) ?_
    refine lv_iadd hx hb dX4_valueAt_86 ?_
    refine lv_iconst (v := 0) hx hb dX4_valueAt_87 (by decide) ?_
    obtain ⟨r8, hh9, hq⟩ := q_bd hq
    refine roV (ci := 4) (As := [.int v1, .int (v4 + 1), .int 0]) (rest := []) X K (k_X4_of l G g jo js jp ja jk jt jb un uy uw uq uz us up ua uk ut ub v1 (v4 + 1) 0 _ hh9) hd_X4_of gX4_valueAt_X4_of hP hl.1 dX4_valueAt_88 rfl rfl ⟨Nat.le_of_ble_eq_true rfl, Nat.le_of_ble_eq_true rfl⟩ rfl rfl rfl (Nat.le_of_ble_eq_true rfl) ⟨Nat.zero_le _, Nat.zero_le _⟩ ?_
    refine lv_aload_n hx hb dX4_valueAt_91 rfl (lv_at hl 1 rfl) ?_
    refine lv_iload_n hx hb dX4_valueAt_92 rfl (lv_at hl 2 rfl) ?_
    refine lv_iload hx hb dX4_valueAt_93 (lv_at hl 5 rfl) ?_
    refine lv_iconst (v := 0) hx hb dX4_valueAt_95 (by decide) ?_
    obtain ⟨r10, hh11, hq⟩ := q_bd hq
    refine roV (ci := 4) (As := [.int v1, .int v4, .int 0]) (rest := [.int r8]) X K (k_X4_of l G g jo js jp ja jk jt jb un uy uw uq uz us up ua uk ut ub v1 v4 0 _ hh11) hd_X4_of gX4_valueAt_X4_of hP hl.1 dX4_valueAt_96 rfl rfl ⟨Nat.le_of_ble_eq_true rfl, Nat.le_of_ble_eq_true rfl⟩ rfl rfl rfl (Nat.le_of_ble_eq_true rfl) ⟨Nat.zero_le _, Nat.zero_le _⟩ ?_
    refine lv_isub hx hb dX4_valueAt_99 ?_
    refine lv_i2l (v := (r8 - r10).toInt64) hx hb dX4_valueAt_100 rfl ?_
    refine lv_topl (fun x12 ex12 => ?_)
    have hq := q_let hq ex12
    refine lv_lstore (lv' := [(6, .long x12), (5, .int r5), (0, .ref jo), (1, .int v1), (2, .int v2), (3, .int v3), (4, .int v4)]) hx hb dX4_valueAt_101 hl (by decide) rfl (fun ls hl => ?_)
    refine lv_ldc2 (v := 1000) hx hb hown (hts _ (List.mem_of_getElem? (i := 1) rfl)) dX4_valueAt_103 ?_
    refine lv_iload_n hx hb dX4_valueAt_106 rfl (lv_at hl 4 rfl) ?_
    refine lv_aload_n hx hb dX4_valueAt_107 rfl (lv_at hl 2 rfl) ?_
    refine lv_iload_n hx hb dX4_valueAt_108 rfl (lv_at hl 3 rfl) ?_
    refine lv_iload hx hb dX4_valueAt_109 (lv_at hl 6 rfl) ?_
    refine lv_iconst (v := 0) hx hb dX4_valueAt_111 (by decide) ?_
    obtain ⟨r13, hh14, hq⟩ := q_bd hq
    refine roV (ci := 4) (As := [.int v1, .int v4, .int 0]) (rest := [.int v2, .long 1000]) X K (k_X4_of l G g jo js jp ja jk jt jb un uy uw uq uz us up ua uk ut ub v1 v4 0 _ hh14) hd_X4_of gX4_valueAt_X4_of hP hl.1 dX4_valueAt_112 rfl rfl ⟨Nat.le_of_ble_eq_true rfl, Nat.le_of_ble_eq_true rfl⟩ rfl rfl rfl (Nat.le_of_ble_eq_true rfl) ⟨Nat.zero_le _, Nat.zero_le _⟩ ?_
    refine lv_isub hx hb dX4_valueAt_115 ?_
    refine lv_i2l (v := (v2 - r13).toInt64) hx hb dX4_valueAt_116 rfl ?_
    refine lv_lmul hx hb dX4_valueAt_117 ?_
    refine lv_lload hx hb dX4_valueAt_118 (lv_at hl 0 rfl) ?_
    obtain ⟨hh15, hq⟩ := q_gd hq
    refine lv_ldiv hx hb dX4_valueAt_120 hh15 ?_
    refine lv_topl (fun x16 ex16 => ?_)
    have hq := q_let hq ex16
    refine lv_lstore (lv' := [(8, .long x16), (6, .long x12), (5, .int r5), (0, .ref jo), (1, .int v1), (2, .int v2), (3, .int v3), (4, .int v4)]) hx hb dX4_valueAt_121 hl (by decide) rfl (fun ls hl => ?_)
    refine lv_aload_n hx hb dX4_valueAt_123 rfl (lv_at hl 3 rfl) ?_
    refine lv_iload_n hx hb dX4_valueAt_124 rfl (lv_at hl 4 rfl) ?_
    refine lv_iload hx hb dX4_valueAt_125 (lv_at hl 7 rfl) ?_
    refine lv_iconst (v := 1) hx hb dX4_valueAt_127 (by decide) ?_
    refine lv_iadd hx hb dX4_valueAt_128 ?_
    refine lv_iconst (v := 1) hx hb dX4_valueAt_129 (by decide) ?_
    obtain ⟨r17, hh18, hq⟩ := q_bd hq
    refine roV (ci := 4) (As := [.int v1, .int (v4 + 1), .int 1]) (rest := []) X K (k_X4_of l G g jo js jp ja jk jt jb un uy uw uq uz us up ua uk ut ub v1 (v4 + 1) 1 _ hh18) hd_X4_of gX4_valueAt_X4_of hP hl.1 dX4_valueAt_130 rfl rfl ⟨Nat.le_of_ble_eq_true rfl, Nat.le_of_ble_eq_true rfl⟩ rfl rfl rfl (Nat.le_of_ble_eq_true rfl) ⟨Nat.zero_le _, Nat.zero_le _⟩ ?_
    refine lv_iload hx hb dX4_valueAt_133 (lv_at hl 2 rfl) ?_
    refine lv_isub hx hb dX4_valueAt_135 ?_
    refine lv_i2l (v := (r17 - r5).toInt64) hx hb dX4_valueAt_136 rfl ?_
    refine lv_topl (fun x19 ex19 => ?_)
    have hq := q_let hq ex19
    refine lv_lstore (lv' := [(10, .long x19), (8, .long x16), (6, .long x12), (5, .int r5), (0, .ref jo), (1, .int v1), (2, .int v2), (3, .int v3), (4, .int v4)]) hx hb dX4_valueAt_137 hl (by decide) rfl (fun ls hl => ?_)
    refine lv_aload_n hx hb dX4_valueAt_139 rfl (lv_at hl 4 rfl) ?_
    refine lv_iload_n hx hb dX4_valueAt_140 rfl (lv_at hl 5 rfl) ?_
    refine lv_iload hx hb dX4_valueAt_141 (lv_at hl 8 rfl) ?_
    refine lv_iconst (v := 2) hx hb dX4_valueAt_143 (by decide) ?_
    obtain ⟨r20, hh21, hq⟩ := q_bd hq
    refine roV (ci := 4) (As := [.int v1, .int v4, .int 2]) (rest := []) X K (k_X4_of l G g jo js jp ja jk jt jb un uy uw uq uz us up ua uk ut ub v1 v4 2 _ hh21) hd_X4_of gX4_valueAt_X4_of hP hl.1 dX4_valueAt_144 rfl rfl ⟨Nat.le_of_ble_eq_true rfl, Nat.le_of_ble_eq_true rfl⟩ rfl rfl rfl (Nat.le_of_ble_eq_true rfl) ⟨Nat.zero_le _, Nat.zero_le _⟩ ?_
    refine sw_c (x := r20) (k := 0) (fun c22 => ?_) (fun c22 => ?_)
    · have hq := q_if_t hq c22
      refine lv_tableIn (tgt := 180) hx hb dX4_valueAt_147 (by rw [c22]; decide) (by rw [c22]; decide) (by rw [c22]; rfl) (by decide) ?_
      refine lv_iload hx hb dX4_valueAt_180 (lv_at hl 3 rfl) ?_
      obtain rfl := q_rt hq
      exact ro_iret hx hb hr hk dX4_valueAt_182
    have hq := q_if_f hq c22
    refine sw_c (x := r20) (k := 1) (fun c23 => ?_) (fun c23 => ?_)
    · have hq := q_if_t hq c23
      refine lv_tableIn (tgt := 183) hx hb dX4_valueAt_147 (by rw [c23]; decide) (by rw [c23]; decide) (by rw [c23]; rfl) (by decide) ?_
      refine lv_iload hx hb dX4_valueAt_183 (lv_at hl 3 rfl) ?_
      refine lv_lload hx hb dX4_valueAt_185 (lv_at hl 0 rfl) ?_
      refine lv_lload hx hb dX4_valueAt_187 (lv_at hl 1 rfl) ?_
      refine lv_lmul hx hb dX4_valueAt_189 ?_
      refine lv_ldc2 (v := 1000) hx hb hown (hts _ (List.mem_of_getElem? (i := 1) rfl)) dX4_valueAt_190 ?_
      refine lv_ldiv hx hb dX4_valueAt_193 (by decide) ?_
      refine lv_l2i (v := ((x19 * x16) / 1000).toInt32) hx hb dX4_valueAt_194 rfl ?_
      refine lv_iadd hx hb dX4_valueAt_195 ?_
      obtain rfl := q_rt hq
      exact ro_iret hx hb hr hk dX4_valueAt_196
    have hq := q_if_f hq c23
    refine sw_c (x := r20) (k := 2) (fun c24 => ?_) (fun c24 => ?_)
    · have hq := q_if_t hq c24
      refine lv_tableIn (tgt := 197) hx hb dX4_valueAt_147 (by rw [c24]; decide) (by rw [c24]; decide) (by rw [c24]; rfl) (by decide) ?_
      refine lv_iload hx hb dX4_valueAt_197 (lv_at hl 3 rfl) ?_
      refine lv_lload hx hb dX4_valueAt_199 (lv_at hl 0 rfl) ?_
      refine lv_lload hx hb dX4_valueAt_201 (lv_at hl 1 rfl) ?_
      refine lv_lmul hx hb dX4_valueAt_203 ?_
      refine lv_lload hx hb dX4_valueAt_204 (lv_at hl 1 rfl) ?_
      refine lv_lmul hx hb dX4_valueAt_206 ?_
      refine lv_ldc2 (v := 1000000) hx hb hown (hts _ (List.mem_of_getElem? (i := 2) rfl)) dX4_valueAt_207 ?_
      refine lv_ldiv hx hb dX4_valueAt_210 (by decide) ?_
      refine lv_l2i (v := (((x19 * x16) * x16) / 1000000).toInt32) hx hb dX4_valueAt_211 rfl ?_
      refine lv_iadd hx hb dX4_valueAt_212 ?_
      obtain rfl := q_rt hq
      exact ro_iret hx hb hr hk dX4_valueAt_213
    have hq := q_if_f hq c24
    refine sw_c (x := r20) (k := 3) (fun c25 => ?_) (fun c25 => ?_)
    · have hq := q_if_t hq c25
      refine lv_tableIn (tgt := 214) hx hb dX4_valueAt_147 (by rw [c25]; decide) (by rw [c25]; decide) (by rw [c25]; rfl) (by decide) ?_
      refine lv_iload hx hb dX4_valueAt_214 (lv_at hl 3 rfl) ?_
      refine lv_lload hx hb dX4_valueAt_216 (lv_at hl 0 rfl) ?_
      refine lv_ldc2 (v := 1000000) hx hb hown (hts _ (List.mem_of_getElem? (i := 2) rfl)) dX4_valueAt_218 ?_
      refine lv_ldc2 (v := 1000) hx hb hown (hts _ (List.mem_of_getElem? (i := 1) rfl)) dX4_valueAt_221 ?_
      refine lv_lload hx hb dX4_valueAt_224 (lv_at hl 1 rfl) ?_
      refine lv_lsub hx hb dX4_valueAt_226 ?_
      refine lv_ldc2 (v := 1000) hx hb hown (hts _ (List.mem_of_getElem? (i := 1) rfl)) dX4_valueAt_227 ?_
      refine lv_lload hx hb dX4_valueAt_230 (lv_at hl 1 rfl) ?_
      refine lv_lsub hx hb dX4_valueAt_232 ?_
      refine lv_lmul hx hb dX4_valueAt_233 ?_
      refine lv_lsub hx hb dX4_valueAt_234 ?_
      refine lv_lmul hx hb dX4_valueAt_235 ?_
      refine lv_ldc2 (v := 1000000) hx hb hown (hts _ (List.mem_of_getElem? (i := 2) rfl)) dX4_valueAt_236 ?_
      refine lv_ldiv hx hb dX4_valueAt_239 (by decide) ?_
      refine lv_l2i (v := ((x19 * ((1000000 : Int64) - (((1000 : Int64) - x16) * ((1000 : Int64) - x16)))) / 1000000).toInt32) hx hb dX4_valueAt_240 rfl ?_
      refine lv_iadd hx hb dX4_valueAt_241 ?_
      obtain rfl := q_rt hq
      exact ro_iret hx hb hr hk dX4_valueAt_242
    have hq := q_if_f hq c25
    refine sw_c (x := r20) (k := 4) (fun c26 => ?_) (fun c26 => ?_)
    · have hq := q_if_t hq c26
      refine lv_tableIn (tgt := 243) hx hb dX4_valueAt_147 (by rw [c26]; decide) (by rw [c26]; decide) (by rw [c26]; rfl) (by decide) ?_
      refine lv_iload hx hb dX4_valueAt_243 (lv_at hl 3 rfl) ?_
      refine lv_lload hx hb dX4_valueAt_245 (lv_at hl 0 rfl) ?_
      refine lv_lload hx hb dX4_valueAt_247 (lv_at hl 1 rfl) ?_
      refine lv_lmul hx hb dX4_valueAt_249 ?_
      refine lv_lload hx hb dX4_valueAt_250 (lv_at hl 1 rfl) ?_
      refine lv_lmul hx hb dX4_valueAt_252 ?_
      refine lv_ldc2 (v := 3000) hx hb hown (hts _ (List.mem_of_getElem? (i := 3) rfl)) dX4_valueAt_253 ?_
      refine lv_ldc2 (v := 2) hx hb hown (hts _ (List.mem_of_getElem? (i := 4) rfl)) dX4_valueAt_256 ?_
      refine lv_lload hx hb dX4_valueAt_259 (lv_at hl 1 rfl) ?_
      refine lv_lmul hx hb dX4_valueAt_261 ?_
      refine lv_lsub hx hb dX4_valueAt_262 ?_
      refine lv_lmul hx hb dX4_valueAt_263 ?_
      refine lv_ldc2 (v := 1000000000) hx hb hown (hts _ (List.mem_of_getElem? (i := 5) rfl)) dX4_valueAt_264 ?_
      refine lv_ldiv hx hb dX4_valueAt_267 (by decide) ?_
      refine lv_l2i (v := ((((x19 * x16) * x16) * ((3000 : Int64) - ((2 : Int64) * x16))) / 1000000000).toInt32) hx hb dX4_valueAt_268 rfl ?_
      refine lv_iadd hx hb dX4_valueAt_269 ?_
      obtain rfl := q_rt hq
      exact ro_iret hx hb hr hk dX4_valueAt_270
    have hq := q_if_f hq c26
    refine lv_tableOut (tgt := 271) hx hb dX4_valueAt_147 (by have zc22 := lv_neT (a := 0) c22 rfl; have zc23 := lv_neT (a := 1) c23 rfl; have zc24 := lv_neT (a := 2) c24 rfl; have zc25 := lv_neT (a := 3) c25 rfl; have zc26 := lv_neT (a := 4) c26 rfl; omega) (by decide) ?_
    refine lv_lload hx hb dX4_valueAt_271 (lv_at hl 2 rfl) ?_
    refine lv_aload_n hx hb dX4_valueAt_273 rfl (lv_at hl 4 rfl) ?_
    refine lv_iload_n hx hb dX4_valueAt_274 rfl (lv_at hl 5 rfl) ?_
    refine lv_iload hx hb dX4_valueAt_275 (lv_at hl 8 rfl) ?_
    obtain ⟨r27, hh28, hq⟩ := q_bd hq
    refine roV (ci := 4) (As := [.int v1, .int v4]) (rest := [.long x12]) X K (k_X4_tangent l G g jo js jp ja jk jt jb un uy uw uq uz us up ua uk ut ub v1 v4 _ hh28) hd_X4_tangent gX4_valueAt_X4_tangent hP hl.1 dX4_valueAt_277 rfl rfl ⟨Nat.le_of_ble_eq_true rfl, Nat.le_of_ble_eq_true rfl⟩ rfl rfl rfl (Nat.le_of_ble_eq_true rfl) ⟨Nat.zero_le _, Nat.zero_le _⟩ ?_
    refine lv_i2l (v := r27.toInt64) hx hb dX4_valueAt_280 rfl ?_
    refine lv_lmul hx hb dX4_valueAt_281 ?_
    refine lv_ldc2 (v := 1000) hx hb hown (hts _ (List.mem_of_getElem? (i := 1) rfl)) dX4_valueAt_282 ?_
    refine lv_ldiv hx hb dX4_valueAt_285 (by decide) ?_
    refine lv_topl (fun x29 ex29 => ?_)
    have hq := q_let hq ex29
    refine lv_lstore (lv' := [(12, .long x29), (10, .long x19), (8, .long x16), (6, .long x12), (5, .int r5), (0, .ref jo), (1, .int v1), (2, .int v2), (3, .int v3), (4, .int v4)]) hx hb dX4_valueAt_286 hl (by decide) rfl (fun ls hl => ?_)
    refine lv_lload hx hb dX4_valueAt_288 (lv_at hl 3 rfl) ?_
    refine lv_aload_n hx hb dX4_valueAt_290 rfl (lv_at hl 5 rfl) ?_
    refine lv_iload_n hx hb dX4_valueAt_291 rfl (lv_at hl 6 rfl) ?_
    refine lv_iload hx hb dX4_valueAt_292 (lv_at hl 9 rfl) ?_
    refine lv_iconst (v := 1) hx hb dX4_valueAt_294 (by decide) ?_
    refine lv_iadd hx hb dX4_valueAt_295 ?_
    obtain ⟨r30, hh31, hq⟩ := q_bd hq
    refine roV (ci := 4) (As := [.int v1, .int (v4 + 1)]) (rest := [.long x12]) X K (k_X4_tangent l G g jo js jp ja jk jt jb un uy uw uq uz us up ua uk ut ub v1 (v4 + 1) _ hh31) hd_X4_tangent gX4_valueAt_X4_tangent hP hl.1 dX4_valueAt_296 rfl rfl ⟨Nat.le_of_ble_eq_true rfl, Nat.le_of_ble_eq_true rfl⟩ rfl rfl rfl (Nat.le_of_ble_eq_true rfl) ⟨Nat.zero_le _, Nat.zero_le _⟩ ?_
    refine lv_i2l (v := r30.toInt64) hx hb dX4_valueAt_299 rfl ?_
    refine lv_lmul hx hb dX4_valueAt_300 ?_
    refine lv_ldc2 (v := 1000) hx hb hown (hts _ (List.mem_of_getElem? (i := 1) rfl)) dX4_valueAt_301 ?_
    refine lv_ldiv hx hb dX4_valueAt_304 (by decide) ?_
    refine lv_topl (fun x32 ex32 => ?_)
    have hq := q_let hq ex32
    refine lv_lstore (lv' := [(14, .long x32), (12, .long x29), (10, .long x19), (8, .long x16), (6, .long x12), (5, .int r5), (0, .ref jo), (1, .int v1), (2, .int v2), (3, .int v3), (4, .int v4)]) hx hb dX4_valueAt_305 hl (by decide) rfl (fun ls hl => ?_)
    refine lv_lload hx hb dX4_valueAt_307 (lv_at hl 3 rfl) ?_
    refine lv_lload hx hb dX4_valueAt_309 (lv_at hl 3 rfl) ?_
    refine lv_lmul hx hb dX4_valueAt_311 ?_
    refine lv_lload hx hb dX4_valueAt_312 (lv_at hl 3 rfl) ?_
    refine lv_lmul hx hb dX4_valueAt_314 ?_
    refine lv_topl (fun x33 ex33 => ?_)
    have hq := q_let hq ex33
    refine lv_lstore (lv' := [(16, .long x33), (14, .long x32), (12, .long x29), (10, .long x19), (8, .long x16), (6, .long x12), (5, .int r5), (0, .ref jo), (1, .int v1), (2, .int v2), (3, .int v3), (4, .int v4)]) hx hb dX4_valueAt_315 hl (by decide) rfl (fun ls hl => ?_)
    refine lv_lload hx hb dX4_valueAt_317 (lv_at hl 4 rfl) ?_
    refine lv_lload hx hb dX4_valueAt_319 (lv_at hl 4 rfl) ?_
    refine lv_lmul hx hb dX4_valueAt_321 ?_
    refine lv_topl (fun x34 ex34 => ?_)
    have hq := q_let hq ex34
    refine lv_lstore (lv' := [(18, .long x34), (16, .long x33), (14, .long x32), (12, .long x29), (10, .long x19), (8, .long x16), (6, .long x12), (5, .int r5), (0, .ref jo), (1, .int v1), (2, .int v2), (3, .int v3), (4, .int v4)]) hx hb dX4_valueAt_322 hl (by decide) rfl (fun ls hl => ?_)
    refine lv_iload hx hb dX4_valueAt_324 (lv_at hl 7 rfl) ?_
    refine lv_lload hx hb dX4_valueAt_326 (lv_at hl 4 rfl) ?_
    refine lv_ldc2 (v := 3000) hx hb hown (hts _ (List.mem_of_getElem? (i := 3) rfl)) dX4_valueAt_328 ?_
    refine lv_lload hx hb dX4_valueAt_331 (lv_at hl 0 rfl) ?_
    refine lv_lmul hx hb dX4_valueAt_333 ?_
    refine lv_ldc2 (v := 2) hx hb hown (hts _ (List.mem_of_getElem? (i := 4) rfl)) dX4_valueAt_334 ?_
    refine lv_lload hx hb dX4_valueAt_337 (lv_at hl 1 rfl) ?_
    refine lv_lmul hx hb dX4_valueAt_339 ?_
    refine lv_lsub hx hb dX4_valueAt_340 ?_
    refine lv_lmul hx hb dX4_valueAt_341 ?_
    refine lv_lload hx hb dX4_valueAt_342 (lv_at hl 3 rfl) ?_
    refine lv_lload hx hb dX4_valueAt_344 (lv_at hl 1 rfl) ?_
    refine lv_ldc2 (v := 2000) hx hb hown (hts _ (List.mem_of_getElem? (i := 6) rfl)) dX4_valueAt_346 ?_
    refine lv_lload hx hb dX4_valueAt_349 (lv_at hl 0 rfl) ?_
    refine lv_lmul hx hb dX4_valueAt_351 ?_
    refine lv_lsub hx hb dX4_valueAt_352 ?_
    refine lv_ldc2 (v := 1000000) hx hb hown (hts _ (List.mem_of_getElem? (i := 2) rfl)) dX4_valueAt_353 ?_
    refine lv_lload hx hb dX4_valueAt_356 (lv_at hl 5 rfl) ?_
    refine lv_lmul hx hb dX4_valueAt_358 ?_
    refine lv_ladd hx hb dX4_valueAt_359 ?_
    refine lv_lmul hx hb dX4_valueAt_360 ?_
    refine lv_ladd hx hb dX4_valueAt_361 ?_
    refine lv_lload hx hb dX4_valueAt_362 (lv_at hl 2 rfl) ?_
    refine lv_lload hx hb dX4_valueAt_364 (lv_at hl 1 rfl) ?_
    refine lv_ldc2 (v := 1000) hx hb hown (hts _ (List.mem_of_getElem? (i := 1) rfl)) dX4_valueAt_366 ?_
    refine lv_lload hx hb dX4_valueAt_369 (lv_at hl 0 rfl) ?_
    refine lv_lmul hx hb dX4_valueAt_371 ?_
    refine lv_lsub hx hb dX4_valueAt_372 ?_
    refine lv_lmul hx hb dX4_valueAt_373 ?_
    refine lv_ladd hx hb dX4_valueAt_374 ?_
    refine lv_ldc2 (v := 1000000000) hx hb hown (hts _ (List.mem_of_getElem? (i := 5) rfl)) dX4_valueAt_375 ?_
    refine lv_ldiv hx hb dX4_valueAt_378 (by decide) ?_
    refine lv_l2i (v := ((((x19 * (((3000 : Int64) * x34) - ((2 : Int64) * x33))) + (x29 * ((x33 - ((2000 : Int64) * x34)) + ((1000000 : Int64) * x16)))) + (x32 * (x33 - ((1000 : Int64) * x34)))) / 1000000000).toInt32) hx hb dX4_valueAt_379 rfl ?_
    refine lv_iadd hx hb dX4_valueAt_380 ?_
    obtain rfl := q_rt hq
    exact ro_iret hx hb hr hk dX4_valueAt_381
  · have hq := q_if_t hq c7
    refine lv_iload hx hb dX4_valueAt_78 (lv_at hl 0 rfl) ?_
    obtain rfl := q_rt hq
    exact ro_iret hx hb hr hk dX4_valueAt_80
def F_X4_valueAt_36 (us : Nat → Int32) (v1 : Int32) (v2 : Int32) (v3 : Int32) : Nat → Int32 → Option (Int32)
  | 0, _ => none
  | n + 1, v4 => if v3 ≤ v4 then (F_X4_valueAt_62 us v1 v2 v3 v4) else ((F_X4_of us v1 (v4 + 1) 0).bind fun r6 => if v2 < r6 then (F_X4_valueAt_62 us v1 v2 v3 v4) else (vlet ((v4 : Int32) + 1) fun x9 => F_X4_valueAt_36 us v1 v2 v3 n x9))
set_option maxHeartbeats 4000000 in
set_option maxRecDepth 100000 in
theorem w_X4_valueAt_36 {p : Program} {l : Launch} {e : Env} {s : State} {m : MethodId} {args : Array Value} {below : List Frame} {meth : Method} {c : Code} {G : va_G} {g : Nat → ClassId} (X : cx p s m args meth c cX4_valueAt 20 (some .int) RX4 wsX4_valueAt) (K : amb G g s) (jo js jp ja jk jt jb : Nat) (un : Int32) (uy : Int32) (uw : Int32) (uq : Int32) (uz : Int32) (up : Nat → Int32) (ua : Nat → Int32) (uk : Nat → Int32) (ut : Nat → Int32) (ub : Nat → Int32) (us : Nat → Int32) (v1 : Int32) (v2 : Int32) (v3 : Int32) (hP : va_P G vwCl [(jo, .inr (4, [.ref js, .ref jp, .ref ja, .ref jk, .int un, .ref jt, .int uy, .int uw, .ref jb, .int uq, .int uz])), (js, .inl (g 0, 388, .inl us)), (jp, .inl (g 0, 1552, .inl up)), (ja, .inl (g 0, 388, .inl ua)), (jk, .inl (g 0, 97, .inl uk)), (jt, .inl (g 0, 150, .inl ut)), (jb, .inl (g 0, 1000, .inl ub))] s.heap) (res : Int32) : ∀ (n : Nat) (v4 : Int32), F_X4_valueAt_36 us v1 v2 v3 n v4 = some res → ∀ (ls : Array Slot), lv_has ls 20 [(0, .ref jo), (1, .int v1), (2, .int v2), (3, .int v3), (4, .int v4)] → W p l e (rmF 3 71) s m args below meth c s.heap [] 0 0 (roM below (some (.int res)) args s) (F0 m 36 ls []) := by
  obtain ⟨hx, hb, hml, hr, hown, hts, hk⟩ := id X
  intro n
  induction n with
  | zero => intro v4 hq; exact q_no hq
  | succ n ih =>
    intro v4 hq ls hl
    rw [F_X4_valueAt_36] at hq
    refine lv_iload hx hb dX4_valueAt_36 (lv_at hl 4 rfl) ?_
    refine lv_iload_n hx hb dX4_valueAt_38 rfl (lv_at hl 3 rfl) ?_
    refine lv_icmp_ge (tgt := 62) hx hb dX4_valueAt_39 (by decide) (fun c5 => ?_) (fun c5 => ?_)
    · have hq := q_if_t hq c5
      exact w_X4_valueAt_62 X K jo js jp ja jk jt jb un uy uw uq uz up ua uk ut ub us v1 v2 v3 v4 hP _ hq ls (lv_sub hl [0, 1, 2, 3, 4] rfl)
    · have hq := q_if_f hq c5
      refine lv_aload_n hx hb dX4_valueAt_42 rfl (lv_at hl 0 rfl) ?_
      refine lv_iload_n hx hb dX4_valueAt_43 rfl (lv_at hl 1 rfl) ?_
      refine lv_iload hx hb dX4_valueAt_44 (lv_at hl 4 rfl) ?_
      refine lv_iconst (v := 1) hx hb dX4_valueAt_46 (by decide) ?_
      refine lv_iadd hx hb dX4_valueAt_47 ?_
      refine lv_iconst (v := 0) hx hb dX4_valueAt_48 (by decide) ?_
      obtain ⟨r6, hh7, hq⟩ := q_bd hq
      refine roV (ci := 4) (As := [.int v1, .int (v4 + 1), .int 0]) (rest := []) X K (k_X4_of l G g jo js jp ja jk jt jb un uy uw uq uz us up ua uk ut ub v1 (v4 + 1) 0 _ hh7) hd_X4_of gX4_valueAt_X4_of hP hl.1 dX4_valueAt_49 rfl rfl ⟨Nat.le_of_ble_eq_true rfl, Nat.le_of_ble_eq_true rfl⟩ rfl rfl rfl (Nat.le_of_ble_eq_true rfl) ⟨Nat.zero_le _, Nat.zero_le _⟩ ?_
      refine lv_iload_n hx hb dX4_valueAt_52 rfl (lv_at hl 2 rfl) ?_
      refine lv_icmp_gt (tgt := 62) hx hb dX4_valueAt_53 (by decide) (fun c8 => ?_) (fun c8 => ?_)
      · have hq := q_if_t hq c8
        exact w_X4_valueAt_62 X K jo js jp ja jk jt jb un uy uw uq uz up ua uk ut ub us v1 v2 v3 v4 hP _ hq ls (lv_sub hl [0, 1, 2, 3, 4] rfl)
      · have hq := q_if_f hq c8
        obtain ⟨x9, ex9⟩ : ∃ y : Int32, y = (v4 : Int32) + 1 := ⟨_, rfl⟩
        have hq := q_let hq ex9
        refine lv_iinc (v := x9) (lv' := [(4, .int x9), (0, .ref jo), (1, .int v1), (2, .int v2), (3, .int v3)]) hx hb dX4_valueAt_56 hl (k := 4) rfl (by rw [ex9]; rfl) (by decide) rfl (fun ls hl => ?_)
        refine lv_goto (tgt := 36) hx hb dX4_valueAt_59 (by decide) ?_
        exact ih x9 hq ls (lv_sub hl [1, 2, 3, 4, 0] rfl)
def F_X4_valueAt (us : Nat → Int32) (p1 : Int32) (p2 : Int32) : Option (Int32) := (F_X4_many us p1).bind fun r1 => vlet (r1 - 1) fun x3 => if (0 : Int32) ≤ x3 then ((F_X4_of us p1 0 0).bind fun r5 => if r5 ≤ p2 then (F_X4_valueAt_36 us p1 p2 x3 2000 0) else ((F_X4_of us p1 0 1).bind fun r8 => some (r8))) else (some (0))
set_option maxHeartbeats 4000000 in
set_option maxRecDepth 100000 in
theorem k_X4_valueAt (l : Launch) (G : va_G) (g : Nat → ClassId) (jo js jp ja jk jt jb : Nat) (un : Int32) (uy : Int32) (uw : Int32) (uq : Int32) (uz : Int32) (us : Nat → Int32) (up : Nat → Int32) (ua : Nat → Int32) (uk : Nat → Int32) (ut : Nat → Int32) (ub : Nat → Int32) (p1 : Int32) (p2 : Int32) (res : Int32) (hq : F_X4_valueAt us p1 p2 = some res) : roC l yX4_valueAt wsX4_valueAt (rmF 3 71) G g [.ref jo, .int p1, .int p2] [(jo, .inr (4, [.ref js, .ref jp, .ref ja, .ref jk, .int un, .ref jt, .int uy, .int uw, .ref jb, .int uq, .int uz])), (js, .inl (g 0, 388, .inl us)), (jp, .inl (g 0, 1552, .inl up)), (ja, .inl (g 0, 388, .inl ua)), (jk, .inl (g 0, 97, .inl uk)), (jt, .inl (g 0, 150, .inl ut)), (jb, .inl (g 0, 1000, .inl ub))] (some (.int res)) := by
  refine roC.of (cc := cX4_valueAt) (maxL := 20) (ret := (some .int)) (by decide) rfl (Nat.le_of_ble_eq_true rfl) ?_
  intro p e s m below meth c ls X K hP hl
  obtain ⟨hx, hb, hml, hr, hown, hts, hk⟩ := id X
  have hl : lv_has ls 20 [(0, .ref jo), (1, .int p1), (2, .int p2)] := hl
  unfold F_X4_valueAt at hq
  refine lv_aload_n hx hb dX4_valueAt_0 rfl (lv_at hl 0 rfl) ?_
  refine lv_iload_n hx hb dX4_valueAt_1 rfl (lv_at hl 1 rfl) ?_
  obtain ⟨r1, hh2, hq⟩ := q_bd hq
  refine roV (ci := 4) (As := [.int p1]) (rest := []) X K (k_X4_many l G g jo js jp ja jk jt jb un uy uw uq uz us up ua uk ut ub p1 _ hh2) hd_X4_many gX4_valueAt_X4_many hP hl.1 dX4_valueAt_2 rfl rfl ⟨Nat.le_of_ble_eq_true rfl, Nat.le_of_ble_eq_true rfl⟩ rfl rfl rfl (Nat.le_of_ble_eq_true rfl) ⟨Nat.zero_le _, Nat.zero_le _⟩ ?_
  refine lv_iconst (v := 1) hx hb dX4_valueAt_5 (by decide) ?_
  refine lv_isub hx hb dX4_valueAt_6 ?_
  refine lv_topi (fun x3 ex3 => ?_)
  have hq := q_let hq ex3
  refine lv_istore_n (lv' := [(3, .int x3), (0, .ref jo), (1, .int p1), (2, .int p2)]) hx hb dX4_valueAt_7 rfl hl (by decide) rfl (fun ls hl => ?_)
  refine lv_iload_n hx hb dX4_valueAt_8 rfl (lv_at hl 0 rfl) ?_
  refine lv_if_ge (tgt := 14) hx hb dX4_valueAt_9 (by decide) (fun c4 => ?_) (fun c4 => ?_)
  · have hq := q_if_t hq c4
    refine lv_iload_n hx hb dX4_valueAt_14 rfl (lv_at hl 3 rfl) ?_
    refine lv_aload_n hx hb dX4_valueAt_15 rfl (lv_at hl 1 rfl) ?_
    refine lv_iload_n hx hb dX4_valueAt_16 rfl (lv_at hl 2 rfl) ?_
    refine lv_iconst (v := 0) hx hb dX4_valueAt_17 (by decide) ?_
    refine lv_iconst (v := 0) hx hb dX4_valueAt_18 (by decide) ?_
    obtain ⟨r5, hh6, hq⟩ := q_bd hq
    refine roV (ci := 4) (As := [.int p1, .int 0, .int 0]) (rest := [.int p2]) X K (k_X4_of l G g jo js jp ja jk jt jb un uy uw uq uz us up ua uk ut ub p1 0 0 _ hh6) hd_X4_of gX4_valueAt_X4_of hP hl.1 dX4_valueAt_19 rfl rfl ⟨Nat.le_of_ble_eq_true rfl, Nat.le_of_ble_eq_true rfl⟩ rfl rfl rfl (Nat.le_of_ble_eq_true rfl) ⟨Nat.zero_le _, Nat.zero_le _⟩ ?_
    refine lv_icmp_ge (tgt := 33) hx hb dX4_valueAt_22 (by decide) (fun c7 => ?_) (fun c7 => ?_)
    · have hq := q_if_t hq c7
      refine lv_iconst (v := 0) hx hb dX4_valueAt_33 (by decide) ?_
      refine lv_istore (lv' := [(4, .int 0), (3, .int x3), (0, .ref jo), (1, .int p1), (2, .int p2)]) hx hb dX4_valueAt_34 hl (by decide) rfl (fun ls hl => ?_)
      exact w_X4_valueAt_36 X K jo js jp ja jk jt jb un uy uw uq uz up ua uk ut ub us p1 p2 x3 hP _ 2000 0 hq ls (lv_sub hl [2, 3, 4, 1, 0] rfl)
    · have hq := q_if_f hq c7
      refine lv_aload_n hx hb dX4_valueAt_25 rfl (lv_at hl 1 rfl) ?_
      refine lv_iload_n hx hb dX4_valueAt_26 rfl (lv_at hl 2 rfl) ?_
      refine lv_iconst (v := 0) hx hb dX4_valueAt_27 (by decide) ?_
      refine lv_iconst (v := 1) hx hb dX4_valueAt_28 (by decide) ?_
      obtain ⟨r8, hh9, hq⟩ := q_bd hq
      refine roV (ci := 4) (As := [.int p1, .int 0, .int 1]) (rest := []) X K (k_X4_of l G g jo js jp ja jk jt jb un uy uw uq uz us up ua uk ut ub p1 0 1 _ hh9) hd_X4_of gX4_valueAt_X4_of hP hl.1 dX4_valueAt_29 rfl rfl ⟨Nat.le_of_ble_eq_true rfl, Nat.le_of_ble_eq_true rfl⟩ rfl rfl rfl (Nat.le_of_ble_eq_true rfl) ⟨Nat.zero_le _, Nat.zero_le _⟩ ?_
      obtain rfl := q_rt hq
      exact ro_iret hx hb hr hk dX4_valueAt_32
  · have hq := q_if_f hq c4
    refine lv_iconst (v := 0) hx hb dX4_valueAt_12 (by decide) ?_
    obtain rfl := q_rt hq
    exact ro_iret hx hb hr hk dX4_valueAt_13
theorem hd_X4_valueAt : ynm yX4_valueAt 2 := by unfold ynm; decide +kernel
theorem in_X4_bakes_X4 : ∀ w ∈ wsX40, w ∈ wsX4_bakes := fun _ h => List.mem_cons_of_mem _ (List.mem_append_right _ h)
def F_X4_bakes_2 (us : Nat → Int32) (v1 : Int32) : Nat → (Nat → Int32) → Int32 → Option ((Nat → Int32))
  | 0, _, _ => none
  | n + 1, ub, v2 => if (999 : Int32) < v2 then (some (ub)) else ((F_X4_valueAt us v1 v2).bind fun r4 => vgd (ix (v2) 1000) <| vlet (upd ub v2.toNatClampNeg r4) fun f7 => vlet ((v2 : Int32) + 1) fun x8 => F_X4_bakes_2 us v1 n f7 x8)
set_option maxHeartbeats 4000000 in
set_option maxRecDepth 100000 in
theorem w_X4_bakes_2 {p : Program} {l : Launch} {e : Env} {s : State} {m : MethodId} {args : Array Value} {below : List Frame} {meth : Method} {c : Code} {G : va_G} {g : Nat → ClassId} (X : cx p s m args meth c cX4_bakes 3 none RX4 wsX4_bakes) (K : amb G g s) {A : Nat → Prop} (hA : ∀ q : Nat, s.heap.size ≤ q → A q) (jo js jp ja jk jt jb : Nat) (un : Int32) (uy : Int32) (uw : Int32) (uq : Int32) (uz : Int32) (up : Nat → Int32) (ua : Nat → Int32) (uk : Nat → Int32) (ut : Nat → Int32) (us : Nat → Int32) (v1 : Int32) (res : (Nat → Int32)) : ∀ (n : Nat) (ub : Nat → Int32) (v2 : Int32), F_X4_bakes_2 us v1 n ub v2 = some res → ∀ (H : Heap) (locs : List Loc), va_P G vwCl [(jo, .inr (4, [.ref js, .ref jp, .ref ja, .ref jk, .int un, .ref jt, .int uy, .int uw, .ref jb, .int uq, .int uz])), (js, .inl (g 0, 388, .inl us)), (jp, .inl (g 0, 1552, .inl up)), (ja, .inl (g 0, 388, .inl ua)), (jk, .inl (g 0, 97, .inl uk)), (jt, .inl (g 0, 150, .inl ut)), (jb, .inl (g 0, 1000, .inl ub))] H → va_D A [(jo, .inr (4, [.ref js, .ref jp, .ref ja, .ref jk, .int un, .ref jt, .int uy, .int uw, .ref jb, .int uq, .int uz])), (js, .inl (g 0, 388, .inl us)), (jp, .inl (g 0, 1552, .inl up)), (ja, .inl (g 0, 388, .inl ua)), (jk, .inl (g 0, 97, .inl uk)), (jt, .inl (g 0, 150, .inl ut)), (jb, .inl (g 0, 1000, .inl ub))] → va_S A s.heap H locs → ∀ (ls : Array Slot), lv_has ls 3 [(0, .ref jo), (1, .int v1), (2, .int v2)] → W p l e (rmF 4 110) s m args below meth c H locs 0 0 (rwM G A below none [(jo, .inr (4, [.ref js, .ref jp, .ref ja, .ref jk, .int un, .ref jt, .int uy, .int uw, .ref jb, .int uq, .int uz])), (js, .inl (g 0, 388, .inl us)), (jp, .inl (g 0, 1552, .inl up)), (ja, .inl (g 0, 388, .inl ua)), (jk, .inl (g 0, 97, .inl uk)), (jt, .inl (g 0, 150, .inl ut)), (jb, .inl (g 0, 1000, .inl res))] args s) (F0 m 2 ls []) := by
  obtain ⟨hx, hb, hml, hr, hown, hts, hk⟩ := id X
  intro n
  induction n with
  | zero => intro ub v2 hq; exact q_no hq
  | succ n ih =>
    intro ub v2 hq H locs hP hD hS ls hl
    rw [F_X4_bakes_2] at hq
    refine lv_iload_n hx hb dX4_bakes_2 rfl (lv_at hl 2 rfl) ?_
    refine lv_sipush (v := 999) hx hb dX4_bakes_3 (by decide) ?_
    refine lv_icmp_gt (tgt := 27) hx hb dX4_bakes_6 (by decide) (fun c3 => ?_) (fun c3 => ?_)
    · have hq := q_if_t hq c3
      obtain rfl := q_rt hq
      exact rw_vret hx hb hr hk hP hD hS dX4_bakes_27
    · have hq := q_if_f hq c3
      refine lv_aload_n hx hb dX4_bakes_9 rfl (lv_at hl 0 rfl) ?_
      refine va_get (D := G) (ci := 4) (v := .ref jb) (C := RX4) (T := TX4) (N := 11) hx hb hts in_X4_bakes_X4 hown K.1 hP 0 rfl rfl 8 (by decide) (hts _ (List.mem_of_getElem? (i := 1) rfl)) (fun _ h9 => h9) rfl dX4_bakes_10 ?_
      refine lv_iload_n hx hb dX4_bakes_13 rfl (lv_at hl 2 rfl) ?_
      refine lv_aload_n hx hb dX4_bakes_14 rfl (lv_at hl 0 rfl) ?_
      refine lv_iload_n hx hb dX4_bakes_15 rfl (lv_at hl 1 rfl) ?_
      refine lv_iload_n hx hb dX4_bakes_16 rfl (lv_at hl 2 rfl) ?_
      obtain ⟨r4, hh5, hq⟩ := q_bd hq
      refine roV (ci := 4) (As := [.int v1, .int v2]) (rest := [.int v2, .ref jb]) X K (k_X4_valueAt l G g jo js jp ja jk jt jb un uy uw uq uz us up ua uk ut ub v1 v2 _ hh5) hd_X4_valueAt gX4_bakes_X4_valueAt hP hl.1 dX4_bakes_17 rfl rfl ⟨Nat.le_of_ble_eq_true rfl, Nat.le_of_ble_eq_true rfl⟩ rfl rfl rfl (Nat.le_of_ble_eq_true rfl) ⟨Nat.zero_le _, Nat.zero_le _⟩ ?_
      obtain ⟨hh6, hq⟩ := q_gd hq
      refine va_iast hx hb K.1 hP hD hS 6 0 rfl rfl (vp_in_iff.mpr hh6) dX4_bakes_20 (fun H locs hP hD hS => ?_)
      obtain ⟨f7, ef7⟩ : ∃ y, y = upd ub v2.toNatClampNeg r4 := ⟨_, rfl⟩
      have hq := q_let hq ef7
      have hP : va_P G vwCl [(jo, .inr (4, [.ref js, .ref jp, .ref ja, .ref jk, .int un, .ref jt, .int uy, .int uw, .ref jb, .int uq, .int uz])), (js, .inl (g 0, 388, .inl us)), (jp, .inl (g 0, 1552, .inl up)), (ja, .inl (g 0, 388, .inl ua)), (jk, .inl (g 0, 97, .inl uk)), (jt, .inl (g 0, 150, .inl ut)), (jb, .inl (g 0, 1000, .inl f7))] H := by rw [ef7]; exact hP
      have hD : va_D A [(jo, .inr (4, [.ref js, .ref jp, .ref ja, .ref jk, .int un, .ref jt, .int uy, .int uw, .ref jb, .int uq, .int uz])), (js, .inl (g 0, 388, .inl us)), (jp, .inl (g 0, 1552, .inl up)), (ja, .inl (g 0, 388, .inl ua)), (jk, .inl (g 0, 97, .inl uk)), (jt, .inl (g 0, 150, .inl ut)), (jb, .inl (g 0, 1000, .inl f7))] := by rw [ef7]; exact hD
      obtain ⟨x8, ex8⟩ : ∃ y : Int32, y = (v2 : Int32) + 1 := ⟨_, rfl⟩
      have hq := q_let hq ex8
      refine lv_iinc (v := x8) (lv' := [(2, .int x8), (0, .ref jo), (1, .int v1)]) hx hb dX4_bakes_21 hl (k := 2) rfl (by rw [ex8]; rfl) (by decide) rfl (fun ls hl => ?_)
      refine lv_goto (tgt := 2) hx hb dX4_bakes_24 (by decide) ?_
      exact ih f7 x8 hq _ _ hP hD hS ls (lv_sub hl [1, 2, 0] rfl)
def F_X4_bakes (us : Nat → Int32) (ub : Nat → Int32) (p1 : Int32) : Option ((Nat → Int32)) := F_X4_bakes_2 us p1 2000 ub 0
set_option maxHeartbeats 4000000 in
set_option maxRecDepth 100000 in
theorem k_X4_bakes (l : Launch) (G : va_G) (g : Nat → ClassId) (jo js jp ja jk jt jb : Nat) (un : Int32) (uy : Int32) (uw : Int32) (uq : Int32) (uz : Int32) (us : Nat → Int32) (up : Nat → Int32) (ua : Nat → Int32) (uk : Nat → Int32) (ut : Nat → Int32) (ub : Nat → Int32) (p1 : Int32) (res : (Nat → Int32)) (hq : F_X4_bakes us ub p1 = some res) : rwC l yX4_bakes wsX4_bakes (rmF 4 110) G g [.ref jo, .int p1] [(jo, .inr (4, [.ref js, .ref jp, .ref ja, .ref jk, .int un, .ref jt, .int uy, .int uw, .ref jb, .int uq, .int uz])), (js, .inl (g 0, 388, .inl us)), (jp, .inl (g 0, 1552, .inl up)), (ja, .inl (g 0, 388, .inl ua)), (jk, .inl (g 0, 97, .inl uk)), (jt, .inl (g 0, 150, .inl ut)), (jb, .inl (g 0, 1000, .inl ub))] none [(jo, .inr (4, [.ref js, .ref jp, .ref ja, .ref jk, .int un, .ref jt, .int uy, .int uw, .ref jb, .int uq, .int uz])), (js, .inl (g 0, 388, .inl us)), (jp, .inl (g 0, 1552, .inl up)), (ja, .inl (g 0, 388, .inl ua)), (jk, .inl (g 0, 97, .inl uk)), (jt, .inl (g 0, 150, .inl ut)), (jb, .inl (g 0, 1000, .inl res))] := by
  refine rwC.of (cc := cX4_bakes) (maxL := 3) (ret := none) (by decide) rfl (Nat.le_of_ble_eq_true rfl) ?_
  intro p e s m below meth c ls A X K hA hP hD hS hl
  obtain ⟨hx, hb, hml, hr, hown, hts, hk⟩ := id X
  have hl : lv_has ls 3 [(0, .ref jo), (1, .int p1)] := hl
  unfold F_X4_bakes at hq
  refine lv_iconst (v := 0) hx hb dX4_bakes_0 (by decide) ?_
  refine lv_istore_n (lv' := [(2, .int 0), (0, .ref jo), (1, .int p1)]) hx hb dX4_bakes_1 rfl hl (by decide) rfl (fun ls hl => ?_)
  exact w_X4_bakes_2 X K hA jo js jp ja jk jt jb un uy uw uq uz up ua uk ut us p1 _ 2000 ub 0 hq _ _ hP hD hS ls (lv_sub hl [1, 2, 0] rfl)
theorem in_X4_comes_X4 : ∀ w ∈ wsX40, w ∈ wsX4_comes := fun _ h => List.mem_cons_of_mem _ (List.mem_append_right _ h)
def F_X4_comes_73 (us : Nat → Int32) (v1 : Int32) (v2 : Int32) (v3 : Int32) (v4 : Int32) (v5 : Int32) : Option (Int32 × (Nat → Int32)) := (F_X4_spot v1 v5).bind fun r6 => vgd (ix (r6 + 0) 388) <| vlet (upd us (r6 + 0).toNatClampNeg v2) fun f9 => vgd (ix (r6 + 1) 388) <| vlet (upd f9 (r6 + 1).toNatClampNeg v3) fun f11 => vgd (ix (r6 + 2) 388) <| vlet (upd f11 (r6 + 2).toNatClampNeg v4) fun f13 => vgd (ix (r6 + 3) 388) <| vlet (upd f13 (r6 + 3).toNatClampNeg 0) fun f15 => vgd (ix (r6 + 4) 388) <| vlet (upd f15 (r6 + 4).toNatClampNeg 0) fun f17 => vgd (ix (r6 + 5) 388) <| vlet (upd f17 (r6 + 5).toNatClampNeg 0) fun f19 => vlet ((97 : Int32) * v1) fun x20 => vgd (ix (x20) 388) <| vgd (ix (x20) 388) <| vlet (upd f19 x20.toNatClampNeg ((f19 x20.toNatClampNeg) + 1)) fun f23 => some (v5, f23)
set_option maxHeartbeats 4000000 in
set_option maxRecDepth 100000 in
theorem w_X4_comes_73 {p : Program} {l : Launch} {e : Env} {s : State} {m : MethodId} {args : Array Value} {below : List Frame} {meth : Method} {c : Code} {G : va_G} {g : Nat → ClassId} (X : cx p s m args meth c cX4_comes 7 (some .int) RX4 wsX4_comes) (K : amb G g s) {A : Nat → Prop} (hA : ∀ q : Nat, s.heap.size ≤ q → A q) (jo js jp ja jk jt jb : Nat) (un : Int32) (uy : Int32) (uw : Int32) (uq : Int32) (uz : Int32) (up : Nat → Int32) (ua : Nat → Int32) (uk : Nat → Int32) (ut : Nat → Int32) (ub : Nat → Int32) (us : Nat → Int32) (v1 : Int32) (v2 : Int32) (v3 : Int32) (v4 : Int32) (v5 : Int32) (res : Int32 × (Nat → Int32)) (hq : F_X4_comes_73 us v1 v2 v3 v4 v5 = some res) : ∀ (H : Heap) (locs : List Loc), va_P G vwCl [(jo, .inr (4, [.ref js, .ref jp, .ref ja, .ref jk, .int un, .ref jt, .int uy, .int uw, .ref jb, .int uq, .int uz])), (js, .inl (g 0, 388, .inl us)), (jp, .inl (g 0, 1552, .inl up)), (ja, .inl (g 0, 388, .inl ua)), (jk, .inl (g 0, 97, .inl uk)), (jt, .inl (g 0, 150, .inl ut)), (jb, .inl (g 0, 1000, .inl ub))] H → va_D A [(jo, .inr (4, [.ref js, .ref jp, .ref ja, .ref jk, .int un, .ref jt, .int uy, .int uw, .ref jb, .int uq, .int uz])), (js, .inl (g 0, 388, .inl us)), (jp, .inl (g 0, 1552, .inl up)), (ja, .inl (g 0, 388, .inl ua)), (jk, .inl (g 0, 97, .inl uk)), (jt, .inl (g 0, 150, .inl ut)), (jb, .inl (g 0, 1000, .inl ub))] → va_S A s.heap H locs → ∀ (ls : Array Slot), lv_has ls 7 [(0, .ref jo), (1, .int v1), (2, .int v2), (3, .int v3), (4, .int v4), (5, .int v5)] → W p l e (rmF 2 44) s m args below meth c H locs 0 0 (rwM G A below (some (.int res.1)) [(jo, .inr (4, [.ref js, .ref jp, .ref ja, .ref jk, .int un, .ref jt, .int uy, .int uw, .ref jb, .int uq, .int uz])), (js, .inl (g 0, 388, .inl res.2)), (jp, .inl (g 0, 1552, .inl up)), (ja, .inl (g 0, 388, .inl ua)), (jk, .inl (g 0, 97, .inl uk)), (jt, .inl (g 0, 150, .inl ut)), (jb, .inl (g 0, 1000, .inl ub))] args s) (F0 m 73 ls []) := by
  obtain ⟨hx, hb, hml, hr, hown, hts, hk⟩ := id X
  intro H locs hP hD hS ls hl
  unfold F_X4_comes_73 at hq
  refine lv_iload_n hx hb dX4_comes_73 rfl (lv_at hl 1 rfl) ?_
  refine lv_iload hx hb dX4_comes_74 (lv_at hl 5 rfl) ?_
  obtain ⟨r6, hh7, hq⟩ := q_bd hq
  refine roS (As := [.int v1, .int v5]) (rest := []) X K (k_X4_spot l G g v1 v5 _ hh7) hd_X4_spot gX4_comes_X4_spot (hP.sub [] rfl) hl.1 dX4_comes_76 rfl rfl ⟨Nat.le_of_ble_eq_true rfl, Nat.le_of_ble_eq_true rfl⟩ rfl (Nat.le_of_ble_eq_true rfl) ⟨Nat.zero_le _, Nat.zero_le _⟩ ?_
  refine lv_istore (lv' := [(6, .int r6), (0, .ref jo), (1, .int v1), (2, .int v2), (3, .int v3), (4, .int v4), (5, .int v5)]) hx hb dX4_comes_79 hl (by decide) rfl (fun ls hl => ?_)
  refine lv_aload_n hx hb dX4_comes_81 rfl (lv_at hl 1 rfl) ?_
  refine va_get (D := G) (ci := 4) (v := .ref js) (C := RX4) (T := TX4) (N := 11) hx hb hts in_X4_comes_X4 hown K.1 hP 0 rfl rfl 0 (by decide) (hts _ (List.mem_of_getElem? (i := 1) rfl)) (fun _ h9 => h9) rfl dX4_comes_82 ?_
  refine lv_iload hx hb dX4_comes_85 (lv_at hl 0 rfl) ?_
  refine lv_iconst (v := 0) hx hb dX4_comes_87 (by decide) ?_
  refine lv_iadd hx hb dX4_comes_88 ?_
  refine lv_iload_n hx hb dX4_comes_89 rfl (lv_at hl 3 rfl) ?_
  obtain ⟨hh8, hq⟩ := q_gd hq
  refine va_iast hx hb K.1 hP hD hS 1 0 rfl rfl (vp_in_iff.mpr hh8) dX4_comes_90 (fun H locs hP hD hS => ?_)
  obtain ⟨f9, ef9⟩ : ∃ y, y = upd us (r6 + 0).toNatClampNeg v2 := ⟨_, rfl⟩
  have hq := q_let hq ef9
  have hP : va_P G vwCl [(jo, .inr (4, [.ref js, .ref jp, .ref ja, .ref jk, .int un, .ref jt, .int uy, .int uw, .ref jb, .int uq, .int uz])), (js, .inl (g 0, 388, .inl f9)), (jp, .inl (g 0, 1552, .inl up)), (ja, .inl (g 0, 388, .inl ua)), (jk, .inl (g 0, 97, .inl uk)), (jt, .inl (g 0, 150, .inl ut)), (jb, .inl (g 0, 1000, .inl ub))] H := by rw [ef9]; exact hP
  have hD : va_D A [(jo, .inr (4, [.ref js, .ref jp, .ref ja, .ref jk, .int un, .ref jt, .int uy, .int uw, .ref jb, .int uq, .int uz])), (js, .inl (g 0, 388, .inl f9)), (jp, .inl (g 0, 1552, .inl up)), (ja, .inl (g 0, 388, .inl ua)), (jk, .inl (g 0, 97, .inl uk)), (jt, .inl (g 0, 150, .inl ut)), (jb, .inl (g 0, 1000, .inl ub))] := by rw [ef9]; exact hD
  refine lv_aload_n hx hb dX4_comes_91 rfl (lv_at hl 1 rfl) ?_
  refine va_get (D := G) (ci := 4) (v := .ref js) (C := RX4) (T := TX4) (N := 11) hx hb hts in_X4_comes_X4 hown K.1 hP 0 rfl rfl 0 (by decide) (hts _ (List.mem_of_getElem? (i := 1) rfl)) (fun _ h9 => h9) rfl dX4_comes_92 ?_
  refine lv_iload hx hb dX4_comes_95 (lv_at hl 0 rfl) ?_
  refine lv_iconst (v := 1) hx hb dX4_comes_97 (by decide) ?_
  refine lv_iadd hx hb dX4_comes_98 ?_
  refine lv_iload_n hx hb dX4_comes_99 rfl (lv_at hl 4 rfl) ?_
  obtain ⟨hh10, hq⟩ := q_gd hq
  refine va_iast hx hb K.1 hP hD hS 1 0 rfl rfl (vp_in_iff.mpr hh10) dX4_comes_100 (fun H locs hP hD hS => ?_)
  obtain ⟨f11, ef11⟩ : ∃ y, y = upd f9 (r6 + 1).toNatClampNeg v3 := ⟨_, rfl⟩
  have hq := q_let hq ef11
  have hP : va_P G vwCl [(jo, .inr (4, [.ref js, .ref jp, .ref ja, .ref jk, .int un, .ref jt, .int uy, .int uw, .ref jb, .int uq, .int uz])), (js, .inl (g 0, 388, .inl f11)), (jp, .inl (g 0, 1552, .inl up)), (ja, .inl (g 0, 388, .inl ua)), (jk, .inl (g 0, 97, .inl uk)), (jt, .inl (g 0, 150, .inl ut)), (jb, .inl (g 0, 1000, .inl ub))] H := by rw [ef11]; exact hP
  have hD : va_D A [(jo, .inr (4, [.ref js, .ref jp, .ref ja, .ref jk, .int un, .ref jt, .int uy, .int uw, .ref jb, .int uq, .int uz])), (js, .inl (g 0, 388, .inl f11)), (jp, .inl (g 0, 1552, .inl up)), (ja, .inl (g 0, 388, .inl ua)), (jk, .inl (g 0, 97, .inl uk)), (jt, .inl (g 0, 150, .inl ut)), (jb, .inl (g 0, 1000, .inl ub))] := by rw [ef11]; exact hD
  refine lv_aload_n hx hb dX4_comes_101 rfl (lv_at hl 1 rfl) ?_
  refine va_get (D := G) (ci := 4) (v := .ref js) (C := RX4) (T := TX4) (N := 11) hx hb hts in_X4_comes_X4 hown K.1 hP 0 rfl rfl 0 (by decide) (hts _ (List.mem_of_getElem? (i := 1) rfl)) (fun _ h9 => h9) rfl dX4_comes_102 ?_
  refine lv_iload hx hb dX4_comes_105 (lv_at hl 0 rfl) ?_
  refine lv_iconst (v := 2) hx hb dX4_comes_107 (by decide) ?_
  refine lv_iadd hx hb dX4_comes_108 ?_
  refine lv_iload hx hb dX4_comes_109 (lv_at hl 5 rfl) ?_
  obtain ⟨hh12, hq⟩ := q_gd hq
  refine va_iast hx hb K.1 hP hD hS 1 0 rfl rfl (vp_in_iff.mpr hh12) dX4_comes_111 (fun H locs hP hD hS => ?_)
  obtain ⟨f13, ef13⟩ : ∃ y, y = upd f11 (r6 + 2).toNatClampNeg v4 := ⟨_, rfl⟩
  have hq := q_let hq ef13
  have hP : va_P G vwCl [(jo, .inr (4, [.ref js, .ref jp, .ref ja, .ref jk, .int un, .ref jt, .int uy, .int uw, .ref jb, .int uq, .int uz])), (js, .inl (g 0, 388, .inl f13)), (jp, .inl (g 0, 1552, .inl up)), (ja, .inl (g 0, 388, .inl ua)), (jk, .inl (g 0, 97, .inl uk)), (jt, .inl (g 0, 150, .inl ut)), (jb, .inl (g 0, 1000, .inl ub))] H := by rw [ef13]; exact hP
  have hD : va_D A [(jo, .inr (4, [.ref js, .ref jp, .ref ja, .ref jk, .int un, .ref jt, .int uy, .int uw, .ref jb, .int uq, .int uz])), (js, .inl (g 0, 388, .inl f13)), (jp, .inl (g 0, 1552, .inl up)), (ja, .inl (g 0, 388, .inl ua)), (jk, .inl (g 0, 97, .inl uk)), (jt, .inl (g 0, 150, .inl ut)), (jb, .inl (g 0, 1000, .inl ub))] := by rw [ef13]; exact hD
  refine lv_aload_n hx hb dX4_comes_112 rfl (lv_at hl 1 rfl) ?_
  refine va_get (D := G) (ci := 4) (v := .ref js) (C := RX4) (T := TX4) (N := 11) hx hb hts in_X4_comes_X4 hown K.1 hP 0 rfl rfl 0 (by decide) (hts _ (List.mem_of_getElem? (i := 1) rfl)) (fun _ h9 => h9) rfl dX4_comes_113 ?_
  refine lv_iload hx hb dX4_comes_116 (lv_at hl 0 rfl) ?_
  refine lv_iconst (v := 3) hx hb dX4_comes_118 (by decide) ?_
  refine lv_iadd hx hb dX4_comes_119 ?_
  refine lv_iconst (v := 0) hx hb dX4_comes_120 (by decide) ?_
  obtain ⟨hh14, hq⟩ := q_gd hq
  refine va_iast hx hb K.1 hP hD hS 1 0 rfl rfl (vp_in_iff.mpr hh14) dX4_comes_121 (fun H locs hP hD hS => ?_)
  obtain ⟨f15, ef15⟩ : ∃ y, y = upd f13 (r6 + 3).toNatClampNeg 0 := ⟨_, rfl⟩
  have hq := q_let hq ef15
  have hP : va_P G vwCl [(jo, .inr (4, [.ref js, .ref jp, .ref ja, .ref jk, .int un, .ref jt, .int uy, .int uw, .ref jb, .int uq, .int uz])), (js, .inl (g 0, 388, .inl f15)), (jp, .inl (g 0, 1552, .inl up)), (ja, .inl (g 0, 388, .inl ua)), (jk, .inl (g 0, 97, .inl uk)), (jt, .inl (g 0, 150, .inl ut)), (jb, .inl (g 0, 1000, .inl ub))] H := by rw [ef15]; exact hP
  have hD : va_D A [(jo, .inr (4, [.ref js, .ref jp, .ref ja, .ref jk, .int un, .ref jt, .int uy, .int uw, .ref jb, .int uq, .int uz])), (js, .inl (g 0, 388, .inl f15)), (jp, .inl (g 0, 1552, .inl up)), (ja, .inl (g 0, 388, .inl ua)), (jk, .inl (g 0, 97, .inl uk)), (jt, .inl (g 0, 150, .inl ut)), (jb, .inl (g 0, 1000, .inl ub))] := by rw [ef15]; exact hD
  refine lv_aload_n hx hb dX4_comes_122 rfl (lv_at hl 1 rfl) ?_
  refine va_get (D := G) (ci := 4) (v := .ref js) (C := RX4) (T := TX4) (N := 11) hx hb hts in_X4_comes_X4 hown K.1 hP 0 rfl rfl 0 (by decide) (hts _ (List.mem_of_getElem? (i := 1) rfl)) (fun _ h9 => h9) rfl dX4_comes_123 ?_
  refine lv_iload hx hb dX4_comes_126 (lv_at hl 0 rfl) ?_
  refine lv_iconst (v := 4) hx hb dX4_comes_128 (by decide) ?_
  refine lv_iadd hx hb dX4_comes_129 ?_
  refine lv_iconst (v := 0) hx hb dX4_comes_130 (by decide) ?_
  obtain ⟨hh16, hq⟩ := q_gd hq
  refine va_iast hx hb K.1 hP hD hS 1 0 rfl rfl (vp_in_iff.mpr hh16) dX4_comes_131 (fun H locs hP hD hS => ?_)
  obtain ⟨f17, ef17⟩ : ∃ y, y = upd f15 (r6 + 4).toNatClampNeg 0 := ⟨_, rfl⟩
  have hq := q_let hq ef17
  have hP : va_P G vwCl [(jo, .inr (4, [.ref js, .ref jp, .ref ja, .ref jk, .int un, .ref jt, .int uy, .int uw, .ref jb, .int uq, .int uz])), (js, .inl (g 0, 388, .inl f17)), (jp, .inl (g 0, 1552, .inl up)), (ja, .inl (g 0, 388, .inl ua)), (jk, .inl (g 0, 97, .inl uk)), (jt, .inl (g 0, 150, .inl ut)), (jb, .inl (g 0, 1000, .inl ub))] H := by rw [ef17]; exact hP
  have hD : va_D A [(jo, .inr (4, [.ref js, .ref jp, .ref ja, .ref jk, .int un, .ref jt, .int uy, .int uw, .ref jb, .int uq, .int uz])), (js, .inl (g 0, 388, .inl f17)), (jp, .inl (g 0, 1552, .inl up)), (ja, .inl (g 0, 388, .inl ua)), (jk, .inl (g 0, 97, .inl uk)), (jt, .inl (g 0, 150, .inl ut)), (jb, .inl (g 0, 1000, .inl ub))] := by rw [ef17]; exact hD
  refine lv_aload_n hx hb dX4_comes_132 rfl (lv_at hl 1 rfl) ?_
  refine va_get (D := G) (ci := 4) (v := .ref js) (C := RX4) (T := TX4) (N := 11) hx hb hts in_X4_comes_X4 hown K.1 hP 0 rfl rfl 0 (by decide) (hts _ (List.mem_of_getElem? (i := 1) rfl)) (fun _ h9 => h9) rfl dX4_comes_133 ?_
  refine lv_iload hx hb dX4_comes_136 (lv_at hl 0 rfl) ?_
  refine lv_iconst (v := 5) hx hb dX4_comes_138 (by decide) ?_
  refine lv_iadd hx hb dX4_comes_139 ?_
  refine lv_iconst (v := 0) hx hb dX4_comes_140 (by decide) ?_
  obtain ⟨hh18, hq⟩ := q_gd hq
  refine va_iast hx hb K.1 hP hD hS 1 0 rfl rfl (vp_in_iff.mpr hh18) dX4_comes_141 (fun H locs hP hD hS => ?_)
  obtain ⟨f19, ef19⟩ : ∃ y, y = upd f17 (r6 + 5).toNatClampNeg 0 := ⟨_, rfl⟩
  have hq := q_let hq ef19
  have hP : va_P G vwCl [(jo, .inr (4, [.ref js, .ref jp, .ref ja, .ref jk, .int un, .ref jt, .int uy, .int uw, .ref jb, .int uq, .int uz])), (js, .inl (g 0, 388, .inl f19)), (jp, .inl (g 0, 1552, .inl up)), (ja, .inl (g 0, 388, .inl ua)), (jk, .inl (g 0, 97, .inl uk)), (jt, .inl (g 0, 150, .inl ut)), (jb, .inl (g 0, 1000, .inl ub))] H := by rw [ef19]; exact hP
  have hD : va_D A [(jo, .inr (4, [.ref js, .ref jp, .ref ja, .ref jk, .int un, .ref jt, .int uy, .int uw, .ref jb, .int uq, .int uz])), (js, .inl (g 0, 388, .inl f19)), (jp, .inl (g 0, 1552, .inl up)), (ja, .inl (g 0, 388, .inl ua)), (jk, .inl (g 0, 97, .inl uk)), (jt, .inl (g 0, 150, .inl ut)), (jb, .inl (g 0, 1000, .inl ub))] := by rw [ef19]; exact hD
  refine lv_aload_n hx hb dX4_comes_142 rfl (lv_at hl 1 rfl) ?_
  refine va_get (D := G) (ci := 4) (v := .ref js) (C := RX4) (T := TX4) (N := 11) hx hb hts in_X4_comes_X4 hown K.1 hP 0 rfl rfl 0 (by decide) (hts _ (List.mem_of_getElem? (i := 1) rfl)) (fun _ h9 => h9) rfl dX4_comes_143 ?_
  refine lv_bipush (v := 97) hx hb dX4_comes_146 (by decide) ?_
  refine lv_iload_n hx hb dX4_comes_148 rfl (lv_at hl 2 rfl) ?_
  refine lv_imul hx hb dX4_comes_149 ?_
  refine lv_topi (fun x20 ex20 => ?_)
  have hq := q_let hq ex20
  refine lv_dup2_11 hx hb dX4_comes_150 rfl rfl ?_
  obtain ⟨hh21, hq⟩ := q_gd hq
  refine va_iald hx hb K.1 hP 1 0 rfl rfl (vp_in_iff.mpr hh21) dX4_comes_151 ?_
  refine lv_iconst (v := 1) hx hb dX4_comes_152 (by decide) ?_
  refine lv_iadd hx hb dX4_comes_153 ?_
  obtain ⟨hh22, hq⟩ := q_gd hq
  refine va_iast hx hb K.1 hP hD hS 1 0 rfl rfl (vp_in_iff.mpr hh22) dX4_comes_154 (fun H locs hP hD hS => ?_)
  obtain ⟨f23, ef23⟩ : ∃ y, y = upd f19 x20.toNatClampNeg ((f19 x20.toNatClampNeg) + 1) := ⟨_, rfl⟩
  have hq := q_let hq ef23
  have hP : va_P G vwCl [(jo, .inr (4, [.ref js, .ref jp, .ref ja, .ref jk, .int un, .ref jt, .int uy, .int uw, .ref jb, .int uq, .int uz])), (js, .inl (g 0, 388, .inl f23)), (jp, .inl (g 0, 1552, .inl up)), (ja, .inl (g 0, 388, .inl ua)), (jk, .inl (g 0, 97, .inl uk)), (jt, .inl (g 0, 150, .inl ut)), (jb, .inl (g 0, 1000, .inl ub))] H := by rw [ef23]; exact hP
  have hD : va_D A [(jo, .inr (4, [.ref js, .ref jp, .ref ja, .ref jk, .int un, .ref jt, .int uy, .int uw, .ref jb, .int uq, .int uz])), (js, .inl (g 0, 388, .inl f23)), (jp, .inl (g 0, 1552, .inl up)), (ja, .inl (g 0, 388, .inl ua)), (jk, .inl (g 0, 97, .inl uk)), (jt, .inl (g 0, 150, .inl ut)), (jb, .inl (g 0, 1000, .inl ub))] := by rw [ef23]; exact hD
  refine lv_iload hx hb dX4_comes_155 (lv_at hl 6 rfl) ?_
  obtain rfl := q_rt hq
  exact rw_iret hx hb hr hk hP hD hS dX4_comes_157
def F_X4_comes_29 (v1 : Int32) (v2 : Int32) (v3 : Int32) (v4 : Int32) (v5 : Int32) : Nat → (Nat → Int32) → Int32 → Option ((Nat → Int32))
  | 0, _, _ => none
  | n + 1, us, v6 => if (6 : Int32) ≤ v6 then (some us) else ((F_X4_spot v1 v5).bind fun r8 => (F_X4_of us v1 (v5 - 1) v6).bind fun r10 => vgd (ix (r8 + v6) 388) <| vlet (upd us (r8 + v6).toNatClampNeg r10) fun f13 => vlet ((v6 : Int32) + 1) fun x14 => F_X4_comes_29 v1 v2 v3 v4 v5 n f13 x14)
set_option maxHeartbeats 4000000 in
set_option maxRecDepth 100000 in
theorem w_X4_comes_29 {p : Program} {l : Launch} {e : Env} {s : State} {m : MethodId} {args : Array Value} {below : List Frame} {meth : Method} {c : Code} {G : va_G} {g : Nat → ClassId} (X : cx p s m args meth c cX4_comes 7 (some .int) RX4 wsX4_comes) (K : amb G g s) {A : Nat → Prop} (hA : ∀ q : Nat, s.heap.size ≤ q → A q) (jo js jp ja jk jt jb : Nat) (un : Int32) (uy : Int32) (uw : Int32) (uq : Int32) (uz : Int32) (up : Nat → Int32) (ua : Nat → Int32) (uk : Nat → Int32) (ut : Nat → Int32) (ub : Nat → Int32) (v1 : Int32) (v2 : Int32) (v3 : Int32) (v4 : Int32) (v5 : Int32) (res : (Nat → Int32)) {Q : State → Prop} (kk : ∀ (H : Heap) (locs : List Loc), va_P G vwCl [(jo, .inr (4, [.ref js, .ref jp, .ref ja, .ref jk, .int un, .ref jt, .int uy, .int uw, .ref jb, .int uq, .int uz])), (js, .inl (g 0, 388, .inl res)), (jp, .inl (g 0, 1552, .inl up)), (ja, .inl (g 0, 388, .inl ua)), (jk, .inl (g 0, 97, .inl uk)), (jt, .inl (g 0, 150, .inl ut)), (jb, .inl (g 0, 1000, .inl ub))] H → va_D A [(jo, .inr (4, [.ref js, .ref jp, .ref ja, .ref jk, .int un, .ref jt, .int uy, .int uw, .ref jb, .int uq, .int uz])), (js, .inl (g 0, 388, .inl res)), (jp, .inl (g 0, 1552, .inl up)), (ja, .inl (g 0, 388, .inl ua)), (jk, .inl (g 0, 97, .inl uk)), (jt, .inl (g 0, 150, .inl ut)), (jb, .inl (g 0, 1000, .inl ub))] → va_S A s.heap H locs → ∀ (ls : Array Slot), lv_has ls 7 [(0, .ref jo), (1, .int v1), (2, .int v2), (3, .int v3), (4, .int v4), (5, .int v5)] → W p l e (rmF 2 44) s m args below meth c H locs 0 0 Q (F0 m 67 ls [])) : ∀ (n : Nat) (us : Nat → Int32) (v6 : Int32), F_X4_comes_29 v1 v2 v3 v4 v5 n us v6 = some res → ∀ (H : Heap) (locs : List Loc), va_P G vwCl [(jo, .inr (4, [.ref js, .ref jp, .ref ja, .ref jk, .int un, .ref jt, .int uy, .int uw, .ref jb, .int uq, .int uz])), (js, .inl (g 0, 388, .inl us)), (jp, .inl (g 0, 1552, .inl up)), (ja, .inl (g 0, 388, .inl ua)), (jk, .inl (g 0, 97, .inl uk)), (jt, .inl (g 0, 150, .inl ut)), (jb, .inl (g 0, 1000, .inl ub))] H → va_D A [(jo, .inr (4, [.ref js, .ref jp, .ref ja, .ref jk, .int un, .ref jt, .int uy, .int uw, .ref jb, .int uq, .int uz])), (js, .inl (g 0, 388, .inl us)), (jp, .inl (g 0, 1552, .inl up)), (ja, .inl (g 0, 388, .inl ua)), (jk, .inl (g 0, 97, .inl uk)), (jt, .inl (g 0, 150, .inl ut)), (jb, .inl (g 0, 1000, .inl ub))] → va_S A s.heap H locs → ∀ (ls : Array Slot), lv_has ls 7 [(0, .ref jo), (1, .int v1), (2, .int v2), (3, .int v3), (4, .int v4), (5, .int v5), (6, .int v6)] → W p l e (rmF 2 44) s m args below meth c H locs 0 0 Q (F0 m 29 ls []) := by
  obtain ⟨hx, hb, hml, hr, hown, hts, hk⟩ := id X
  intro n
  induction n with
  | zero => intro us v6 hq; exact q_no hq
  | succ n ih =>
    intro us v6 hq H locs hP hD hS ls hl
    rw [F_X4_comes_29] at hq
    refine lv_iload hx hb dX4_comes_29 (lv_at hl 6 rfl) ?_
    refine lv_bipush (v := 6) hx hb dX4_comes_31 (by decide) ?_
    refine lv_icmp_ge (tgt := 67) hx hb dX4_comes_33 (by decide) (fun c7 => ?_) (fun c7 => ?_)
    · have hq := q_if_t hq c7
      obtain rfl := q_rt hq
      exact kk _ _ hP hD hS ls (lv_sub hl [0, 1, 2, 3, 4, 5] rfl)
    · have hq := q_if_f hq c7
      refine lv_aload_n hx hb dX4_comes_36 rfl (lv_at hl 0 rfl) ?_
      refine va_get (D := G) (ci := 4) (v := .ref js) (C := RX4) (T := TX4) (N := 11) hx hb hts in_X4_comes_X4 hown K.1 hP 0 rfl rfl 0 (by decide) (hts _ (List.mem_of_getElem? (i := 1) rfl)) (fun _ h9 => h9) rfl dX4_comes_37 ?_
      refine lv_iload_n hx hb dX4_comes_40 rfl (lv_at hl 1 rfl) ?_
      refine lv_iload hx hb dX4_comes_41 (lv_at hl 5 rfl) ?_
      obtain ⟨r8, hh9, hq⟩ := q_bd hq
      refine roS (As := [.int v1, .int v5]) (rest := [.ref js]) X K (k_X4_spot l G g v1 v5 _ hh9) hd_X4_spot gX4_comes_X4_spot (hP.sub [] rfl) hl.1 dX4_comes_43 rfl rfl ⟨Nat.le_of_ble_eq_true rfl, Nat.le_of_ble_eq_true rfl⟩ rfl (Nat.le_of_ble_eq_true rfl) ⟨Nat.zero_le _, Nat.zero_le _⟩ ?_
      refine lv_iload hx hb dX4_comes_46 (lv_at hl 6 rfl) ?_
      refine lv_iadd hx hb dX4_comes_48 ?_
      refine lv_aload_n hx hb dX4_comes_49 rfl (lv_at hl 0 rfl) ?_
      refine lv_iload_n hx hb dX4_comes_50 rfl (lv_at hl 1 rfl) ?_
      refine lv_iload hx hb dX4_comes_51 (lv_at hl 5 rfl) ?_
      refine lv_iconst (v := 1) hx hb dX4_comes_53 (by decide) ?_
      refine lv_isub hx hb dX4_comes_54 ?_
      refine lv_iload hx hb dX4_comes_55 (lv_at hl 6 rfl) ?_
      obtain ⟨r10, hh11, hq⟩ := q_bd hq
      refine roV (ci := 4) (As := [.int v1, .int (v5 - 1), .int v6]) (rest := [.int (r8 + v6), .ref js]) X K (k_X4_of l G g jo js jp ja jk jt jb un uy uw uq uz us up ua uk ut ub v1 (v5 - 1) v6 _ hh11) hd_X4_of gX4_comes_X4_of hP hl.1 dX4_comes_57 rfl rfl ⟨Nat.le_of_ble_eq_true rfl, Nat.le_of_ble_eq_true rfl⟩ rfl rfl rfl (Nat.le_of_ble_eq_true rfl) ⟨Nat.zero_le _, Nat.zero_le _⟩ ?_
      obtain ⟨hh12, hq⟩ := q_gd hq
      refine va_iast hx hb K.1 hP hD hS 1 0 rfl rfl (vp_in_iff.mpr hh12) dX4_comes_60 (fun H locs hP hD hS => ?_)
      obtain ⟨f13, ef13⟩ : ∃ y, y = upd us (r8 + v6).toNatClampNeg r10 := ⟨_, rfl⟩
      have hq := q_let hq ef13
      have hP : va_P G vwCl [(jo, .inr (4, [.ref js, .ref jp, .ref ja, .ref jk, .int un, .ref jt, .int uy, .int uw, .ref jb, .int uq, .int uz])), (js, .inl (g 0, 388, .inl f13)), (jp, .inl (g 0, 1552, .inl up)), (ja, .inl (g 0, 388, .inl ua)), (jk, .inl (g 0, 97, .inl uk)), (jt, .inl (g 0, 150, .inl ut)), (jb, .inl (g 0, 1000, .inl ub))] H := by rw [ef13]; exact hP
      have hD : va_D A [(jo, .inr (4, [.ref js, .ref jp, .ref ja, .ref jk, .int un, .ref jt, .int uy, .int uw, .ref jb, .int uq, .int uz])), (js, .inl (g 0, 388, .inl f13)), (jp, .inl (g 0, 1552, .inl up)), (ja, .inl (g 0, 388, .inl ua)), (jk, .inl (g 0, 97, .inl uk)), (jt, .inl (g 0, 150, .inl ut)), (jb, .inl (g 0, 1000, .inl ub))] := by rw [ef13]; exact hD
      obtain ⟨x14, ex14⟩ : ∃ y : Int32, y = (v6 : Int32) + 1 := ⟨_, rfl⟩
      have hq := q_let hq ex14
      refine lv_iinc (v := x14) (lv' := [(6, .int x14), (0, .ref jo), (1, .int v1), (2, .int v2), (3, .int v3), (4, .int v4), (5, .int v5)]) hx hb dX4_comes_61 hl (k := 6) rfl (by rw [ex14]; rfl) (by decide) rfl (fun ls hl => ?_)
      refine lv_goto (tgt := 29) hx hb dX4_comes_64 (by decide) ?_
      exact ih f13 x14 hq _ _ hP hD hS ls (lv_sub hl [1, 2, 3, 4, 5, 6, 0] rfl)
def F_X4_comes_7 (v1 : Int32) (v2 : Int32) (v3 : Int32) (v4 : Int32) : Nat → (Nat → Int32) → Int32 → Option (Int32 × (Nat → Int32))
  | 0, _, _ => none
  | n + 1, us, v5 => if v5 ≤ 0 then (F_X4_comes_73 us v1 v2 v3 v4 v5) else ((F_X4_of us v1 (v5 - 1) 0).bind fun r7 => if r7 ≤ v2 then (F_X4_comes_73 us v1 v2 v3 v4 v5) else ((F_X4_comes_29 v1 v2 v3 v4 v5 2000 us 0).bind fun o10 => vlet ((v5 : Int32) + (-1)) fun x11 => F_X4_comes_7 v1 v2 v3 v4 n o10 x11))
set_option maxHeartbeats 4000000 in
set_option maxRecDepth 100000 in
theorem w_X4_comes_7 {p : Program} {l : Launch} {e : Env} {s : State} {m : MethodId} {args : Array Value} {below : List Frame} {meth : Method} {c : Code} {G : va_G} {g : Nat → ClassId} (X : cx p s m args meth c cX4_comes 7 (some .int) RX4 wsX4_comes) (K : amb G g s) {A : Nat → Prop} (hA : ∀ q : Nat, s.heap.size ≤ q → A q) (jo js jp ja jk jt jb : Nat) (un : Int32) (uy : Int32) (uw : Int32) (uq : Int32) (uz : Int32) (up : Nat → Int32) (ua : Nat → Int32) (uk : Nat → Int32) (ut : Nat → Int32) (ub : Nat → Int32) (v1 : Int32) (v2 : Int32) (v3 : Int32) (v4 : Int32) (res : Int32 × (Nat → Int32)) : ∀ (n : Nat) (us : Nat → Int32) (v5 : Int32), F_X4_comes_7 v1 v2 v3 v4 n us v5 = some res → ∀ (H : Heap) (locs : List Loc), va_P G vwCl [(jo, .inr (4, [.ref js, .ref jp, .ref ja, .ref jk, .int un, .ref jt, .int uy, .int uw, .ref jb, .int uq, .int uz])), (js, .inl (g 0, 388, .inl us)), (jp, .inl (g 0, 1552, .inl up)), (ja, .inl (g 0, 388, .inl ua)), (jk, .inl (g 0, 97, .inl uk)), (jt, .inl (g 0, 150, .inl ut)), (jb, .inl (g 0, 1000, .inl ub))] H → va_D A [(jo, .inr (4, [.ref js, .ref jp, .ref ja, .ref jk, .int un, .ref jt, .int uy, .int uw, .ref jb, .int uq, .int uz])), (js, .inl (g 0, 388, .inl us)), (jp, .inl (g 0, 1552, .inl up)), (ja, .inl (g 0, 388, .inl ua)), (jk, .inl (g 0, 97, .inl uk)), (jt, .inl (g 0, 150, .inl ut)), (jb, .inl (g 0, 1000, .inl ub))] → va_S A s.heap H locs → ∀ (ls : Array Slot), lv_has ls 7 [(0, .ref jo), (1, .int v1), (2, .int v2), (3, .int v3), (4, .int v4), (5, .int v5)] → W p l e (rmF 2 44) s m args below meth c H locs 0 0 (rwM G A below (some (.int res.1)) [(jo, .inr (4, [.ref js, .ref jp, .ref ja, .ref jk, .int un, .ref jt, .int uy, .int uw, .ref jb, .int uq, .int uz])), (js, .inl (g 0, 388, .inl res.2)), (jp, .inl (g 0, 1552, .inl up)), (ja, .inl (g 0, 388, .inl ua)), (jk, .inl (g 0, 97, .inl uk)), (jt, .inl (g 0, 150, .inl ut)), (jb, .inl (g 0, 1000, .inl ub))] args s) (F0 m 7 ls []) := by
  obtain ⟨hx, hb, hml, hr, hown, hts, hk⟩ := id X
  intro n
  induction n with
  | zero => intro us v5 hq; exact q_no hq
  | succ n ih =>
    intro us v5 hq H locs hP hD hS ls hl
    rw [F_X4_comes_7] at hq
    refine lv_iload hx hb dX4_comes_7 (lv_at hl 5 rfl) ?_
    refine lv_if_le (tgt := 73) hx hb dX4_comes_9 (by decide) (fun c6 => ?_) (fun c6 => ?_)
    · have hq := q_if_t hq c6
      exact w_X4_comes_73 X K hA jo js jp ja jk jt jb un uy uw uq uz up ua uk ut ub us v1 v2 v3 v4 v5 _ hq _ _ hP hD hS ls (lv_sub hl [0, 1, 2, 3, 4, 5] rfl)
    · have hq := q_if_f hq c6
      refine lv_aload_n hx hb dX4_comes_12 rfl (lv_at hl 0 rfl) ?_
      refine lv_iload_n hx hb dX4_comes_13 rfl (lv_at hl 1 rfl) ?_
      refine lv_iload hx hb dX4_comes_14 (lv_at hl 5 rfl) ?_
      refine lv_iconst (v := 1) hx hb dX4_comes_16 (by decide) ?_
      refine lv_isub hx hb dX4_comes_17 ?_
      refine lv_iconst (v := 0) hx hb dX4_comes_18 (by decide) ?_
      obtain ⟨r7, hh8, hq⟩ := q_bd hq
      refine roV (ci := 4) (As := [.int v1, .int (v5 - 1), .int 0]) (rest := []) X K (k_X4_of l G g jo js jp ja jk jt jb un uy uw uq uz us up ua uk ut ub v1 (v5 - 1) 0 _ hh8) hd_X4_of gX4_comes_X4_of hP hl.1 dX4_comes_19 rfl rfl ⟨Nat.le_of_ble_eq_true rfl, Nat.le_of_ble_eq_true rfl⟩ rfl rfl rfl (Nat.le_of_ble_eq_true rfl) ⟨Nat.zero_le _, Nat.zero_le _⟩ ?_
      refine lv_iload_n hx hb dX4_comes_22 rfl (lv_at hl 2 rfl) ?_
      refine lv_icmp_le (tgt := 73) hx hb dX4_comes_23 (by decide) (fun c9 => ?_) (fun c9 => ?_)
      · have hq := q_if_t hq c9
        exact w_X4_comes_73 X K hA jo js jp ja jk jt jb un uy uw uq uz up ua uk ut ub us v1 v2 v3 v4 v5 _ hq _ _ hP hD hS ls (lv_sub hl [0, 1, 2, 3, 4, 5] rfl)
      · have hq := q_if_f hq c9
        refine lv_iconst (v := 0) hx hb dX4_comes_26 (by decide) ?_
        refine lv_istore (lv' := [(6, .int 0), (0, .ref jo), (1, .int v1), (2, .int v2), (3, .int v3), (4, .int v4), (5, .int v5)]) hx hb dX4_comes_27 hl (by decide) rfl (fun ls hl => ?_)
        obtain ⟨o10, ho10, hq⟩ := q_bd hq
        refine w_X4_comes_29 X K hA jo js jp ja jk jt jb un uy uw uq uz up ua uk ut ub v1 v2 v3 v4 v5 o10 (fun H locs hP hD hS ls hl => ?_) 2000 us 0 ho10 _ _ hP hD hS ls (lv_sub hl [1, 2, 3, 4, 5, 6, 0] rfl)
        have hl : lv_has ls 7 [(0, .ref jo), (1, .int v1), (2, .int v2), (3, .int v3), (4, .int v4), (5, .int v5)] := hl
        have hP : va_P G vwCl [(jo, .inr (4, [.ref js, .ref jp, .ref ja, .ref jk, .int un, .ref jt, .int uy, .int uw, .ref jb, .int uq, .int uz])), (js, .inl (g 0, 388, .inl o10)), (jp, .inl (g 0, 1552, .inl up)), (ja, .inl (g 0, 388, .inl ua)), (jk, .inl (g 0, 97, .inl uk)), (jt, .inl (g 0, 150, .inl ut)), (jb, .inl (g 0, 1000, .inl ub))] H := hP
        have hD : va_D A [(jo, .inr (4, [.ref js, .ref jp, .ref ja, .ref jk, .int un, .ref jt, .int uy, .int uw, .ref jb, .int uq, .int uz])), (js, .inl (g 0, 388, .inl o10)), (jp, .inl (g 0, 1552, .inl up)), (ja, .inl (g 0, 388, .inl ua)), (jk, .inl (g 0, 97, .inl uk)), (jt, .inl (g 0, 150, .inl ut)), (jb, .inl (g 0, 1000, .inl ub))] := hD
        obtain ⟨x11, ex11⟩ : ∃ y : Int32, y = (v5 : Int32) + (-1) := ⟨_, rfl⟩
        have hq := q_let hq ex11
        refine lv_iinc (v := x11) (lv' := [(5, .int x11), (0, .ref jo), (1, .int v1), (2, .int v2), (3, .int v3), (4, .int v4)]) hx hb dX4_comes_67 hl (k := 5) rfl (by rw [ex11]; rfl) (by decide) rfl (fun ls hl => ?_)
        refine lv_goto (tgt := 7) hx hb dX4_comes_70 (by decide) ?_
        exact ih o10 x11 hq _ _ hP hD hS ls (lv_sub hl [1, 2, 3, 4, 5, 0] rfl)
def F_X4_comes (us : Nat → Int32) (p1 : Int32) (p2 : Int32) (p3 : Int32) (p4 : Int32) : Option (Int32 × (Nat → Int32)) := (F_X4_many us p1).bind fun r1 => F_X4_comes_7 p1 p2 p3 p4 2000 us r1
set_option maxHeartbeats 4000000 in
set_option maxRecDepth 100000 in
theorem k_X4_comes (l : Launch) (G : va_G) (g : Nat → ClassId) (jo js jp ja jk jt jb : Nat) (un : Int32) (uy : Int32) (uw : Int32) (uq : Int32) (uz : Int32) (us : Nat → Int32) (up : Nat → Int32) (ua : Nat → Int32) (uk : Nat → Int32) (ut : Nat → Int32) (ub : Nat → Int32) (p1 : Int32) (p2 : Int32) (p3 : Int32) (p4 : Int32) (res : Int32 × (Nat → Int32)) (hq : F_X4_comes us p1 p2 p3 p4 = some res) : rwC l yX4_comes wsX4_comes (rmF 2 44) G g [.ref jo, .int p1, .int p2, .int p3, .int p4] [(jo, .inr (4, [.ref js, .ref jp, .ref ja, .ref jk, .int un, .ref jt, .int uy, .int uw, .ref jb, .int uq, .int uz])), (js, .inl (g 0, 388, .inl us)), (jp, .inl (g 0, 1552, .inl up)), (ja, .inl (g 0, 388, .inl ua)), (jk, .inl (g 0, 97, .inl uk)), (jt, .inl (g 0, 150, .inl ut)), (jb, .inl (g 0, 1000, .inl ub))] (some (.int res.1)) [(jo, .inr (4, [.ref js, .ref jp, .ref ja, .ref jk, .int un, .ref jt, .int uy, .int uw, .ref jb, .int uq, .int uz])), (js, .inl (g 0, 388, .inl res.2)), (jp, .inl (g 0, 1552, .inl up)), (ja, .inl (g 0, 388, .inl ua)), (jk, .inl (g 0, 97, .inl uk)), (jt, .inl (g 0, 150, .inl ut)), (jb, .inl (g 0, 1000, .inl ub))] := by
  refine rwC.of (cc := cX4_comes) (maxL := 7) (ret := (some .int)) (by decide) rfl (Nat.le_of_ble_eq_true rfl) ?_
  intro p e s m below meth c ls A X K hA hP hD hS hl
  obtain ⟨hx, hb, hml, hr, hown, hts, hk⟩ := id X
  have hl : lv_has ls 7 [(0, .ref jo), (1, .int p1), (2, .int p2), (3, .int p3), (4, .int p4)] := hl
  unfold F_X4_comes at hq
  refine lv_aload_n hx hb dX4_comes_0 rfl (lv_at hl 0 rfl) ?_
  refine lv_iload_n hx hb dX4_comes_1 rfl (lv_at hl 1 rfl) ?_
  obtain ⟨r1, hh2, hq⟩ := q_bd hq
  refine roV (ci := 4) (As := [.int p1]) (rest := []) X K (k_X4_many l G g jo js jp ja jk jt jb un uy uw uq uz us up ua uk ut ub p1 _ hh2) hd_X4_many gX4_comes_X4_many hP hl.1 dX4_comes_2 rfl rfl ⟨Nat.le_of_ble_eq_true rfl, Nat.le_of_ble_eq_true rfl⟩ rfl rfl rfl (Nat.le_of_ble_eq_true rfl) ⟨Nat.zero_le _, Nat.zero_le _⟩ ?_
  refine lv_istore (lv' := [(5, .int r1), (0, .ref jo), (1, .int p1), (2, .int p2), (3, .int p3), (4, .int p4)]) hx hb dX4_comes_5 hl (by decide) rfl (fun ls hl => ?_)
  exact w_X4_comes_7 X K hA jo js jp ja jk jt jb un uy uw uq uz up ua uk ut ub p1 p2 p3 p4 _ 2000 us r1 hq _ _ hP hD hS ls (lv_sub hl [1, 2, 3, 4, 5, 0] rfl)
theorem in_X4_goes_X4 : ∀ w ∈ wsX40, w ∈ wsX4_goes := fun _ h => List.mem_cons_of_mem _ (List.mem_append_right _ h)
def F_X4_goes_19 (v1 : Int32) : Nat → (Nat → Int32) → Int32 → Option ((Nat → Int32))
  | 0, _, _ => none
  | n + 1, us, v2 => (F_X4_many us v1).bind fun r3 => (F_X4_spot v1 r3).bind fun r5 => if r5 ≤ v2 then (some (us)) else (vgd (ix (v2 + 6) 388) <| vgd (ix (v2) 388) <| vlet (upd us v2.toNatClampNeg (us (v2 + 6).toNatClampNeg)) fun f10 => vlet ((v2 : Int32) + 1) fun x11 => F_X4_goes_19 v1 n f10 x11)
set_option maxHeartbeats 4000000 in
set_option maxRecDepth 100000 in
theorem w_X4_goes_19 {p : Program} {l : Launch} {e : Env} {s : State} {m : MethodId} {args : Array Value} {below : List Frame} {meth : Method} {c : Code} {G : va_G} {g : Nat → ClassId} (X : cx p s m args meth c cX4_goes 4 none RX4 wsX4_goes) (K : amb G g s) {A : Nat → Prop} (hA : ∀ q : Nat, s.heap.size ≤ q → A q) (jo js jp ja jk jt jb : Nat) (un : Int32) (uy : Int32) (uw : Int32) (uq : Int32) (uz : Int32) (up : Nat → Int32) (ua : Nat → Int32) (uk : Nat → Int32) (ut : Nat → Int32) (ub : Nat → Int32) (v1 : Int32) (res : (Nat → Int32)) : ∀ (n : Nat) (us : Nat → Int32) (v2 : Int32), F_X4_goes_19 v1 n us v2 = some res → ∀ (H : Heap) (locs : List Loc), va_P G vwCl [(jo, .inr (4, [.ref js, .ref jp, .ref ja, .ref jk, .int un, .ref jt, .int uy, .int uw, .ref jb, .int uq, .int uz])), (js, .inl (g 0, 388, .inl us)), (jp, .inl (g 0, 1552, .inl up)), (ja, .inl (g 0, 388, .inl ua)), (jk, .inl (g 0, 97, .inl uk)), (jt, .inl (g 0, 150, .inl ut)), (jb, .inl (g 0, 1000, .inl ub))] H → va_D A [(jo, .inr (4, [.ref js, .ref jp, .ref ja, .ref jk, .int un, .ref jt, .int uy, .int uw, .ref jb, .int uq, .int uz])), (js, .inl (g 0, 388, .inl us)), (jp, .inl (g 0, 1552, .inl up)), (ja, .inl (g 0, 388, .inl ua)), (jk, .inl (g 0, 97, .inl uk)), (jt, .inl (g 0, 150, .inl ut)), (jb, .inl (g 0, 1000, .inl ub))] → va_S A s.heap H locs → ∀ (ls : Array Slot), lv_has ls 4 [(0, .ref jo), (1, .int v1), (3, .int v2)] → W p l e (rmF 1 21) s m args below meth c H locs 0 0 (rwM G A below none [(jo, .inr (4, [.ref js, .ref jp, .ref ja, .ref jk, .int un, .ref jt, .int uy, .int uw, .ref jb, .int uq, .int uz])), (js, .inl (g 0, 388, .inl res)), (jp, .inl (g 0, 1552, .inl up)), (ja, .inl (g 0, 388, .inl ua)), (jk, .inl (g 0, 97, .inl uk)), (jt, .inl (g 0, 150, .inl ut)), (jb, .inl (g 0, 1000, .inl ub))] args s) (F0 m 19 ls []) := by
  obtain ⟨hx, hb, hml, hr, hown, hts, hk⟩ := id X
  intro n
  induction n with
  | zero => intro us v2 hq; exact q_no hq
  | succ n ih =>
    intro us v2 hq H locs hP hD hS ls hl
    rw [F_X4_goes_19] at hq
    refine lv_iload_n hx hb dX4_goes_19 rfl (lv_at hl 2 rfl) ?_
    refine lv_iload_n hx hb dX4_goes_20 rfl (lv_at hl 1 rfl) ?_
    refine lv_aload_n hx hb dX4_goes_21 rfl (lv_at hl 0 rfl) ?_
    refine lv_iload_n hx hb dX4_goes_22 rfl (lv_at hl 1 rfl) ?_
    obtain ⟨r3, hh4, hq⟩ := q_bd hq
    refine roV (ci := 4) (As := [.int v1]) (rest := [.int v1, .int v2]) X K (k_X4_many l G g jo js jp ja jk jt jb un uy uw uq uz us up ua uk ut ub v1 _ hh4) hd_X4_many gX4_goes_X4_many hP hl.1 dX4_goes_23 rfl rfl ⟨Nat.le_of_ble_eq_true rfl, Nat.le_of_ble_eq_true rfl⟩ rfl rfl rfl (Nat.le_of_ble_eq_true rfl) ⟨Nat.zero_le _, Nat.zero_le _⟩ ?_
    obtain ⟨r5, hh6, hq⟩ := q_bd hq
    refine roS (As := [.int v1, .int r3]) (rest := [.int v2]) X K (k_X4_spot l G g v1 r3 _ hh6) hd_X4_spot gX4_goes_X4_spot (hP.sub [] rfl) hl.1 dX4_goes_26 rfl rfl ⟨Nat.le_of_ble_eq_true rfl, Nat.le_of_ble_eq_true rfl⟩ rfl (Nat.le_of_ble_eq_true rfl) ⟨Nat.zero_le _, Nat.zero_le _⟩ ?_
    refine lv_icmp_ge (tgt := 53) hx hb dX4_goes_29 (by decide) (fun c7 => ?_) (fun c7 => ?_)
    · have hq := q_if_t hq c7
      obtain rfl := q_rt hq
      exact rw_vret hx hb hr hk hP hD hS dX4_goes_53
    · have hq := q_if_f hq c7
      refine lv_aload_n hx hb dX4_goes_32 rfl (lv_at hl 0 rfl) ?_
      refine va_get (D := G) (ci := 4) (v := .ref js) (C := RX4) (T := TX4) (N := 11) hx hb hts in_X4_goes_X4 hown K.1 hP 0 rfl rfl 0 (by decide) (hts _ (List.mem_of_getElem? (i := 1) rfl)) (fun _ h9 => h9) rfl dX4_goes_33 ?_
      refine lv_iload_n hx hb dX4_goes_36 rfl (lv_at hl 2 rfl) ?_
      refine lv_aload_n hx hb dX4_goes_37 rfl (lv_at hl 0 rfl) ?_
      refine va_get (D := G) (ci := 4) (v := .ref js) (C := RX4) (T := TX4) (N := 11) hx hb hts in_X4_goes_X4 hown K.1 hP 0 rfl rfl 0 (by decide) (hts _ (List.mem_of_getElem? (i := 1) rfl)) (fun _ h9 => h9) rfl dX4_goes_38 ?_
      refine lv_iload_n hx hb dX4_goes_41 rfl (lv_at hl 2 rfl) ?_
      refine lv_bipush (v := 6) hx hb dX4_goes_42 (by decide) ?_
      refine lv_iadd hx hb dX4_goes_44 ?_
      obtain ⟨hh8, hq⟩ := q_gd hq
      refine va_iald hx hb K.1 hP 1 0 rfl rfl (vp_in_iff.mpr hh8) dX4_goes_45 ?_
      obtain ⟨hh9, hq⟩ := q_gd hq
      refine va_iast hx hb K.1 hP hD hS 1 0 rfl rfl (vp_in_iff.mpr hh9) dX4_goes_46 (fun H locs hP hD hS => ?_)
      obtain ⟨f10, ef10⟩ : ∃ y, y = upd us v2.toNatClampNeg (us (v2 + 6).toNatClampNeg) := ⟨_, rfl⟩
      have hq := q_let hq ef10
      have hP : va_P G vwCl [(jo, .inr (4, [.ref js, .ref jp, .ref ja, .ref jk, .int un, .ref jt, .int uy, .int uw, .ref jb, .int uq, .int uz])), (js, .inl (g 0, 388, .inl f10)), (jp, .inl (g 0, 1552, .inl up)), (ja, .inl (g 0, 388, .inl ua)), (jk, .inl (g 0, 97, .inl uk)), (jt, .inl (g 0, 150, .inl ut)), (jb, .inl (g 0, 1000, .inl ub))] H := by rw [ef10]; exact hP
      have hD : va_D A [(jo, .inr (4, [.ref js, .ref jp, .ref ja, .ref jk, .int un, .ref jt, .int uy, .int uw, .ref jb, .int uq, .int uz])), (js, .inl (g 0, 388, .inl f10)), (jp, .inl (g 0, 1552, .inl up)), (ja, .inl (g 0, 388, .inl ua)), (jk, .inl (g 0, 97, .inl uk)), (jt, .inl (g 0, 150, .inl ut)), (jb, .inl (g 0, 1000, .inl ub))] := by rw [ef10]; exact hD
      obtain ⟨x11, ex11⟩ : ∃ y : Int32, y = (v2 : Int32) + 1 := ⟨_, rfl⟩
      have hq := q_let hq ex11
      refine lv_iinc (v := x11) (lv' := [(3, .int x11), (0, .ref jo), (1, .int v1)]) hx hb dX4_goes_47 hl (k := 2) rfl (by rw [ex11]; rfl) (by decide) rfl (fun ls hl => ?_)
      refine lv_goto (tgt := 19) hx hb dX4_goes_50 (by decide) ?_
      exact ih f10 x11 hq _ _ hP hD hS ls (lv_sub hl [1, 2, 0] rfl)
def F_X4_goes (us : Nat → Int32) (p1 : Int32) (p2 : Int32) : Option ((Nat → Int32)) := vlet ((97 : Int32) * p1) fun x1 => vgd (ix (x1) 388) <| vgd (ix (x1) 388) <| vlet (upd us x1.toNatClampNeg ((us x1.toNatClampNeg) - 1)) fun f4 => (F_X4_spot p1 p2).bind fun r5 => F_X4_goes_19 p1 2000 f4 r5
set_option maxHeartbeats 4000000 in
set_option maxRecDepth 100000 in
theorem k_X4_goes (l : Launch) (G : va_G) (g : Nat → ClassId) (jo js jp ja jk jt jb : Nat) (un : Int32) (uy : Int32) (uw : Int32) (uq : Int32) (uz : Int32) (us : Nat → Int32) (up : Nat → Int32) (ua : Nat → Int32) (uk : Nat → Int32) (ut : Nat → Int32) (ub : Nat → Int32) (p1 : Int32) (p2 : Int32) (res : (Nat → Int32)) (hq : F_X4_goes us p1 p2 = some res) : rwC l yX4_goes wsX4_goes (rmF 1 21) G g [.ref jo, .int p1, .int p2] [(jo, .inr (4, [.ref js, .ref jp, .ref ja, .ref jk, .int un, .ref jt, .int uy, .int uw, .ref jb, .int uq, .int uz])), (js, .inl (g 0, 388, .inl us)), (jp, .inl (g 0, 1552, .inl up)), (ja, .inl (g 0, 388, .inl ua)), (jk, .inl (g 0, 97, .inl uk)), (jt, .inl (g 0, 150, .inl ut)), (jb, .inl (g 0, 1000, .inl ub))] none [(jo, .inr (4, [.ref js, .ref jp, .ref ja, .ref jk, .int un, .ref jt, .int uy, .int uw, .ref jb, .int uq, .int uz])), (js, .inl (g 0, 388, .inl res)), (jp, .inl (g 0, 1552, .inl up)), (ja, .inl (g 0, 388, .inl ua)), (jk, .inl (g 0, 97, .inl uk)), (jt, .inl (g 0, 150, .inl ut)), (jb, .inl (g 0, 1000, .inl ub))] := by
  refine rwC.of (cc := cX4_goes) (maxL := 4) (ret := none) (by decide) rfl (Nat.le_of_ble_eq_true rfl) ?_
  intro p e s m below meth c ls A X K hA hP hD hS hl
  obtain ⟨hx, hb, hml, hr, hown, hts, hk⟩ := id X
  have hl : lv_has ls 4 [(0, .ref jo), (1, .int p1), (2, .int p2)] := hl
  unfold F_X4_goes at hq
  refine lv_aload_n hx hb dX4_goes_0 rfl (lv_at hl 0 rfl) ?_
  refine va_get (D := G) (ci := 4) (v := .ref js) (C := RX4) (T := TX4) (N := 11) hx hb hts in_X4_goes_X4 hown K.1 hP 0 rfl rfl 0 (by decide) (hts _ (List.mem_of_getElem? (i := 1) rfl)) (fun _ h9 => h9) rfl dX4_goes_1 ?_
  refine lv_bipush (v := 97) hx hb dX4_goes_4 (by decide) ?_
  refine lv_iload_n hx hb dX4_goes_6 rfl (lv_at hl 1 rfl) ?_
  refine lv_imul hx hb dX4_goes_7 ?_
  refine lv_topi (fun x1 ex1 => ?_)
  have hq := q_let hq ex1
  refine lv_dup2_11 hx hb dX4_goes_8 rfl rfl ?_
  obtain ⟨hh2, hq⟩ := q_gd hq
  refine va_iald hx hb K.1 hP 1 0 rfl rfl (vp_in_iff.mpr hh2) dX4_goes_9 ?_
  refine lv_iconst (v := 1) hx hb dX4_goes_10 (by decide) ?_
  refine lv_isub hx hb dX4_goes_11 ?_
  obtain ⟨hh3, hq⟩ := q_gd hq
  refine va_iast hx hb K.1 hP hD hS 1 0 rfl rfl (vp_in_iff.mpr hh3) dX4_goes_12 (fun H locs hP hD hS => ?_)
  obtain ⟨f4, ef4⟩ : ∃ y, y = upd us x1.toNatClampNeg ((us x1.toNatClampNeg) - 1) := ⟨_, rfl⟩
  have hq := q_let hq ef4
  have hP : va_P G vwCl [(jo, .inr (4, [.ref js, .ref jp, .ref ja, .ref jk, .int un, .ref jt, .int uy, .int uw, .ref jb, .int uq, .int uz])), (js, .inl (g 0, 388, .inl f4)), (jp, .inl (g 0, 1552, .inl up)), (ja, .inl (g 0, 388, .inl ua)), (jk, .inl (g 0, 97, .inl uk)), (jt, .inl (g 0, 150, .inl ut)), (jb, .inl (g 0, 1000, .inl ub))] H := by rw [ef4]; exact hP
  have hD : va_D A [(jo, .inr (4, [.ref js, .ref jp, .ref ja, .ref jk, .int un, .ref jt, .int uy, .int uw, .ref jb, .int uq, .int uz])), (js, .inl (g 0, 388, .inl f4)), (jp, .inl (g 0, 1552, .inl up)), (ja, .inl (g 0, 388, .inl ua)), (jk, .inl (g 0, 97, .inl uk)), (jt, .inl (g 0, 150, .inl ut)), (jb, .inl (g 0, 1000, .inl ub))] := by rw [ef4]; exact hD
  refine lv_iload_n hx hb dX4_goes_13 rfl (lv_at hl 1 rfl) ?_
  refine lv_iload_n hx hb dX4_goes_14 rfl (lv_at hl 2 rfl) ?_
  obtain ⟨r5, hh6, hq⟩ := q_bd hq
  refine roS (As := [.int p1, .int p2]) (rest := []) X K (k_X4_spot l G g p1 p2 _ hh6) hd_X4_spot gX4_goes_X4_spot (hP.sub [] rfl) hl.1 dX4_goes_15 rfl rfl ⟨Nat.le_of_ble_eq_true rfl, Nat.le_of_ble_eq_true rfl⟩ rfl (Nat.le_of_ble_eq_true rfl) ⟨Nat.zero_le _, Nat.zero_le _⟩ ?_
  refine lv_istore_n (lv' := [(3, .int r5), (0, .ref jo), (1, .int p1), (2, .int p2)]) hx hb dX4_goes_18 rfl hl (by decide) rfl (fun ls hl => ?_)
  exact w_X4_goes_19 X K hA jo js jp ja jk jt jb un uy uw uq uz up ua uk ut ub p1 _ 2000 f4 r5 hq _ _ hP hD hS ls (lv_sub hl [1, 2, 0] rfl)
def F_X4_stretched (p1 : Int32) (p2 : Int32) (p3 : Int32) (p4 : Int32) : Option (Int32) := if p2 ≤ p1 then (if p3 < p1 then (some ((p1 + (((p3 - p2) * p4) / 100)) - (p3 - p2))) else (some (p2 + (((p1 - p2) * p4) / 100)))) else (some (p1))
set_option maxHeartbeats 4000000 in
set_option maxRecDepth 100000 in
theorem k_X4_stretched (l : Launch) (G : va_G) (g : Nat → ClassId) (p1 : Int32) (p2 : Int32) (p3 : Int32) (p4 : Int32) (res : Int32) (hq : F_X4_stretched p1 p2 p3 p4 = some res) : roC l yX4_stretched wsX4_stretched (rmF 0 0) G g [.int p1, .int p2, .int p3, .int p4] [] (some (.int res)) := by
  refine roC.of (cc := cX4_stretched) (maxL := 4) (ret := (some .int)) (by decide) rfl (Nat.le_of_ble_eq_true rfl) ?_
  intro p e s m below meth c ls X K hP hl
  obtain ⟨hx, hb, hml, hr, hown, hts, hk⟩ := id X
  have hl : lv_has ls 4 [(0, .int p1), (1, .int p2), (2, .int p3), (3, .int p4)] := hl
  unfold F_X4_stretched at hq
  refine lv_iload_n hx hb dX4_stretched_0 rfl (lv_at hl 0 rfl) ?_
  refine lv_iload_n hx hb dX4_stretched_1 rfl (lv_at hl 1 rfl) ?_
  refine lv_icmp_ge (tgt := 7) hx hb dX4_stretched_2 (by decide) (fun c1 => ?_) (fun c1 => ?_)
  · have hq := q_if_t hq c1
    refine lv_iload_n hx hb dX4_stretched_7 rfl (lv_at hl 0 rfl) ?_
    refine lv_iload_n hx hb dX4_stretched_8 rfl (lv_at hl 2 rfl) ?_
    refine lv_icmp_gt (tgt := 25) hx hb dX4_stretched_9 (by decide) (fun c2 => ?_) (fun c2 => ?_)
    · have hq := q_if_t hq c2
      refine lv_iload_n hx hb dX4_stretched_25 rfl (lv_at hl 0 rfl) ?_
      refine lv_iload_n hx hb dX4_stretched_26 rfl (lv_at hl 2 rfl) ?_
      refine lv_iload_n hx hb dX4_stretched_27 rfl (lv_at hl 1 rfl) ?_
      refine lv_isub hx hb dX4_stretched_28 ?_
      refine lv_iload_n hx hb dX4_stretched_29 rfl (lv_at hl 3 rfl) ?_
      refine lv_imul hx hb dX4_stretched_30 ?_
      refine lv_bipush (v := 100) hx hb dX4_stretched_31 (by decide) ?_
      refine lv_idiv hx hb dX4_stretched_33 (by decide) ?_
      refine lv_iadd hx hb dX4_stretched_34 ?_
      refine lv_iload_n hx hb dX4_stretched_35 rfl (lv_at hl 2 rfl) ?_
      refine lv_iload_n hx hb dX4_stretched_36 rfl (lv_at hl 1 rfl) ?_
      refine lv_isub hx hb dX4_stretched_37 ?_
      refine lv_isub hx hb dX4_stretched_38 ?_
      obtain rfl := q_rt hq
      exact ro_iret hx hb hr hk dX4_stretched_39
    · have hq := q_if_f hq c2
      refine lv_iload_n hx hb dX4_stretched_12 rfl (lv_at hl 1 rfl) ?_
      refine lv_iload_n hx hb dX4_stretched_13 rfl (lv_at hl 0 rfl) ?_
      refine lv_iload_n hx hb dX4_stretched_14 rfl (lv_at hl 1 rfl) ?_
      refine lv_isub hx hb dX4_stretched_15 ?_
      refine lv_iload_n hx hb dX4_stretched_16 rfl (lv_at hl 3 rfl) ?_
      refine lv_imul hx hb dX4_stretched_17 ?_
      refine lv_bipush (v := 100) hx hb dX4_stretched_18 (by decide) ?_
      refine lv_idiv hx hb dX4_stretched_20 (by decide) ?_
      refine lv_iadd hx hb dX4_stretched_21 ?_
      refine lv_goto (tgt := 39) hx hb dX4_stretched_22 (by decide) ?_
      obtain rfl := q_rt hq
      exact ro_iret hx hb hr hk dX4_stretched_39
  · have hq := q_if_f hq c1
    refine lv_iload_n hx hb dX4_stretched_5 rfl (lv_at hl 0 rfl) ?_
    obtain rfl := q_rt hq
    exact ro_iret hx hb hr hk dX4_stretched_6
theorem hd_X4_stretched : ynm yX4_stretched 4 := by unfold ynm; decide +kernel
def F_X4_mayStretch_9 (us : Nat → Int32) (v1 : Int32) (v2 : Int32) (v3 : Int32) (v4 : Int32) : Nat → Int32 → Int32 → Int32 → Option (Int32)
  | 0, _, _, _ => none
  | n + 1, v5, v6, v7 => (F_X4_many us v1).bind fun r8 => if r8 ≤ v7 then (vgd (v6 = 0 ∨ v6 = 1) <| some (v6)) else ((F_X4_of us v1 v7 0).bind fun r12 => (F_X4_stretched r12 v2 v3 v4).bind fun r14 => if v6 = 0 then (vlet ((v7 : Int32) + 1) fun x17 => F_X4_mayStretch_9 us v1 v2 v3 v4 n r14 0 x17) else (if (999 : Int32) < r14 then (vlet ((v7 : Int32) + 1) fun x19 => F_X4_mayStretch_9 us v1 v2 v3 v4 n r14 0 x19) else (if r14 = v5 then (vlet ((v7 : Int32) + 1) fun x21 => F_X4_mayStretch_9 us v1 v2 v3 v4 n r14 0 x21) else ((F_X4_of us v1 v7 5).bind fun r22 => if r22 = 0 then (vlet ((v7 : Int32) + 1) fun x25 => F_X4_mayStretch_9 us v1 v2 v3 v4 n r14 1 x25) else ((F_X4_of us v1 v7 0).bind fun r26 => if r14 = r26 then (vlet ((v7 : Int32) + 1) fun x30 => F_X4_mayStretch_9 us v1 v2 v3 v4 n r14 1 x30) else (vlet ((v7 : Int32) + 1) fun x29 => F_X4_mayStretch_9 us v1 v2 v3 v4 n r14 0 x29))))))
set_option maxHeartbeats 4000000 in
set_option maxRecDepth 100000 in
theorem w_X4_mayStretch_9 {p : Program} {l : Launch} {e : Env} {s : State} {m : MethodId} {args : Array Value} {below : List Frame} {meth : Method} {c : Code} {G : va_G} {g : Nat → ClassId} (X : cx p s m args meth c cX4_mayStretch 9 (some .boolean) RX4 wsX4_mayStretch) (K : amb G g s) (jo js jp ja jk jt jb : Nat) (un : Int32) (uy : Int32) (uw : Int32) (uq : Int32) (uz : Int32) (up : Nat → Int32) (ua : Nat → Int32) (uk : Nat → Int32) (ut : Nat → Int32) (ub : Nat → Int32) (us : Nat → Int32) (v1 : Int32) (v2 : Int32) (v3 : Int32) (v4 : Int32) (hP : va_P G vwCl [(jo, .inr (4, [.ref js, .ref jp, .ref ja, .ref jk, .int un, .ref jt, .int uy, .int uw, .ref jb, .int uq, .int uz])), (js, .inl (g 0, 388, .inl us)), (jp, .inl (g 0, 1552, .inl up)), (ja, .inl (g 0, 388, .inl ua)), (jk, .inl (g 0, 97, .inl uk)), (jt, .inl (g 0, 150, .inl ut)), (jb, .inl (g 0, 1000, .inl ub))] s.heap) (res : Int32) : ∀ (n : Nat) (v5 : Int32) (v6 : Int32) (v7 : Int32), F_X4_mayStretch_9 us v1 v2 v3 v4 n v5 v6 v7 = some res → ∀ (ls : Array Slot), lv_has ls 9 [(0, .ref jo), (1, .int v1), (2, .int v2), (3, .int v3), (4, .int v4), (5, .int v5), (6, .int v6), (7, .int v7)] → W p l e (rmF 2 44) s m args below meth c s.heap [] 0 0 (roM below (some (.int res)) args s) (F0 m 9 ls []) := by
  obtain ⟨hx, hb, hml, hr, hown, hts, hk⟩ := id X
  intro n
  induction n with
  | zero => intro v5 v6 v7 hq; exact q_no hq
  | succ n ih =>
    intro v5 v6 v7 hq ls hl
    rw [F_X4_mayStretch_9] at hq
    refine lv_iload hx hb dX4_mayStretch_9 (lv_at hl 7 rfl) ?_
    refine lv_aload_n hx hb dX4_mayStretch_11 rfl (lv_at hl 0 rfl) ?_
    refine lv_iload_n hx hb dX4_mayStretch_12 rfl (lv_at hl 1 rfl) ?_
    obtain ⟨r8, hh9, hq⟩ := q_bd hq
    refine roV (ci := 4) (As := [.int v1]) (rest := [.int v7]) X K (k_X4_many l G g jo js jp ja jk jt jb un uy uw uq uz us up ua uk ut ub v1 _ hh9) hd_X4_many gX4_mayStretch_X4_many hP hl.1 dX4_mayStretch_13 rfl rfl ⟨Nat.le_of_ble_eq_true rfl, Nat.le_of_ble_eq_true rfl⟩ rfl rfl rfl (Nat.le_of_ble_eq_true rfl) ⟨Nat.zero_le _, Nat.zero_le _⟩ ?_
    refine lv_icmp_ge (tgt := 97) hx hb dX4_mayStretch_16 (by decide) (fun c10 => ?_) (fun c10 => ?_)
    · have hq := q_if_t hq c10
      refine lv_iload hx hb dX4_mayStretch_97 (lv_at hl 6 rfl) ?_
      obtain ⟨hh11, hq⟩ := q_gd hq
      obtain rfl := q_rt hq
      exact ro_zret hx hb hr (nz_b hh11) hk dX4_mayStretch_99
    · have hq := q_if_f hq c10
      refine lv_aload_n hx hb dX4_mayStretch_19 rfl (lv_at hl 0 rfl) ?_
      refine lv_iload_n hx hb dX4_mayStretch_20 rfl (lv_at hl 1 rfl) ?_
      refine lv_iload hx hb dX4_mayStretch_21 (lv_at hl 7 rfl) ?_
      refine lv_iconst (v := 0) hx hb dX4_mayStretch_23 (by decide) ?_
      obtain ⟨r12, hh13, hq⟩ := q_bd hq
      refine roV (ci := 4) (As := [.int v1, .int v7, .int 0]) (rest := []) X K (k_X4_of l G g jo js jp ja jk jt jb un uy uw uq uz us up ua uk ut ub v1 v7 0 _ hh13) hd_X4_of gX4_mayStretch_X4_of hP hl.1 dX4_mayStretch_24 rfl rfl ⟨Nat.le_of_ble_eq_true rfl, Nat.le_of_ble_eq_true rfl⟩ rfl rfl rfl (Nat.le_of_ble_eq_true rfl) ⟨Nat.zero_le _, Nat.zero_le _⟩ ?_
      refine lv_iload_n hx hb dX4_mayStretch_27 rfl (lv_at hl 2 rfl) ?_
      refine lv_iload_n hx hb dX4_mayStretch_28 rfl (lv_at hl 3 rfl) ?_
      refine lv_iload hx hb dX4_mayStretch_29 (lv_at hl 4 rfl) ?_
      obtain ⟨r14, hh15, hq⟩ := q_bd hq
      refine roS (As := [.int r12, .int v2, .int v3, .int v4]) (rest := []) X K (k_X4_stretched l G g r12 v2 v3 v4 _ hh15) hd_X4_stretched gX4_mayStretch_X4_stretched (hP.sub [] rfl) hl.1 dX4_mayStretch_31 rfl rfl ⟨Nat.le_of_ble_eq_true rfl, Nat.le_of_ble_eq_true rfl⟩ rfl (Nat.le_of_ble_eq_true rfl) ⟨Nat.zero_le _, Nat.zero_le _⟩ ?_
      refine lv_istore (lv' := [(8, .int r14), (0, .ref jo), (1, .int v1), (2, .int v2), (3, .int v3), (4, .int v4), (5, .int v5), (6, .int v6), (7, .int v7)]) hx hb dX4_mayStretch_34 hl (by decide) rfl (fun ls hl => ?_)
      refine lv_iload hx hb dX4_mayStretch_36 (lv_at hl 7 rfl) ?_
      refine lv_if_eq (tgt := 84) hx hb dX4_mayStretch_38 (by decide) (fun c16 => ?_) (fun c16 => ?_)
      · have hq := q_if_t hq c16
        refine lv_iconst (v := 0) hx hb dX4_mayStretch_84 (by decide) ?_
        refine lv_istore (lv' := [(6, .int 0), (8, .int r14), (0, .ref jo), (1, .int v1), (2, .int v2), (3, .int v3), (4, .int v4), (5, .int v5), (7, .int v7)]) hx hb dX4_mayStretch_85 hl (by decide) rfl (fun ls hl => ?_)
        refine lv_iload hx hb dX4_mayStretch_87 (lv_at hl 1 rfl) ?_
        refine lv_istore (lv' := [(5, .int r14), (6, .int 0), (8, .int r14), (0, .ref jo), (1, .int v1), (2, .int v2), (3, .int v3), (4, .int v4), (7, .int v7)]) hx hb dX4_mayStretch_89 hl (by decide) rfl (fun ls hl => ?_)
        obtain ⟨x17, ex17⟩ : ∃ y : Int32, y = (v7 : Int32) + 1 := ⟨_, rfl⟩
        have hq := q_let hq ex17
        refine lv_iinc (v := x17) (lv' := [(7, .int x17), (5, .int r14), (6, .int 0), (8, .int r14), (0, .ref jo), (1, .int v1), (2, .int v2), (3, .int v3), (4, .int v4)]) hx hb dX4_mayStretch_91 hl (k := 8) rfl (by rw [ex17]; rfl) (by decide) rfl (fun ls hl => ?_)
        refine lv_goto (tgt := 9) hx hb dX4_mayStretch_94 (by decide) ?_
        exact ih r14 0 x17 hq ls (lv_sub hl [4, 5, 6, 7, 8, 1, 2, 0] rfl)
      · have hq := q_if_f hq c16
        refine lv_iload hx hb dX4_mayStretch_41 (lv_at hl 0 rfl) ?_
        refine lv_sipush (v := 999) hx hb dX4_mayStretch_43 (by decide) ?_
        refine lv_icmp_gt (tgt := 84) hx hb dX4_mayStretch_46 (by decide) (fun c18 => ?_) (fun c18 => ?_)
        · have hq := q_if_t hq c18
          refine lv_iconst (v := 0) hx hb dX4_mayStretch_84 (by decide) ?_
          refine lv_istore (lv' := [(6, .int 0), (8, .int r14), (0, .ref jo), (1, .int v1), (2, .int v2), (3, .int v3), (4, .int v4), (5, .int v5), (7, .int v7)]) hx hb dX4_mayStretch_85 hl (by decide) rfl (fun ls hl => ?_)
          refine lv_iload hx hb dX4_mayStretch_87 (lv_at hl 1 rfl) ?_
          refine lv_istore (lv' := [(5, .int r14), (6, .int 0), (8, .int r14), (0, .ref jo), (1, .int v1), (2, .int v2), (3, .int v3), (4, .int v4), (7, .int v7)]) hx hb dX4_mayStretch_89 hl (by decide) rfl (fun ls hl => ?_)
          obtain ⟨x19, ex19⟩ : ∃ y : Int32, y = (v7 : Int32) + 1 := ⟨_, rfl⟩
          have hq := q_let hq ex19
          refine lv_iinc (v := x19) (lv' := [(7, .int x19), (5, .int r14), (6, .int 0), (8, .int r14), (0, .ref jo), (1, .int v1), (2, .int v2), (3, .int v3), (4, .int v4)]) hx hb dX4_mayStretch_91 hl (k := 8) rfl (by rw [ex19]; rfl) (by decide) rfl (fun ls hl => ?_)
          refine lv_goto (tgt := 9) hx hb dX4_mayStretch_94 (by decide) ?_
          exact ih r14 0 x19 hq ls (lv_sub hl [4, 5, 6, 7, 8, 1, 2, 0] rfl)
        · have hq := q_if_f hq c18
          refine lv_iload hx hb dX4_mayStretch_49 (lv_at hl 0 rfl) ?_
          refine lv_iload hx hb dX4_mayStretch_51 (lv_at hl 6 rfl) ?_
          refine lv_icmp_eq (tgt := 84) hx hb dX4_mayStretch_53 (by decide) (fun c20 => ?_) (fun c20 => ?_)
          · have hq := q_if_t hq c20
            refine lv_iconst (v := 0) hx hb dX4_mayStretch_84 (by decide) ?_
            refine lv_istore (lv' := [(6, .int 0), (8, .int r14), (0, .ref jo), (1, .int v1), (2, .int v2), (3, .int v3), (4, .int v4), (5, .int v5), (7, .int v7)]) hx hb dX4_mayStretch_85 hl (by decide) rfl (fun ls hl => ?_)
            refine lv_iload hx hb dX4_mayStretch_87 (lv_at hl 1 rfl) ?_
            refine lv_istore (lv' := [(5, .int r14), (6, .int 0), (8, .int r14), (0, .ref jo), (1, .int v1), (2, .int v2), (3, .int v3), (4, .int v4), (7, .int v7)]) hx hb dX4_mayStretch_89 hl (by decide) rfl (fun ls hl => ?_)
            obtain ⟨x21, ex21⟩ : ∃ y : Int32, y = (v7 : Int32) + 1 := ⟨_, rfl⟩
            have hq := q_let hq ex21
            refine lv_iinc (v := x21) (lv' := [(7, .int x21), (5, .int r14), (6, .int 0), (8, .int r14), (0, .ref jo), (1, .int v1), (2, .int v2), (3, .int v3), (4, .int v4)]) hx hb dX4_mayStretch_91 hl (k := 8) rfl (by rw [ex21]; rfl) (by decide) rfl (fun ls hl => ?_)
            refine lv_goto (tgt := 9) hx hb dX4_mayStretch_94 (by decide) ?_
            exact ih r14 0 x21 hq ls (lv_sub hl [4, 5, 6, 7, 8, 1, 2, 0] rfl)
          · have hq := q_if_f hq c20
            refine lv_aload_n hx hb dX4_mayStretch_56 rfl (lv_at hl 1 rfl) ?_
            refine lv_iload_n hx hb dX4_mayStretch_57 rfl (lv_at hl 2 rfl) ?_
            refine lv_iload hx hb dX4_mayStretch_58 (lv_at hl 8 rfl) ?_
            refine lv_iconst (v := 5) hx hb dX4_mayStretch_60 (by decide) ?_
            obtain ⟨r22, hh23, hq⟩ := q_bd hq
            refine roV (ci := 4) (As := [.int v1, .int v7, .int 5]) (rest := []) X K (k_X4_of l G g jo js jp ja jk jt jb un uy uw uq uz us up ua uk ut ub v1 v7 5 _ hh23) hd_X4_of gX4_mayStretch_X4_of hP hl.1 dX4_mayStretch_61 rfl rfl ⟨Nat.le_of_ble_eq_true rfl, Nat.le_of_ble_eq_true rfl⟩ rfl rfl rfl (Nat.le_of_ble_eq_true rfl) ⟨Nat.zero_le _, Nat.zero_le _⟩ ?_
            refine lv_if_eq (tgt := 80) hx hb dX4_mayStretch_64 (by decide) (fun c24 => ?_) (fun c24 => ?_)
            · have hq := q_if_t hq c24
              refine lv_iconst (v := 1) hx hb dX4_mayStretch_80 (by decide) ?_
              refine lv_goto (tgt := 85) hx hb dX4_mayStretch_81 (by decide) ?_
              refine lv_istore (lv' := [(6, .int 1), (8, .int r14), (0, .ref jo), (1, .int v1), (2, .int v2), (3, .int v3), (4, .int v4), (5, .int v5), (7, .int v7)]) hx hb dX4_mayStretch_85 hl (by decide) rfl (fun ls hl => ?_)
              refine lv_iload hx hb dX4_mayStretch_87 (lv_at hl 1 rfl) ?_
              refine lv_istore (lv' := [(5, .int r14), (6, .int 1), (8, .int r14), (0, .ref jo), (1, .int v1), (2, .int v2), (3, .int v3), (4, .int v4), (7, .int v7)]) hx hb dX4_mayStretch_89 hl (by decide) rfl (fun ls hl => ?_)
              obtain ⟨x25, ex25⟩ : ∃ y : Int32, y = (v7 : Int32) + 1 := ⟨_, rfl⟩
              have hq := q_let hq ex25
              refine lv_iinc (v := x25) (lv' := [(7, .int x25), (5, .int r14), (6, .int 1), (8, .int r14), (0, .ref jo), (1, .int v1), (2, .int v2), (3, .int v3), (4, .int v4)]) hx hb dX4_mayStretch_91 hl (k := 8) rfl (by rw [ex25]; rfl) (by decide) rfl (fun ls hl => ?_)
              refine lv_goto (tgt := 9) hx hb dX4_mayStretch_94 (by decide) ?_
              exact ih r14 1 x25 hq ls (lv_sub hl [4, 5, 6, 7, 8, 1, 2, 0] rfl)
            · have hq := q_if_f hq c24
              refine lv_iload hx hb dX4_mayStretch_67 (lv_at hl 0 rfl) ?_
              refine lv_aload_n hx hb dX4_mayStretch_69 rfl (lv_at hl 1 rfl) ?_
              refine lv_iload_n hx hb dX4_mayStretch_70 rfl (lv_at hl 2 rfl) ?_
              refine lv_iload hx hb dX4_mayStretch_71 (lv_at hl 8 rfl) ?_
              refine lv_iconst (v := 0) hx hb dX4_mayStretch_73 (by decide) ?_
              obtain ⟨r26, hh27, hq⟩ := q_bd hq
              refine roV (ci := 4) (As := [.int v1, .int v7, .int 0]) (rest := [.int r14]) X K (k_X4_of l G g jo js jp ja jk jt jb un uy uw uq uz us up ua uk ut ub v1 v7 0 _ hh27) hd_X4_of gX4_mayStretch_X4_of hP hl.1 dX4_mayStretch_74 rfl rfl ⟨Nat.le_of_ble_eq_true rfl, Nat.le_of_ble_eq_true rfl⟩ rfl rfl rfl (Nat.le_of_ble_eq_true rfl) ⟨Nat.zero_le _, Nat.zero_le _⟩ ?_
              refine lv_icmp_ne (tgt := 84) hx hb dX4_mayStretch_77 (by decide) (fun c28 => ?_) (fun c28 => ?_)
              · have hq := q_if_f hq c28
                refine lv_iconst (v := 0) hx hb dX4_mayStretch_84 (by decide) ?_
                refine lv_istore (lv' := [(6, .int 0), (8, .int r14), (0, .ref jo), (1, .int v1), (2, .int v2), (3, .int v3), (4, .int v4), (5, .int v5), (7, .int v7)]) hx hb dX4_mayStretch_85 hl (by decide) rfl (fun ls hl => ?_)
                refine lv_iload hx hb dX4_mayStretch_87 (lv_at hl 1 rfl) ?_
                refine lv_istore (lv' := [(5, .int r14), (6, .int 0), (8, .int r14), (0, .ref jo), (1, .int v1), (2, .int v2), (3, .int v3), (4, .int v4), (7, .int v7)]) hx hb dX4_mayStretch_89 hl (by decide) rfl (fun ls hl => ?_)
                obtain ⟨x29, ex29⟩ : ∃ y : Int32, y = (v7 : Int32) + 1 := ⟨_, rfl⟩
                have hq := q_let hq ex29
                refine lv_iinc (v := x29) (lv' := [(7, .int x29), (5, .int r14), (6, .int 0), (8, .int r14), (0, .ref jo), (1, .int v1), (2, .int v2), (3, .int v3), (4, .int v4)]) hx hb dX4_mayStretch_91 hl (k := 8) rfl (by rw [ex29]; rfl) (by decide) rfl (fun ls hl => ?_)
                refine lv_goto (tgt := 9) hx hb dX4_mayStretch_94 (by decide) ?_
                exact ih r14 0 x29 hq ls (lv_sub hl [4, 5, 6, 7, 8, 1, 2, 0] rfl)
              · have hq := q_if_t hq c28
                refine lv_iconst (v := 1) hx hb dX4_mayStretch_80 (by decide) ?_
                refine lv_goto (tgt := 85) hx hb dX4_mayStretch_81 (by decide) ?_
                refine lv_istore (lv' := [(6, .int 1), (8, .int r14), (0, .ref jo), (1, .int v1), (2, .int v2), (3, .int v3), (4, .int v4), (5, .int v5), (7, .int v7)]) hx hb dX4_mayStretch_85 hl (by decide) rfl (fun ls hl => ?_)
                refine lv_iload hx hb dX4_mayStretch_87 (lv_at hl 1 rfl) ?_
                refine lv_istore (lv' := [(5, .int r14), (6, .int 1), (8, .int r14), (0, .ref jo), (1, .int v1), (2, .int v2), (3, .int v3), (4, .int v4), (7, .int v7)]) hx hb dX4_mayStretch_89 hl (by decide) rfl (fun ls hl => ?_)
                obtain ⟨x30, ex30⟩ : ∃ y : Int32, y = (v7 : Int32) + 1 := ⟨_, rfl⟩
                have hq := q_let hq ex30
                refine lv_iinc (v := x30) (lv' := [(7, .int x30), (5, .int r14), (6, .int 1), (8, .int r14), (0, .ref jo), (1, .int v1), (2, .int v2), (3, .int v3), (4, .int v4)]) hx hb dX4_mayStretch_91 hl (k := 8) rfl (by rw [ex30]; rfl) (by decide) rfl (fun ls hl => ?_)
                refine lv_goto (tgt := 9) hx hb dX4_mayStretch_94 (by decide) ?_
                exact ih r14 1 x30 hq ls (lv_sub hl [4, 5, 6, 7, 8, 1, 2, 0] rfl)
def F_X4_mayStretch (us : Nat → Int32) (p1 : Int32) (p2 : Int32) (p3 : Int32) (p4 : Int32) : Option (Int32) := F_X4_mayStretch_9 us p1 p2 p3 p4 2000 (-1) 1 0
set_option maxHeartbeats 4000000 in
set_option maxRecDepth 100000 in
theorem k_X4_mayStretch (l : Launch) (G : va_G) (g : Nat → ClassId) (jo js jp ja jk jt jb : Nat) (un : Int32) (uy : Int32) (uw : Int32) (uq : Int32) (uz : Int32) (us : Nat → Int32) (up : Nat → Int32) (ua : Nat → Int32) (uk : Nat → Int32) (ut : Nat → Int32) (ub : Nat → Int32) (p1 : Int32) (p2 : Int32) (p3 : Int32) (p4 : Int32) (res : Int32) (hq : F_X4_mayStretch us p1 p2 p3 p4 = some res) : roC l yX4_mayStretch wsX4_mayStretch (rmF 2 44) G g [.ref jo, .int p1, .int p2, .int p3, .int p4] [(jo, .inr (4, [.ref js, .ref jp, .ref ja, .ref jk, .int un, .ref jt, .int uy, .int uw, .ref jb, .int uq, .int uz])), (js, .inl (g 0, 388, .inl us)), (jp, .inl (g 0, 1552, .inl up)), (ja, .inl (g 0, 388, .inl ua)), (jk, .inl (g 0, 97, .inl uk)), (jt, .inl (g 0, 150, .inl ut)), (jb, .inl (g 0, 1000, .inl ub))] (some (.int res)) := by
  refine roC.of (cc := cX4_mayStretch) (maxL := 9) (ret := (some .boolean)) (by decide) rfl (Nat.le_of_ble_eq_true rfl) ?_
  intro p e s m below meth c ls X K hP hl
  obtain ⟨hx, hb, hml, hr, hown, hts, hk⟩ := id X
  have hl : lv_has ls 9 [(0, .ref jo), (1, .int p1), (2, .int p2), (3, .int p3), (4, .int p4)] := hl
  unfold F_X4_mayStretch at hq
  refine lv_iconst (v := (-1)) hx hb dX4_mayStretch_0 (by decide) ?_
  refine lv_istore (lv' := [(5, .int (-1)), (0, .ref jo), (1, .int p1), (2, .int p2), (3, .int p3), (4, .int p4)]) hx hb dX4_mayStretch_1 hl (by decide) rfl (fun ls hl => ?_)
  refine lv_iconst (v := 1) hx hb dX4_mayStretch_3 (by decide) ?_
  refine lv_istore (lv' := [(6, .int 1), (5, .int (-1)), (0, .ref jo), (1, .int p1), (2, .int p2), (3, .int p3), (4, .int p4)]) hx hb dX4_mayStretch_4 hl (by decide) rfl (fun ls hl => ?_)
  refine lv_iconst (v := 0) hx hb dX4_mayStretch_6 (by decide) ?_
  refine lv_istore (lv' := [(7, .int 0), (6, .int 1), (5, .int (-1)), (0, .ref jo), (1, .int p1), (2, .int p2), (3, .int p3), (4, .int p4)]) hx hb dX4_mayStretch_7 hl (by decide) rfl (fun ls hl => ?_)
  exact w_X4_mayStretch_9 X K jo js jp ja jk jt jb un uy uw uq uz up ua uk ut ub us p1 p2 p3 p4 hP _ 2000 (-1) 1 0 hq ls (lv_sub hl [3, 4, 5, 6, 7, 2, 1, 0] rfl)
def F_X4_isSpan (p1 : Int32) (p2 : Int32) : Option (Int32) := (F_X4_in p1 0 998).bind fun r1 => if r1 = 0 then (some (0)) else ((F_X4_in p2 (p1 + 1) 999).bind fun r4 => if r4 = 0 then (some (0)) else (some (1)))
set_option maxHeartbeats 4000000 in
set_option maxRecDepth 100000 in
theorem k_X4_isSpan (l : Launch) (G : va_G) (g : Nat → ClassId) (p1 : Int32) (p2 : Int32) (res : Int32) (hq : F_X4_isSpan p1 p2 = some res) : roC l yX4_isSpan wsX4_isSpan (rmF 1 22) G g [.int p1, .int p2] [] (some (.int res)) := by
  refine roC.of (cc := cX4_isSpan) (maxL := 2) (ret := (some .boolean)) (by decide) rfl (Nat.le_of_ble_eq_true rfl) ?_
  intro p e s m below meth c ls X K hP hl
  obtain ⟨hx, hb, hml, hr, hown, hts, hk⟩ := id X
  have hl : lv_has ls 2 [(0, .int p1), (1, .int p2)] := hl
  unfold F_X4_isSpan at hq
  refine lv_iload_n hx hb dX4_isSpan_0 rfl (lv_at hl 0 rfl) ?_
  refine lv_iconst (v := 0) hx hb dX4_isSpan_1 (by decide) ?_
  refine lv_sipush (v := 998) hx hb dX4_isSpan_2 (by decide) ?_
  obtain ⟨r1, hh2, hq⟩ := q_bd hq
  refine roS (As := [.int p1, .int 0, .int 998]) (rest := []) X K (k_X4_in l G g p1 0 998 _ hh2) hd_X4_in gX4_isSpan_X4_in hP hl.1 dX4_isSpan_5 rfl rfl ⟨Nat.le_of_ble_eq_true rfl, Nat.le_of_ble_eq_true rfl⟩ rfl (Nat.le_of_ble_eq_true rfl) ⟨Nat.zero_le _, Nat.zero_le _⟩ ?_
  refine lv_if_eq (tgt := 28) hx hb dX4_isSpan_8 (by decide) (fun c3 => ?_) (fun c3 => ?_)
  · have hq := q_if_t hq c3
    refine lv_iconst (v := 0) hx hb dX4_isSpan_28 (by decide) ?_
    obtain rfl := q_rt hq
    exact ro_zret hx hb hr nz_0 hk dX4_isSpan_29
  · have hq := q_if_f hq c3
    refine lv_iload_n hx hb dX4_isSpan_11 rfl (lv_at hl 1 rfl) ?_
    refine lv_iload_n hx hb dX4_isSpan_12 rfl (lv_at hl 0 rfl) ?_
    refine lv_iconst (v := 1) hx hb dX4_isSpan_13 (by decide) ?_
    refine lv_iadd hx hb dX4_isSpan_14 ?_
    refine lv_sipush (v := 999) hx hb dX4_isSpan_15 (by decide) ?_
    obtain ⟨r4, hh5, hq⟩ := q_bd hq
    refine roS (As := [.int p2, .int (p1 + 1), .int 999]) (rest := []) X K (k_X4_in l G g p2 (p1 + 1) 999 _ hh5) hd_X4_in gX4_isSpan_X4_in hP hl.1 dX4_isSpan_18 rfl rfl ⟨Nat.le_of_ble_eq_true rfl, Nat.le_of_ble_eq_true rfl⟩ rfl (Nat.le_of_ble_eq_true rfl) ⟨Nat.zero_le _, Nat.zero_le _⟩ ?_
    refine lv_if_eq (tgt := 28) hx hb dX4_isSpan_21 (by decide) (fun c6 => ?_) (fun c6 => ?_)
    · have hq := q_if_t hq c6
      refine lv_iconst (v := 0) hx hb dX4_isSpan_28 (by decide) ?_
      obtain rfl := q_rt hq
      exact ro_zret hx hb hr nz_0 hk dX4_isSpan_29
    · have hq := q_if_f hq c6
      refine lv_iconst (v := 1) hx hb dX4_isSpan_24 (by decide) ?_
      refine lv_goto (tgt := 29) hx hb dX4_isSpan_25 (by decide) ?_
      obtain rfl := q_rt hq
      exact ro_zret hx hb hr nz_1 hk dX4_isSpan_29
def F_X4_apart (p1 : Int32) (p2 : Int32) : Option (Int32) := if p2 ≤ p1 then (some (p1 - p2)) else (some (p2 - p1))
set_option maxHeartbeats 4000000 in
set_option maxRecDepth 100000 in
theorem k_X4_apart (l : Launch) (G : va_G) (g : Nat → ClassId) (p1 : Int32) (p2 : Int32) (res : Int32) (hq : F_X4_apart p1 p2 = some res) : roC l yX4_apart wsX4_apart (rmF 0 0) G g [.int p1, .int p2] [] (some (.int res)) := by
  refine roC.of (cc := cX4_apart) (maxL := 2) (ret := (some .int)) (by decide) rfl (Nat.le_of_ble_eq_true rfl) ?_
  intro p e s m below meth c ls X K hP hl
  obtain ⟨hx, hb, hml, hr, hown, hts, hk⟩ := id X
  have hl : lv_has ls 2 [(0, .int p1), (1, .int p2)] := hl
  unfold F_X4_apart at hq
  refine lv_iload_n hx hb dX4_apart_0 rfl (lv_at hl 0 rfl) ?_
  refine lv_iload_n hx hb dX4_apart_1 rfl (lv_at hl 1 rfl) ?_
  refine lv_icmp_ge (tgt := 11) hx hb dX4_apart_2 (by decide) (fun c1 => ?_) (fun c1 => ?_)
  · have hq := q_if_t hq c1
    refine lv_iload_n hx hb dX4_apart_11 rfl (lv_at hl 0 rfl) ?_
    refine lv_iload_n hx hb dX4_apart_12 rfl (lv_at hl 1 rfl) ?_
    refine lv_isub hx hb dX4_apart_13 ?_
    obtain rfl := q_rt hq
    exact ro_iret hx hb hr hk dX4_apart_14
  · have hq := q_if_f hq c1
    refine lv_iload_n hx hb dX4_apart_5 rfl (lv_at hl 1 rfl) ?_
    refine lv_iload_n hx hb dX4_apart_6 rfl (lv_at hl 0 rfl) ?_
    refine lv_isub hx hb dX4_apart_7 ?_
    refine lv_goto (tgt := 14) hx hb dX4_apart_8 (by decide) ?_
    obtain rfl := q_rt hq
    exact ro_iret hx hb hr hk dX4_apart_14
theorem hd_X4_apart : ynm yX4_apart 2 := by unfold ynm; decide +kernel
theorem hd_X4_goes : ynm yX4_goes 2 := by unfold ynm; decide +kernel
theorem in_X4_errorOf_X4 : ∀ w ∈ wsX40, w ∈ wsX4_errorOf := fun _ h => List.mem_cons_of_mem _ (List.mem_append_right _ h)
def F_X4_errorOf_119 (uk : Nat → Int32) (ub : Nat → Int32) (v1 : Int32) (v2 : Int32) : Nat → (Nat → Int32) → Int32 → Option (Int32 × (Nat → Int32) × (Nat → Int32))
  | 0, _, _ => none
  | n + 1, us, v3 => if (97 : Int32) ≤ v3 then (some (v2, us, uk)) else (vgd (ix (v3) 97) <| vgd (ix (((97 : Int32) * v1) + v3) 388) <| vlet (upd us (((97 : Int32) * v1) + v3).toNatClampNeg (uk v3.toNatClampNeg)) fun f7 => vlet ((v3 : Int32) + 1) fun x8 => F_X4_errorOf_119 uk ub v1 v2 n f7 x8)
set_option maxHeartbeats 4000000 in
set_option maxRecDepth 100000 in
theorem w_X4_errorOf_119 {p : Program} {l : Launch} {e : Env} {s : State} {m : MethodId} {args : Array Value} {below : List Frame} {meth : Method} {c : Code} {G : va_G} {g : Nat → ClassId} (X : cx p s m args meth c cX4_errorOf 6 (some .int) RX4 wsX4_errorOf) (K : amb G g s) {A : Nat → Prop} (hA : ∀ q : Nat, s.heap.size ≤ q → A q) (jo js jp ja jk jt jb : Nat) (un : Int32) (uy : Int32) (uw : Int32) (uq : Int32) (uz : Int32) (up : Nat → Int32) (ua : Nat → Int32) (ut : Nat → Int32) (uk : Nat → Int32) (ub : Nat → Int32) (v1 : Int32) (v2 : Int32) (res : Int32 × (Nat → Int32) × (Nat → Int32)) : ∀ (n : Nat) (us : Nat → Int32) (v3 : Int32), F_X4_errorOf_119 uk ub v1 v2 n us v3 = some res → ∀ (H : Heap) (locs : List Loc), va_P G vwCl [(jo, .inr (4, [.ref js, .ref jp, .ref ja, .ref jk, .int un, .ref jt, .int uy, .int uw, .ref jb, .int uq, .int uz])), (js, .inl (g 0, 388, .inl us)), (jp, .inl (g 0, 1552, .inl up)), (ja, .inl (g 0, 388, .inl ua)), (jk, .inl (g 0, 97, .inl uk)), (jt, .inl (g 0, 150, .inl ut)), (jb, .inl (g 0, 1000, .inl ub))] H → va_D A [(jo, .inr (4, [.ref js, .ref jp, .ref ja, .ref jk, .int un, .ref jt, .int uy, .int uw, .ref jb, .int uq, .int uz])), (js, .inl (g 0, 388, .inl us)), (jp, .inl (g 0, 1552, .inl up)), (ja, .inl (g 0, 388, .inl ua)), (jk, .inl (g 0, 97, .inl uk)), (jt, .inl (g 0, 150, .inl ut)), (jb, .inl (g 0, 1000, .inl ub))] → va_S A s.heap H locs → ∀ (ls : Array Slot), lv_has ls 6 [(0, .ref jo), (1, .int v1), (3, .int v2), (4, .int v3)] → W p l e (rmF 4 110) s m args below meth c H locs 0 0 (rwM G A below (some (.int res.1)) [(jo, .inr (4, [.ref js, .ref jp, .ref ja, .ref jk, .int un, .ref jt, .int uy, .int uw, .ref jb, .int uq, .int uz])), (js, .inl (g 0, 388, .inl res.2.1)), (jp, .inl (g 0, 1552, .inl up)), (ja, .inl (g 0, 388, .inl ua)), (jk, .inl (g 0, 97, .inl res.2.2)), (jt, .inl (g 0, 150, .inl ut)), (jb, .inl (g 0, 1000, .inl ub))] args s) (F0 m 119 ls []) := by
  obtain ⟨hx, hb, hml, hr, hown, hts, hk⟩ := id X
  intro n
  induction n with
  | zero => intro us v3 hq; exact q_no hq
  | succ n ih =>
    intro us v3 hq H locs hP hD hS ls hl
    rw [F_X4_errorOf_119] at hq
    refine lv_iload hx hb dX4_errorOf_119 (lv_at hl 3 rfl) ?_
    refine lv_bipush (v := 97) hx hb dX4_errorOf_121 (by decide) ?_
    refine lv_icmp_ge (tgt := 151) hx hb dX4_errorOf_123 (by decide) (fun c4 => ?_) (fun c4 => ?_)
    · have hq := q_if_t hq c4
      refine lv_iload_n hx hb dX4_errorOf_151 rfl (lv_at hl 2 rfl) ?_
      obtain rfl := q_rt hq
      exact rw_iret hx hb hr hk hP hD hS dX4_errorOf_152
    · have hq := q_if_f hq c4
      refine lv_aload_n hx hb dX4_errorOf_126 rfl (lv_at hl 0 rfl) ?_
      refine va_get (D := G) (ci := 4) (v := .ref js) (C := RX4) (T := TX4) (N := 11) hx hb hts in_X4_errorOf_X4 hown K.1 hP 0 rfl rfl 0 (by decide) (hts _ (List.mem_of_getElem? (i := 2) rfl)) (fun _ h9 => h9) rfl dX4_errorOf_127 ?_
      refine lv_bipush (v := 97) hx hb dX4_errorOf_130 (by decide) ?_
      refine lv_iload_n hx hb dX4_errorOf_132 rfl (lv_at hl 1 rfl) ?_
      refine lv_imul hx hb dX4_errorOf_133 ?_
      refine lv_iload hx hb dX4_errorOf_134 (lv_at hl 3 rfl) ?_
      refine lv_iadd hx hb dX4_errorOf_136 ?_
      refine lv_aload_n hx hb dX4_errorOf_137 rfl (lv_at hl 0 rfl) ?_
      refine va_get (D := G) (ci := 4) (v := .ref jk) (C := RX4) (T := TX4) (N := 11) hx hb hts in_X4_errorOf_X4 hown K.1 hP 0 rfl rfl 3 (by decide) (hts _ (List.mem_of_getElem? (i := 1) rfl)) (fun _ h9 => h9) rfl dX4_errorOf_138 ?_
      refine lv_iload hx hb dX4_errorOf_141 (lv_at hl 3 rfl) ?_
      obtain ⟨hh5, hq⟩ := q_gd hq
      refine va_iald hx hb K.1 hP 4 0 rfl rfl (vp_in_iff.mpr hh5) dX4_errorOf_143 ?_
      obtain ⟨hh6, hq⟩ := q_gd hq
      refine va_iast hx hb K.1 hP hD hS 1 0 rfl rfl (vp_in_iff.mpr hh6) dX4_errorOf_144 (fun H locs hP hD hS => ?_)
      obtain ⟨f7, ef7⟩ : ∃ y, y = upd us (((97 : Int32) * v1) + v3).toNatClampNeg (uk v3.toNatClampNeg) := ⟨_, rfl⟩
      have hq := q_let hq ef7
      have hP : va_P G vwCl [(jo, .inr (4, [.ref js, .ref jp, .ref ja, .ref jk, .int un, .ref jt, .int uy, .int uw, .ref jb, .int uq, .int uz])), (js, .inl (g 0, 388, .inl f7)), (jp, .inl (g 0, 1552, .inl up)), (ja, .inl (g 0, 388, .inl ua)), (jk, .inl (g 0, 97, .inl uk)), (jt, .inl (g 0, 150, .inl ut)), (jb, .inl (g 0, 1000, .inl ub))] H := by rw [ef7]; exact hP
      have hD : va_D A [(jo, .inr (4, [.ref js, .ref jp, .ref ja, .ref jk, .int un, .ref jt, .int uy, .int uw, .ref jb, .int uq, .int uz])), (js, .inl (g 0, 388, .inl f7)), (jp, .inl (g 0, 1552, .inl up)), (ja, .inl (g 0, 388, .inl ua)), (jk, .inl (g 0, 97, .inl uk)), (jt, .inl (g 0, 150, .inl ut)), (jb, .inl (g 0, 1000, .inl ub))] := by rw [ef7]; exact hD
      obtain ⟨x8, ex8⟩ : ∃ y : Int32, y = (v3 : Int32) + 1 := ⟨_, rfl⟩
      have hq := q_let hq ex8
      refine lv_iinc (v := x8) (lv' := [(4, .int x8), (0, .ref jo), (1, .int v1), (3, .int v2)]) hx hb dX4_errorOf_145 hl (k := 3) rfl (by rw [ex8]; rfl) (by decide) rfl (fun ls hl => ?_)
      refine lv_goto (tgt := 119) hx hb dX4_errorOf_148 (by decide) ?_
      exact ih f7 x8 hq _ _ hP hD hS ls (lv_sub hl [1, 2, 3, 0] rfl)
def F_X4_errorOf_70 (us : Nat → Int32) (uk : Nat → Int32) (ub : Nat → Int32) (v1 : Int32) : Nat → Int32 → Int32 → Option (Int32 × (Nat → Int32) × (Nat → Int32))
  | 0, _, _ => none
  | n + 1, v2, v3 => if (999 : Int32) < v3 then (F_X4_errorOf_119 uk ub v1 v2 2000 us 0) else ((F_X4_valueAt us v1 v3).bind fun r5 => vgd (ix (v3) 1000) <| (F_X4_apart r5 (ub v3.toNatClampNeg)).bind fun r8 => if r8 ≤ v2 then (vlet ((v3 : Int32) + 1) fun x11 => F_X4_errorOf_70 us uk ub v1 n v2 x11) else (vlet ((v3 : Int32) + 1) fun x12 => F_X4_errorOf_70 us uk ub v1 n r8 x12))
set_option maxHeartbeats 4000000 in
set_option maxRecDepth 100000 in
theorem w_X4_errorOf_70 {p : Program} {l : Launch} {e : Env} {s : State} {m : MethodId} {args : Array Value} {below : List Frame} {meth : Method} {c : Code} {G : va_G} {g : Nat → ClassId} (X : cx p s m args meth c cX4_errorOf 6 (some .int) RX4 wsX4_errorOf) (K : amb G g s) {A : Nat → Prop} (hA : ∀ q : Nat, s.heap.size ≤ q → A q) (jo js jp ja jk jt jb : Nat) (un : Int32) (uy : Int32) (uw : Int32) (uq : Int32) (uz : Int32) (up : Nat → Int32) (ua : Nat → Int32) (ut : Nat → Int32) (us : Nat → Int32) (uk : Nat → Int32) (ub : Nat → Int32) (v1 : Int32) (res : Int32 × (Nat → Int32) × (Nat → Int32)) : ∀ (n : Nat) (v2 : Int32) (v3 : Int32), F_X4_errorOf_70 us uk ub v1 n v2 v3 = some res → ∀ (H : Heap) (locs : List Loc), va_P G vwCl [(jo, .inr (4, [.ref js, .ref jp, .ref ja, .ref jk, .int un, .ref jt, .int uy, .int uw, .ref jb, .int uq, .int uz])), (js, .inl (g 0, 388, .inl us)), (jp, .inl (g 0, 1552, .inl up)), (ja, .inl (g 0, 388, .inl ua)), (jk, .inl (g 0, 97, .inl uk)), (jt, .inl (g 0, 150, .inl ut)), (jb, .inl (g 0, 1000, .inl ub))] H → va_D A [(jo, .inr (4, [.ref js, .ref jp, .ref ja, .ref jk, .int un, .ref jt, .int uy, .int uw, .ref jb, .int uq, .int uz])), (js, .inl (g 0, 388, .inl us)), (jp, .inl (g 0, 1552, .inl up)), (ja, .inl (g 0, 388, .inl ua)), (jk, .inl (g 0, 97, .inl uk)), (jt, .inl (g 0, 150, .inl ut)), (jb, .inl (g 0, 1000, .inl ub))] → va_S A s.heap H locs → ∀ (ls : Array Slot), lv_has ls 6 [(0, .ref jo), (1, .int v1), (3, .int v2), (4, .int v3)] → W p l e (rmF 4 110) s m args below meth c H locs 0 0 (rwM G A below (some (.int res.1)) [(jo, .inr (4, [.ref js, .ref jp, .ref ja, .ref jk, .int un, .ref jt, .int uy, .int uw, .ref jb, .int uq, .int uz])), (js, .inl (g 0, 388, .inl res.2.1)), (jp, .inl (g 0, 1552, .inl up)), (ja, .inl (g 0, 388, .inl ua)), (jk, .inl (g 0, 97, .inl res.2.2)), (jt, .inl (g 0, 150, .inl ut)), (jb, .inl (g 0, 1000, .inl ub))] args s) (F0 m 70 ls []) := by
  obtain ⟨hx, hb, hml, hr, hown, hts, hk⟩ := id X
  intro n
  induction n with
  | zero => intro v2 v3 hq; exact q_no hq
  | succ n ih =>
    intro v2 v3 hq H locs hP hD hS ls hl
    rw [F_X4_errorOf_70] at hq
    refine lv_iload hx hb dX4_errorOf_70 (lv_at hl 3 rfl) ?_
    refine lv_sipush (v := 999) hx hb dX4_errorOf_72 (by decide) ?_
    refine lv_icmp_gt (tgt := 116) hx hb dX4_errorOf_75 (by decide) (fun c4 => ?_) (fun c4 => ?_)
    · have hq := q_if_t hq c4
      refine lv_iconst (v := 0) hx hb dX4_errorOf_116 (by decide) ?_
      refine lv_istore (lv' := [(4, .int 0), (0, .ref jo), (1, .int v1), (3, .int v2)]) hx hb dX4_errorOf_117 hl (by decide) rfl (fun ls hl => ?_)
      exact w_X4_errorOf_119 X K hA jo js jp ja jk jt jb un uy uw uq uz up ua ut uk ub v1 v2 _ 2000 us 0 hq _ _ hP hD hS ls (lv_sub hl [1, 2, 3, 0] rfl)
    · have hq := q_if_f hq c4
      refine lv_aload_n hx hb dX4_errorOf_78 rfl (lv_at hl 0 rfl) ?_
      refine lv_iload_n hx hb dX4_errorOf_79 rfl (lv_at hl 1 rfl) ?_
      refine lv_iload hx hb dX4_errorOf_80 (lv_at hl 3 rfl) ?_
      obtain ⟨r5, hh6, hq⟩ := q_bd hq
      refine roV (ci := 4) (As := [.int v1, .int v3]) (rest := []) X K (k_X4_valueAt l G g jo js jp ja jk jt jb un uy uw uq uz us up ua uk ut ub v1 v3 _ hh6) hd_X4_valueAt gX4_errorOf_X4_valueAt hP hl.1 dX4_errorOf_82 rfl rfl ⟨Nat.le_of_ble_eq_true rfl, Nat.le_of_ble_eq_true rfl⟩ rfl rfl rfl (Nat.le_of_ble_eq_true rfl) ⟨Nat.zero_le _, Nat.zero_le _⟩ ?_
      refine lv_aload_n hx hb dX4_errorOf_85 rfl (lv_at hl 0 rfl) ?_
      refine va_get (D := G) (ci := 4) (v := .ref jb) (C := RX4) (T := TX4) (N := 11) hx hb hts in_X4_errorOf_X4 hown K.1 hP 0 rfl rfl 8 (by decide) (hts _ (List.mem_of_getElem? (i := 3) rfl)) (fun _ h9 => h9) rfl dX4_errorOf_86 ?_
      refine lv_iload hx hb dX4_errorOf_89 (lv_at hl 3 rfl) ?_
      obtain ⟨hh7, hq⟩ := q_gd hq
      refine va_iald hx hb K.1 hP 6 0 rfl rfl (vp_in_iff.mpr hh7) dX4_errorOf_91 ?_
      obtain ⟨r8, hh9, hq⟩ := q_bd hq
      refine roS (As := [.int r5, .int (ub v3.toNatClampNeg)]) (rest := []) X K (k_X4_apart l G g r5 (ub v3.toNatClampNeg) _ hh9) hd_X4_apart gX4_errorOf_X4_apart (hP.sub [] rfl) hl.1 dX4_errorOf_92 rfl rfl ⟨Nat.le_of_ble_eq_true rfl, Nat.le_of_ble_eq_true rfl⟩ rfl (Nat.le_of_ble_eq_true rfl) ⟨Nat.zero_le _, Nat.zero_le _⟩ ?_
      refine lv_istore (lv' := [(5, .int r8), (0, .ref jo), (1, .int v1), (3, .int v2), (4, .int v3)]) hx hb dX4_errorOf_95 hl (by decide) rfl (fun ls hl => ?_)
      refine lv_iload hx hb dX4_errorOf_97 (lv_at hl 0 rfl) ?_
      refine lv_iload_n hx hb dX4_errorOf_99 rfl (lv_at hl 3 rfl) ?_
      refine lv_icmp_le (tgt := 108) hx hb dX4_errorOf_100 (by decide) (fun c10 => ?_) (fun c10 => ?_)
      · have hq := q_if_t hq c10
        refine lv_iload_n hx hb dX4_errorOf_108 rfl (lv_at hl 3 rfl) ?_
        refine lv_istore_n (lv' := [(3, .int v2), (5, .int r8), (0, .ref jo), (1, .int v1), (4, .int v3)]) hx hb dX4_errorOf_109 rfl hl (by decide) rfl (fun ls hl => ?_)
        obtain ⟨x11, ex11⟩ : ∃ y : Int32, y = (v3 : Int32) + 1 := ⟨_, rfl⟩
        have hq := q_let hq ex11
        refine lv_iinc (v := x11) (lv' := [(4, .int x11), (3, .int v2), (5, .int r8), (0, .ref jo), (1, .int v1)]) hx hb dX4_errorOf_110 hl (k := 4) rfl (by rw [ex11]; rfl) (by decide) rfl (fun ls hl => ?_)
        refine lv_goto (tgt := 70) hx hb dX4_errorOf_113 (by decide) ?_
        exact ih v2 x11 hq _ _ hP hD hS ls (lv_sub hl [3, 4, 1, 0] rfl)
      · have hq := q_if_f hq c10
        refine lv_iload hx hb dX4_errorOf_103 (lv_at hl 0 rfl) ?_
        refine lv_goto (tgt := 109) hx hb dX4_errorOf_105 (by decide) ?_
        refine lv_istore_n (lv' := [(3, .int r8), (5, .int r8), (0, .ref jo), (1, .int v1), (4, .int v3)]) hx hb dX4_errorOf_109 rfl hl (by decide) rfl (fun ls hl => ?_)
        obtain ⟨x12, ex12⟩ : ∃ y : Int32, y = (v3 : Int32) + 1 := ⟨_, rfl⟩
        have hq := q_let hq ex12
        refine lv_iinc (v := x12) (lv' := [(4, .int x12), (3, .int r8), (5, .int r8), (0, .ref jo), (1, .int v1)]) hx hb dX4_errorOf_110 hl (k := 4) rfl (by rw [ex12]; rfl) (by decide) rfl (fun ls hl => ?_)
        refine lv_goto (tgt := 70) hx hb dX4_errorOf_113 (by decide) ?_
        exact ih r8 x12 hq _ _ hP hD hS ls (lv_sub hl [3, 4, 1, 0] rfl)
def F_X4_errorOf_30 (us : Nat → Int32) (ub : Nat → Int32) (v1 : Int32) (v2 : Int32) : Nat → (Nat → Int32) → Int32 → Option (Int32 × (Nat → Int32) × (Nat → Int32))
  | 0, _, _ => none
  | n + 1, uk, v3 => if (97 : Int32) ≤ v3 then ((F_X4_goes us v1 v2).bind fun y5 => F_X4_errorOf_70 y5 uk ub v1 2000 0 0) else (vgd (ix (((97 : Int32) * v1) + v3) 388) <| vgd (ix (v3) 97) <| vlet (upd uk v3.toNatClampNeg (us (((97 : Int32) * v1) + v3).toNatClampNeg)) fun f9 => vlet ((v3 : Int32) + 1) fun x10 => F_X4_errorOf_30 us ub v1 v2 n f9 x10)
set_option maxHeartbeats 4000000 in
set_option maxRecDepth 100000 in
theorem w_X4_errorOf_30 {p : Program} {l : Launch} {e : Env} {s : State} {m : MethodId} {args : Array Value} {below : List Frame} {meth : Method} {c : Code} {G : va_G} {g : Nat → ClassId} (X : cx p s m args meth c cX4_errorOf 6 (some .int) RX4 wsX4_errorOf) (K : amb G g s) {A : Nat → Prop} (hA : ∀ q : Nat, s.heap.size ≤ q → A q) (jo js jp ja jk jt jb : Nat) (un : Int32) (uy : Int32) (uw : Int32) (uq : Int32) (uz : Int32) (up : Nat → Int32) (ua : Nat → Int32) (ut : Nat → Int32) (us : Nat → Int32) (ub : Nat → Int32) (v1 : Int32) (v2 : Int32) (res : Int32 × (Nat → Int32) × (Nat → Int32)) : ∀ (n : Nat) (uk : Nat → Int32) (v3 : Int32), F_X4_errorOf_30 us ub v1 v2 n uk v3 = some res → ∀ (H : Heap) (locs : List Loc), va_P G vwCl [(jo, .inr (4, [.ref js, .ref jp, .ref ja, .ref jk, .int un, .ref jt, .int uy, .int uw, .ref jb, .int uq, .int uz])), (js, .inl (g 0, 388, .inl us)), (jp, .inl (g 0, 1552, .inl up)), (ja, .inl (g 0, 388, .inl ua)), (jk, .inl (g 0, 97, .inl uk)), (jt, .inl (g 0, 150, .inl ut)), (jb, .inl (g 0, 1000, .inl ub))] H → va_D A [(jo, .inr (4, [.ref js, .ref jp, .ref ja, .ref jk, .int un, .ref jt, .int uy, .int uw, .ref jb, .int uq, .int uz])), (js, .inl (g 0, 388, .inl us)), (jp, .inl (g 0, 1552, .inl up)), (ja, .inl (g 0, 388, .inl ua)), (jk, .inl (g 0, 97, .inl uk)), (jt, .inl (g 0, 150, .inl ut)), (jb, .inl (g 0, 1000, .inl ub))] → va_S A s.heap H locs → ∀ (ls : Array Slot), lv_has ls 6 [(0, .ref jo), (1, .int v1), (2, .int v2), (3, .int v3)] → W p l e (rmF 4 110) s m args below meth c H locs 0 0 (rwM G A below (some (.int res.1)) [(jo, .inr (4, [.ref js, .ref jp, .ref ja, .ref jk, .int un, .ref jt, .int uy, .int uw, .ref jb, .int uq, .int uz])), (js, .inl (g 0, 388, .inl res.2.1)), (jp, .inl (g 0, 1552, .inl up)), (ja, .inl (g 0, 388, .inl ua)), (jk, .inl (g 0, 97, .inl res.2.2)), (jt, .inl (g 0, 150, .inl ut)), (jb, .inl (g 0, 1000, .inl ub))] args s) (F0 m 30 ls []) := by
  obtain ⟨hx, hb, hml, hr, hown, hts, hk⟩ := id X
  intro n
  induction n with
  | zero => intro uk v3 hq; exact q_no hq
  | succ n ih =>
    intro uk v3 hq H locs hP hD hS ls hl
    rw [F_X4_errorOf_30] at hq
    refine lv_iload_n hx hb dX4_errorOf_30 rfl (lv_at hl 3 rfl) ?_
    refine lv_bipush (v := 97) hx hb dX4_errorOf_31 (by decide) ?_
    refine lv_icmp_ge (tgt := 59) hx hb dX4_errorOf_33 (by decide) (fun c4 => ?_) (fun c4 => ?_)
    · have hq := q_if_t hq c4
      refine lv_aload_n hx hb dX4_errorOf_59 rfl (lv_at hl 0 rfl) ?_
      refine lv_iload_n hx hb dX4_errorOf_60 rfl (lv_at hl 1 rfl) ?_
      refine lv_iload_n hx hb dX4_errorOf_61 rfl (lv_at hl 2 rfl) ?_
      obtain ⟨y5, hh6, hq⟩ := q_bd hq
      refine rwV (ci := 4) (wr := []) (As := [.int v1, .int v2]) (rest := []) X K (k_X4_goes l G g jo js jp ja jk jt jb un uy uw uq uz us up ua uk ut ub v1 v2 _ hh6) hd_X4_goes gX4_errorOf_X4_goes hP hD hS hA [0, 1, 2, 3, 4, 5, 6] [] rfl rfl ⟨by decide, by decide, by decide⟩ hl.1 dX4_errorOf_62 rfl rfl ⟨Nat.le_of_ble_eq_true rfl, Nat.le_of_ble_eq_true rfl⟩ rfl rfl rfl (Nat.le_of_ble_eq_true rfl) ⟨Nat.zero_le _, Nat.zero_le _⟩ (fun H locs hP hD hS => ?_)
      have hP : va_P G vwCl [(jo, .inr (4, [.ref js, .ref jp, .ref ja, .ref jk, .int un, .ref jt, .int uy, .int uw, .ref jb, .int uq, .int uz])), (js, .inl (g 0, 388, .inl y5)), (jp, .inl (g 0, 1552, .inl up)), (ja, .inl (g 0, 388, .inl ua)), (jk, .inl (g 0, 97, .inl uk)), (jt, .inl (g 0, 150, .inl ut)), (jb, .inl (g 0, 1000, .inl ub))] H := hP
      have hD : va_D A [(jo, .inr (4, [.ref js, .ref jp, .ref ja, .ref jk, .int un, .ref jt, .int uy, .int uw, .ref jb, .int uq, .int uz])), (js, .inl (g 0, 388, .inl y5)), (jp, .inl (g 0, 1552, .inl up)), (ja, .inl (g 0, 388, .inl ua)), (jk, .inl (g 0, 97, .inl uk)), (jt, .inl (g 0, 150, .inl ut)), (jb, .inl (g 0, 1000, .inl ub))] := hD
      refine lv_iconst (v := 0) hx hb dX4_errorOf_65 (by decide) ?_
      refine lv_istore_n (lv' := [(3, .int 0), (0, .ref jo), (1, .int v1), (2, .int v2)]) hx hb dX4_errorOf_66 rfl hl (by decide) rfl (fun ls hl => ?_)
      refine lv_iconst (v := 0) hx hb dX4_errorOf_67 (by decide) ?_
      refine lv_istore (lv' := [(4, .int 0), (3, .int 0), (0, .ref jo), (1, .int v1), (2, .int v2)]) hx hb dX4_errorOf_68 hl (by decide) rfl (fun ls hl => ?_)
      exact w_X4_errorOf_70 X K hA jo js jp ja jk jt jb un uy uw uq uz up ua ut y5 uk ub v1 _ 2000 0 0 hq _ _ hP hD hS ls (lv_sub hl [2, 3, 1, 0] rfl)
    · have hq := q_if_f hq c4
      refine lv_aload_n hx hb dX4_errorOf_36 rfl (lv_at hl 0 rfl) ?_
      refine va_get (D := G) (ci := 4) (v := .ref jk) (C := RX4) (T := TX4) (N := 11) hx hb hts in_X4_errorOf_X4 hown K.1 hP 0 rfl rfl 3 (by decide) (hts _ (List.mem_of_getElem? (i := 1) rfl)) (fun _ h9 => h9) rfl dX4_errorOf_37 ?_
      refine lv_iload_n hx hb dX4_errorOf_40 rfl (lv_at hl 3 rfl) ?_
      refine lv_aload_n hx hb dX4_errorOf_41 rfl (lv_at hl 0 rfl) ?_
      refine va_get (D := G) (ci := 4) (v := .ref js) (C := RX4) (T := TX4) (N := 11) hx hb hts in_X4_errorOf_X4 hown K.1 hP 0 rfl rfl 0 (by decide) (hts _ (List.mem_of_getElem? (i := 2) rfl)) (fun _ h9 => h9) rfl dX4_errorOf_42 ?_
      refine lv_bipush (v := 97) hx hb dX4_errorOf_45 (by decide) ?_
      refine lv_iload_n hx hb dX4_errorOf_47 rfl (lv_at hl 1 rfl) ?_
      refine lv_imul hx hb dX4_errorOf_48 ?_
      refine lv_iload_n hx hb dX4_errorOf_49 rfl (lv_at hl 3 rfl) ?_
      refine lv_iadd hx hb dX4_errorOf_50 ?_
      obtain ⟨hh7, hq⟩ := q_gd hq
      refine va_iald hx hb K.1 hP 1 0 rfl rfl (vp_in_iff.mpr hh7) dX4_errorOf_51 ?_
      obtain ⟨hh8, hq⟩ := q_gd hq
      refine va_iast hx hb K.1 hP hD hS 4 0 rfl rfl (vp_in_iff.mpr hh8) dX4_errorOf_52 (fun H locs hP hD hS => ?_)
      obtain ⟨f9, ef9⟩ : ∃ y, y = upd uk v3.toNatClampNeg (us (((97 : Int32) * v1) + v3).toNatClampNeg) := ⟨_, rfl⟩
      have hq := q_let hq ef9
      have hP : va_P G vwCl [(jo, .inr (4, [.ref js, .ref jp, .ref ja, .ref jk, .int un, .ref jt, .int uy, .int uw, .ref jb, .int uq, .int uz])), (js, .inl (g 0, 388, .inl us)), (jp, .inl (g 0, 1552, .inl up)), (ja, .inl (g 0, 388, .inl ua)), (jk, .inl (g 0, 97, .inl f9)), (jt, .inl (g 0, 150, .inl ut)), (jb, .inl (g 0, 1000, .inl ub))] H := by rw [ef9]; exact hP
      have hD : va_D A [(jo, .inr (4, [.ref js, .ref jp, .ref ja, .ref jk, .int un, .ref jt, .int uy, .int uw, .ref jb, .int uq, .int uz])), (js, .inl (g 0, 388, .inl us)), (jp, .inl (g 0, 1552, .inl up)), (ja, .inl (g 0, 388, .inl ua)), (jk, .inl (g 0, 97, .inl f9)), (jt, .inl (g 0, 150, .inl ut)), (jb, .inl (g 0, 1000, .inl ub))] := by rw [ef9]; exact hD
      obtain ⟨x10, ex10⟩ : ∃ y : Int32, y = (v3 : Int32) + 1 := ⟨_, rfl⟩
      have hq := q_let hq ex10
      refine lv_iinc (v := x10) (lv' := [(3, .int x10), (0, .ref jo), (1, .int v1), (2, .int v2)]) hx hb dX4_errorOf_53 hl (k := 3) rfl (by rw [ex10]; rfl) (by decide) rfl (fun ls hl => ?_)
      refine lv_goto (tgt := 30) hx hb dX4_errorOf_56 (by decide) ?_
      exact ih f9 x10 hq _ _ hP hD hS ls (lv_sub hl [1, 2, 3, 0] rfl)
def F_X4_errorOf (us : Nat → Int32) (uk : Nat → Int32) (ub : Nat → Int32) (p1 : Int32) (p2 : Int32) : Option (Int32 × (Nat → Int32) × (Nat → Int32)) := (F_X4_of us p1 p2 5).bind fun r1 => if r1 = 1 then (some ((-1), us, uk)) else (if p2 = 0 then (some ((-1), us, uk)) else ((F_X4_many us p1).bind fun r5 => if p2 = (r5 - 1) then (some ((-1), us, uk)) else (F_X4_errorOf_30 us ub p1 p2 2000 uk 0)))
set_option maxHeartbeats 4000000 in
set_option maxRecDepth 100000 in
theorem k_X4_errorOf (l : Launch) (G : va_G) (g : Nat → ClassId) (jo js jp ja jk jt jb : Nat) (un : Int32) (uy : Int32) (uw : Int32) (uq : Int32) (uz : Int32) (us : Nat → Int32) (up : Nat → Int32) (ua : Nat → Int32) (uk : Nat → Int32) (ut : Nat → Int32) (ub : Nat → Int32) (p1 : Int32) (p2 : Int32) (res : Int32 × (Nat → Int32) × (Nat → Int32)) (hq : F_X4_errorOf us uk ub p1 p2 = some res) : rwC l yX4_errorOf wsX4_errorOf (rmF 4 110) G g [.ref jo, .int p1, .int p2] [(jo, .inr (4, [.ref js, .ref jp, .ref ja, .ref jk, .int un, .ref jt, .int uy, .int uw, .ref jb, .int uq, .int uz])), (js, .inl (g 0, 388, .inl us)), (jp, .inl (g 0, 1552, .inl up)), (ja, .inl (g 0, 388, .inl ua)), (jk, .inl (g 0, 97, .inl uk)), (jt, .inl (g 0, 150, .inl ut)), (jb, .inl (g 0, 1000, .inl ub))] (some (.int res.1)) [(jo, .inr (4, [.ref js, .ref jp, .ref ja, .ref jk, .int un, .ref jt, .int uy, .int uw, .ref jb, .int uq, .int uz])), (js, .inl (g 0, 388, .inl res.2.1)), (jp, .inl (g 0, 1552, .inl up)), (ja, .inl (g 0, 388, .inl ua)), (jk, .inl (g 0, 97, .inl res.2.2)), (jt, .inl (g 0, 150, .inl ut)), (jb, .inl (g 0, 1000, .inl ub))] := by
  refine rwC.of (cc := cX4_errorOf) (maxL := 6) (ret := (some .int)) (by decide) rfl (Nat.le_of_ble_eq_true rfl) ?_
  intro p e s m below meth c ls A X K hA hP hD hS hl
  obtain ⟨hx, hb, hml, hr, hown, hts, hk⟩ := id X
  have hl : lv_has ls 6 [(0, .ref jo), (1, .int p1), (2, .int p2)] := hl
  unfold F_X4_errorOf at hq
  refine lv_aload_n hx hb dX4_errorOf_0 rfl (lv_at hl 0 rfl) ?_
  refine lv_iload_n hx hb dX4_errorOf_1 rfl (lv_at hl 1 rfl) ?_
  refine lv_iload_n hx hb dX4_errorOf_2 rfl (lv_at hl 2 rfl) ?_
  refine lv_iconst (v := 5) hx hb dX4_errorOf_3 (by decide) ?_
  obtain ⟨r1, hh2, hq⟩ := q_bd hq
  refine roV (ci := 4) (As := [.int p1, .int p2, .int 5]) (rest := []) X K (k_X4_of l G g jo js jp ja jk jt jb un uy uw uq uz us up ua uk ut ub p1 p2 5 _ hh2) hd_X4_of gX4_errorOf_X4_of hP hl.1 dX4_errorOf_4 rfl rfl ⟨Nat.le_of_ble_eq_true rfl, Nat.le_of_ble_eq_true rfl⟩ rfl rfl rfl (Nat.le_of_ble_eq_true rfl) ⟨Nat.zero_le _, Nat.zero_le _⟩ ?_
  refine lv_iconst (v := 1) hx hb dX4_errorOf_7 (by decide) ?_
  refine lv_icmp_eq (tgt := 26) hx hb dX4_errorOf_8 (by decide) (fun c3 => ?_) (fun c3 => ?_)
  · have hq := q_if_t hq c3
    refine lv_iconst (v := (-1)) hx hb dX4_errorOf_26 (by decide) ?_
    obtain rfl := q_rt hq
    exact rw_iret hx hb hr hk hP hD hS dX4_errorOf_27
  · have hq := q_if_f hq c3
    refine lv_iload_n hx hb dX4_errorOf_11 rfl (lv_at hl 2 rfl) ?_
    refine lv_if_eq (tgt := 26) hx hb dX4_errorOf_12 (by decide) (fun c4 => ?_) (fun c4 => ?_)
    · have hq := q_if_t hq c4
      refine lv_iconst (v := (-1)) hx hb dX4_errorOf_26 (by decide) ?_
      obtain rfl := q_rt hq
      exact rw_iret hx hb hr hk hP hD hS dX4_errorOf_27
    · have hq := q_if_f hq c4
      refine lv_iload_n hx hb dX4_errorOf_15 rfl (lv_at hl 2 rfl) ?_
      refine lv_aload_n hx hb dX4_errorOf_16 rfl (lv_at hl 0 rfl) ?_
      refine lv_iload_n hx hb dX4_errorOf_17 rfl (lv_at hl 1 rfl) ?_
      obtain ⟨r5, hh6, hq⟩ := q_bd hq
      refine roV (ci := 4) (As := [.int p1]) (rest := [.int p2]) X K (k_X4_many l G g jo js jp ja jk jt jb un uy uw uq uz us up ua uk ut ub p1 _ hh6) hd_X4_many gX4_errorOf_X4_many hP hl.1 dX4_errorOf_18 rfl rfl ⟨Nat.le_of_ble_eq_true rfl, Nat.le_of_ble_eq_true rfl⟩ rfl rfl rfl (Nat.le_of_ble_eq_true rfl) ⟨Nat.zero_le _, Nat.zero_le _⟩ ?_
      refine lv_iconst (v := 1) hx hb dX4_errorOf_21 (by decide) ?_
      refine lv_isub hx hb dX4_errorOf_22 ?_
      refine lv_icmp_ne (tgt := 28) hx hb dX4_errorOf_23 (by decide) (fun c7 => ?_) (fun c7 => ?_)
      · have hq := q_if_f hq c7
        refine lv_iconst (v := 0) hx hb dX4_errorOf_28 (by decide) ?_
        refine lv_istore_n (lv' := [(3, .int 0), (0, .ref jo), (1, .int p1), (2, .int p2)]) hx hb dX4_errorOf_29 rfl hl (by decide) rfl (fun ls hl => ?_)
        exact w_X4_errorOf_30 X K hA jo js jp ja jk jt jb un uy uw uq uz up ua ut us ub p1 p2 _ 2000 uk 0 hq _ _ hP hD hS ls (lv_sub hl [1, 2, 3, 0] rfl)
      · have hq := q_if_t hq c7
        refine lv_iconst (v := (-1)) hx hb dX4_errorOf_26 (by decide) ?_
        obtain rfl := q_rt hq
        exact rw_iret hx hb hr hk hP hD hS dX4_errorOf_27
theorem hd_X4_bakes : ynm yX4_bakes 1 := by unfold ynm; decide +kernel
theorem hd_X4_errorOf : ynm yX4_errorOf 2 := by unfold ynm; decide +kernel
def F_X4_leftOut_13 (ub : Nat → Int32) (v1 : Int32) (v2 : Int32) : Nat → (Nat → Int32) → (Nat → Int32) → Int32 → Int32 → Int32 → Option (Int32 × (Nat → Int32) × (Nat → Int32) × (Nat → Int32))
  | 0, _, _, _, _, _ => none
  | n + 1, us, uk, v3, v4, v5 => (F_X4_many us v1).bind fun r6 => if r6 ≤ v5 then (some (v3, us, uk, ub)) else ((F_X4_errorOf us uk ub v1 v5).bind fun o13 => if o13.1 = (-1) then (vlet ((v5 : Int32) + 1) fun x15 => F_X4_leftOut_13 ub v1 v2 n o13.2.1 o13.2.2 v3 v4 x15) else (if v2 < o13.1 then (vlet ((v5 : Int32) + 1) fun x17 => F_X4_leftOut_13 ub v1 v2 n o13.2.1 o13.2.2 v3 v4 x17) else (if v3 = (-1) then (vlet ((v5 : Int32) + 1) fun x19 => F_X4_leftOut_13 ub v1 v2 n o13.2.1 o13.2.2 v5 o13.1 x19) else (if v4 ≤ o13.1 then (vlet ((v5 : Int32) + 1) fun x21 => F_X4_leftOut_13 ub v1 v2 n o13.2.1 o13.2.2 v3 v4 x21) else (vlet ((v5 : Int32) + 1) fun x22 => F_X4_leftOut_13 ub v1 v2 n o13.2.1 o13.2.2 v5 o13.1 x22)))))
set_option maxHeartbeats 4000000 in
set_option maxRecDepth 100000 in
theorem w_X4_leftOut_13 {p : Program} {l : Launch} {e : Env} {s : State} {m : MethodId} {args : Array Value} {below : List Frame} {meth : Method} {c : Code} {G : va_G} {g : Nat → ClassId} (X : cx p s m args meth c cX4_leftOut 8 (some .int) RX4 wsX4_leftOut) (K : amb G g s) {A : Nat → Prop} (hA : ∀ q : Nat, s.heap.size ≤ q → A q) (jo js jp ja jk jt jb : Nat) (un : Int32) (uy : Int32) (uw : Int32) (uq : Int32) (uz : Int32) (up : Nat → Int32) (ua : Nat → Int32) (ut : Nat → Int32) (ub : Nat → Int32) (v1 : Int32) (v2 : Int32) (res : Int32 × (Nat → Int32) × (Nat → Int32) × (Nat → Int32)) : ∀ (n : Nat) (us : Nat → Int32) (uk : Nat → Int32) (v3 : Int32) (v4 : Int32) (v5 : Int32), F_X4_leftOut_13 ub v1 v2 n us uk v3 v4 v5 = some res → ∀ (H : Heap) (locs : List Loc), va_P G vwCl [(jo, .inr (4, [.ref js, .ref jp, .ref ja, .ref jk, .int un, .ref jt, .int uy, .int uw, .ref jb, .int uq, .int uz])), (js, .inl (g 0, 388, .inl us)), (jp, .inl (g 0, 1552, .inl up)), (ja, .inl (g 0, 388, .inl ua)), (jk, .inl (g 0, 97, .inl uk)), (jt, .inl (g 0, 150, .inl ut)), (jb, .inl (g 0, 1000, .inl ub))] H → va_D A [(jo, .inr (4, [.ref js, .ref jp, .ref ja, .ref jk, .int un, .ref jt, .int uy, .int uw, .ref jb, .int uq, .int uz])), (js, .inl (g 0, 388, .inl us)), (jp, .inl (g 0, 1552, .inl up)), (ja, .inl (g 0, 388, .inl ua)), (jk, .inl (g 0, 97, .inl uk)), (jt, .inl (g 0, 150, .inl ut)), (jb, .inl (g 0, 1000, .inl ub))] → va_S A s.heap H locs → ∀ (ls : Array Slot), lv_has ls 8 [(0, .ref jo), (1, .int v1), (2, .int v2), (3, .int v3), (4, .int v4), (5, .int v5)] → W p l e (rmF 5 135) s m args below meth c H locs 0 0 (rwM G A below (some (.int res.1)) [(jo, .inr (4, [.ref js, .ref jp, .ref ja, .ref jk, .int un, .ref jt, .int uy, .int uw, .ref jb, .int uq, .int uz])), (js, .inl (g 0, 388, .inl res.2.1)), (jp, .inl (g 0, 1552, .inl up)), (ja, .inl (g 0, 388, .inl ua)), (jk, .inl (g 0, 97, .inl res.2.2.1)), (jt, .inl (g 0, 150, .inl ut)), (jb, .inl (g 0, 1000, .inl res.2.2.2))] args s) (F0 m 13 ls []) := by
  obtain ⟨hx, hb, hml, hr, hown, hts, hk⟩ := id X
  intro n
  induction n with
  | zero => intro us uk v3 v4 v5 hq; exact q_no hq
  | succ n ih =>
    intro us uk v3 v4 v5 hq H locs hP hD hS ls hl
    rw [F_X4_leftOut_13] at hq
    refine lv_iload hx hb dX4_leftOut_13 (lv_at hl 5 rfl) ?_
    refine lv_aload_n hx hb dX4_leftOut_15 rfl (lv_at hl 0 rfl) ?_
    refine lv_iload_n hx hb dX4_leftOut_16 rfl (lv_at hl 1 rfl) ?_
    obtain ⟨r6, hh7, hq⟩ := q_bd hq
    refine roV (ci := 4) (As := [.int v1]) (rest := [.int v5]) X K (k_X4_many l G g jo js jp ja jk jt jb un uy uw uq uz us up ua uk ut ub v1 _ hh7) hd_X4_many gX4_leftOut_X4_many hP hl.1 dX4_leftOut_17 rfl rfl ⟨Nat.le_of_ble_eq_true rfl, Nat.le_of_ble_eq_true rfl⟩ rfl rfl rfl (Nat.le_of_ble_eq_true rfl) ⟨Nat.zero_le _, Nat.zero_le _⟩ ?_
    refine lv_icmp_ge (tgt := 95) hx hb dX4_leftOut_20 (by decide) (fun c8 => ?_) (fun c8 => ?_)
    · have hq := q_if_t hq c8
      refine lv_iload_n hx hb dX4_leftOut_95 rfl (lv_at hl 3 rfl) ?_
      obtain rfl := q_rt hq
      exact rw_iret hx hb hr hk hP hD hS dX4_leftOut_96
    · have hq := q_if_f hq c8
      refine lv_aload_n hx hb dX4_leftOut_23 rfl (lv_at hl 0 rfl) ?_
      refine lv_iload_n hx hb dX4_leftOut_24 rfl (lv_at hl 1 rfl) ?_
      refine lv_iload hx hb dX4_leftOut_25 (lv_at hl 5 rfl) ?_
      obtain ⟨⟨r9, y10, y11⟩, hh12, hq⟩ := q_bd hq
      refine rwV (ci := 4) (wr := []) (As := [.int v1, .int v5]) (rest := []) X K (k_X4_errorOf l G g jo js jp ja jk jt jb un uy uw uq uz us up ua uk ut ub v1 v5 _ hh12) hd_X4_errorOf gX4_leftOut_X4_errorOf hP hD hS hA [0, 1, 2, 3, 4, 5, 6] [] rfl rfl ⟨by decide, by decide, by decide⟩ hl.1 dX4_leftOut_27 rfl rfl ⟨Nat.le_of_ble_eq_true rfl, Nat.le_of_ble_eq_true rfl⟩ rfl rfl rfl (Nat.le_of_ble_eq_true rfl) ⟨Nat.zero_le _, Nat.zero_le _⟩ (fun H locs hP hD hS => ?_)
      have hP : va_P G vwCl [(jo, .inr (4, [.ref js, .ref jp, .ref ja, .ref jk, .int un, .ref jt, .int uy, .int uw, .ref jb, .int uq, .int uz])), (js, .inl (g 0, 388, .inl y10)), (jp, .inl (g 0, 1552, .inl up)), (ja, .inl (g 0, 388, .inl ua)), (jk, .inl (g 0, 97, .inl y11)), (jt, .inl (g 0, 150, .inl ut)), (jb, .inl (g 0, 1000, .inl ub))] H := hP
      have hD : va_D A [(jo, .inr (4, [.ref js, .ref jp, .ref ja, .ref jk, .int un, .ref jt, .int uy, .int uw, .ref jb, .int uq, .int uz])), (js, .inl (g 0, 388, .inl y10)), (jp, .inl (g 0, 1552, .inl up)), (ja, .inl (g 0, 388, .inl ua)), (jk, .inl (g 0, 97, .inl y11)), (jt, .inl (g 0, 150, .inl ut)), (jb, .inl (g 0, 1000, .inl ub))] := hD
      refine lv_istore (lv' := [(6, .int r9), (0, .ref jo), (1, .int v1), (2, .int v2), (3, .int v3), (4, .int v4), (5, .int v5)]) hx hb dX4_leftOut_30 hl (by decide) rfl (fun ls hl => ?_)
      refine lv_iload hx hb dX4_leftOut_32 (lv_at hl 0 rfl) ?_
      refine lv_iconst (v := (-1)) hx hb dX4_leftOut_34 (by decide) ?_
      refine lv_icmp_eq (tgt := 60) hx hb dX4_leftOut_35 (by decide) (fun c14 => ?_) (fun c14 => ?_)
      · have hq := q_if_t hq c14
        refine lv_iconst (v := 0) hx hb dX4_leftOut_60 (by decide) ?_
        refine lv_istore (lv' := [(7, .int 0), (6, .int r9), (0, .ref jo), (1, .int v1), (2, .int v2), (3, .int v3), (4, .int v4), (5, .int v5)]) hx hb dX4_leftOut_61 hl (by decide) rfl (fun ls hl => ?_)
        refine lv_iload hx hb dX4_leftOut_63 (lv_at hl 0 rfl) ?_
        refine lv_if_eq (tgt := 73) hx hb dX4_leftOut_65 (by decide) (fun _ => ?_) (fun h => absurd (by decide) h)
        refine lv_iload_n hx hb dX4_leftOut_73 rfl (lv_at hl 5 rfl) ?_
        refine lv_istore_n (lv' := [(3, .int v3), (7, .int 0), (6, .int r9), (0, .ref jo), (1, .int v1), (2, .int v2), (4, .int v4), (5, .int v5)]) hx hb dX4_leftOut_74 rfl hl (by decide) rfl (fun ls hl => ?_)
        refine lv_iload hx hb dX4_leftOut_75 (lv_at hl 1 rfl) ?_
        refine lv_if_eq (tgt := 85) hx hb dX4_leftOut_77 (by decide) (fun _ => ?_) (fun h => absurd (by decide) h)
        refine lv_iload hx hb dX4_leftOut_85 (lv_at hl 6 rfl) ?_
        refine lv_istore (lv' := [(4, .int v4), (3, .int v3), (7, .int 0), (6, .int r9), (0, .ref jo), (1, .int v1), (2, .int v2), (5, .int v5)]) hx hb dX4_leftOut_87 hl (by decide) rfl (fun ls hl => ?_)
        obtain ⟨x15, ex15⟩ : ∃ y : Int32, y = (v5 : Int32) + 1 := ⟨_, rfl⟩
        have hq := q_let hq ex15
        refine lv_iinc (v := x15) (lv' := [(5, .int x15), (4, .int v4), (3, .int v3), (7, .int 0), (6, .int r9), (0, .ref jo), (1, .int v1), (2, .int v2)]) hx hb dX4_leftOut_89 hl (k := 7) rfl (by rw [ex15]; rfl) (by decide) rfl (fun ls hl => ?_)
        refine lv_goto (tgt := 13) hx hb dX4_leftOut_92 (by decide) ?_
        exact ih y10 y11 v3 v4 x15 hq _ _ hP hD hS ls (lv_sub hl [5, 6, 7, 2, 1, 0] rfl)
      · have hq := q_if_f hq c14
        refine lv_iload hx hb dX4_leftOut_38 (lv_at hl 0 rfl) ?_
        refine lv_iload_n hx hb dX4_leftOut_40 rfl (lv_at hl 3 rfl) ?_
        refine lv_icmp_gt (tgt := 60) hx hb dX4_leftOut_41 (by decide) (fun c16 => ?_) (fun c16 => ?_)
        · have hq := q_if_t hq c16
          refine lv_iconst (v := 0) hx hb dX4_leftOut_60 (by decide) ?_
          refine lv_istore (lv' := [(7, .int 0), (6, .int r9), (0, .ref jo), (1, .int v1), (2, .int v2), (3, .int v3), (4, .int v4), (5, .int v5)]) hx hb dX4_leftOut_61 hl (by decide) rfl (fun ls hl => ?_)
          refine lv_iload hx hb dX4_leftOut_63 (lv_at hl 0 rfl) ?_
          refine lv_if_eq (tgt := 73) hx hb dX4_leftOut_65 (by decide) (fun _ => ?_) (fun h => absurd (by decide) h)
          refine lv_iload_n hx hb dX4_leftOut_73 rfl (lv_at hl 5 rfl) ?_
          refine lv_istore_n (lv' := [(3, .int v3), (7, .int 0), (6, .int r9), (0, .ref jo), (1, .int v1), (2, .int v2), (4, .int v4), (5, .int v5)]) hx hb dX4_leftOut_74 rfl hl (by decide) rfl (fun ls hl => ?_)
          refine lv_iload hx hb dX4_leftOut_75 (lv_at hl 1 rfl) ?_
          refine lv_if_eq (tgt := 85) hx hb dX4_leftOut_77 (by decide) (fun _ => ?_) (fun h => absurd (by decide) h)
          refine lv_iload hx hb dX4_leftOut_85 (lv_at hl 6 rfl) ?_
          refine lv_istore (lv' := [(4, .int v4), (3, .int v3), (7, .int 0), (6, .int r9), (0, .ref jo), (1, .int v1), (2, .int v2), (5, .int v5)]) hx hb dX4_leftOut_87 hl (by decide) rfl (fun ls hl => ?_)
          obtain ⟨x17, ex17⟩ : ∃ y : Int32, y = (v5 : Int32) + 1 := ⟨_, rfl⟩
          have hq := q_let hq ex17
          refine lv_iinc (v := x17) (lv' := [(5, .int x17), (4, .int v4), (3, .int v3), (7, .int 0), (6, .int r9), (0, .ref jo), (1, .int v1), (2, .int v2)]) hx hb dX4_leftOut_89 hl (k := 7) rfl (by rw [ex17]; rfl) (by decide) rfl (fun ls hl => ?_)
          refine lv_goto (tgt := 13) hx hb dX4_leftOut_92 (by decide) ?_
          exact ih y10 y11 v3 v4 x17 hq _ _ hP hD hS ls (lv_sub hl [5, 6, 7, 2, 1, 0] rfl)
        · have hq := q_if_f hq c16
          refine lv_iload_n hx hb dX4_leftOut_44 rfl (lv_at hl 4 rfl) ?_
          refine lv_iconst (v := (-1)) hx hb dX4_leftOut_45 (by decide) ?_
          refine lv_icmp_eq (tgt := 56) hx hb dX4_leftOut_46 (by decide) (fun c18 => ?_) (fun c18 => ?_)
          · have hq := q_if_t hq c18
            refine lv_iconst (v := 1) hx hb dX4_leftOut_56 (by decide) ?_
            refine lv_goto (tgt := 61) hx hb dX4_leftOut_57 (by decide) ?_
            refine lv_istore (lv' := [(7, .int 1), (6, .int r9), (0, .ref jo), (1, .int v1), (2, .int v2), (3, .int v3), (4, .int v4), (5, .int v5)]) hx hb dX4_leftOut_61 hl (by decide) rfl (fun ls hl => ?_)
            refine lv_iload hx hb dX4_leftOut_63 (lv_at hl 0 rfl) ?_
            refine lv_if_eq (tgt := 73) hx hb dX4_leftOut_65 (by decide) (fun h => absurd h (by decide)) (fun _ => ?_)
            refine lv_iload hx hb dX4_leftOut_68 (lv_at hl 7 rfl) ?_
            refine lv_goto (tgt := 74) hx hb dX4_leftOut_70 (by decide) ?_
            refine lv_istore_n (lv' := [(3, .int v5), (7, .int 1), (6, .int r9), (0, .ref jo), (1, .int v1), (2, .int v2), (4, .int v4), (5, .int v5)]) hx hb dX4_leftOut_74 rfl hl (by decide) rfl (fun ls hl => ?_)
            refine lv_iload hx hb dX4_leftOut_75 (lv_at hl 1 rfl) ?_
            refine lv_if_eq (tgt := 85) hx hb dX4_leftOut_77 (by decide) (fun h => absurd h (by decide)) (fun _ => ?_)
            refine lv_iload hx hb dX4_leftOut_80 (lv_at hl 2 rfl) ?_
            refine lv_goto (tgt := 87) hx hb dX4_leftOut_82 (by decide) ?_
            refine lv_istore (lv' := [(4, .int r9), (3, .int v5), (7, .int 1), (6, .int r9), (0, .ref jo), (1, .int v1), (2, .int v2), (5, .int v5)]) hx hb dX4_leftOut_87 hl (by decide) rfl (fun ls hl => ?_)
            obtain ⟨x19, ex19⟩ : ∃ y : Int32, y = (v5 : Int32) + 1 := ⟨_, rfl⟩
            have hq := q_let hq ex19
            refine lv_iinc (v := x19) (lv' := [(5, .int x19), (4, .int r9), (3, .int v5), (7, .int 1), (6, .int r9), (0, .ref jo), (1, .int v1), (2, .int v2)]) hx hb dX4_leftOut_89 hl (k := 7) rfl (by rw [ex19]; rfl) (by decide) rfl (fun ls hl => ?_)
            refine lv_goto (tgt := 13) hx hb dX4_leftOut_92 (by decide) ?_
            exact ih y10 y11 v5 r9 x19 hq _ _ hP hD hS ls (lv_sub hl [5, 6, 7, 2, 1, 0] rfl)
          · have hq := q_if_f hq c18
            refine lv_iload hx hb dX4_leftOut_49 (lv_at hl 0 rfl) ?_
            refine lv_iload hx hb dX4_leftOut_51 (lv_at hl 5 rfl) ?_
            refine lv_icmp_ge (tgt := 60) hx hb dX4_leftOut_53 (by decide) (fun c20 => ?_) (fun c20 => ?_)
            · have hq := q_if_t hq c20
              refine lv_iconst (v := 0) hx hb dX4_leftOut_60 (by decide) ?_
              refine lv_istore (lv' := [(7, .int 0), (6, .int r9), (0, .ref jo), (1, .int v1), (2, .int v2), (3, .int v3), (4, .int v4), (5, .int v5)]) hx hb dX4_leftOut_61 hl (by decide) rfl (fun ls hl => ?_)
              refine lv_iload hx hb dX4_leftOut_63 (lv_at hl 0 rfl) ?_
              refine lv_if_eq (tgt := 73) hx hb dX4_leftOut_65 (by decide) (fun _ => ?_) (fun h => absurd (by decide) h)
              refine lv_iload_n hx hb dX4_leftOut_73 rfl (lv_at hl 5 rfl) ?_
              refine lv_istore_n (lv' := [(3, .int v3), (7, .int 0), (6, .int r9), (0, .ref jo), (1, .int v1), (2, .int v2), (4, .int v4), (5, .int v5)]) hx hb dX4_leftOut_74 rfl hl (by decide) rfl (fun ls hl => ?_)
              refine lv_iload hx hb dX4_leftOut_75 (lv_at hl 1 rfl) ?_
              refine lv_if_eq (tgt := 85) hx hb dX4_leftOut_77 (by decide) (fun _ => ?_) (fun h => absurd (by decide) h)
              refine lv_iload hx hb dX4_leftOut_85 (lv_at hl 6 rfl) ?_
              refine lv_istore (lv' := [(4, .int v4), (3, .int v3), (7, .int 0), (6, .int r9), (0, .ref jo), (1, .int v1), (2, .int v2), (5, .int v5)]) hx hb dX4_leftOut_87 hl (by decide) rfl (fun ls hl => ?_)
              obtain ⟨x21, ex21⟩ : ∃ y : Int32, y = (v5 : Int32) + 1 := ⟨_, rfl⟩
              have hq := q_let hq ex21
              refine lv_iinc (v := x21) (lv' := [(5, .int x21), (4, .int v4), (3, .int v3), (7, .int 0), (6, .int r9), (0, .ref jo), (1, .int v1), (2, .int v2)]) hx hb dX4_leftOut_89 hl (k := 7) rfl (by rw [ex21]; rfl) (by decide) rfl (fun ls hl => ?_)
              refine lv_goto (tgt := 13) hx hb dX4_leftOut_92 (by decide) ?_
              exact ih y10 y11 v3 v4 x21 hq _ _ hP hD hS ls (lv_sub hl [5, 6, 7, 2, 1, 0] rfl)
            · have hq := q_if_f hq c20
              refine lv_iconst (v := 1) hx hb dX4_leftOut_56 (by decide) ?_
              refine lv_goto (tgt := 61) hx hb dX4_leftOut_57 (by decide) ?_
              refine lv_istore (lv' := [(7, .int 1), (6, .int r9), (0, .ref jo), (1, .int v1), (2, .int v2), (3, .int v3), (4, .int v4), (5, .int v5)]) hx hb dX4_leftOut_61 hl (by decide) rfl (fun ls hl => ?_)
              refine lv_iload hx hb dX4_leftOut_63 (lv_at hl 0 rfl) ?_
              refine lv_if_eq (tgt := 73) hx hb dX4_leftOut_65 (by decide) (fun h => absurd h (by decide)) (fun _ => ?_)
              refine lv_iload hx hb dX4_leftOut_68 (lv_at hl 7 rfl) ?_
              refine lv_goto (tgt := 74) hx hb dX4_leftOut_70 (by decide) ?_
              refine lv_istore_n (lv' := [(3, .int v5), (7, .int 1), (6, .int r9), (0, .ref jo), (1, .int v1), (2, .int v2), (4, .int v4), (5, .int v5)]) hx hb dX4_leftOut_74 rfl hl (by decide) rfl (fun ls hl => ?_)
              refine lv_iload hx hb dX4_leftOut_75 (lv_at hl 1 rfl) ?_
              refine lv_if_eq (tgt := 85) hx hb dX4_leftOut_77 (by decide) (fun h => absurd h (by decide)) (fun _ => ?_)
              refine lv_iload hx hb dX4_leftOut_80 (lv_at hl 2 rfl) ?_
              refine lv_goto (tgt := 87) hx hb dX4_leftOut_82 (by decide) ?_
              refine lv_istore (lv' := [(4, .int r9), (3, .int v5), (7, .int 1), (6, .int r9), (0, .ref jo), (1, .int v1), (2, .int v2), (5, .int v5)]) hx hb dX4_leftOut_87 hl (by decide) rfl (fun ls hl => ?_)
              obtain ⟨x22, ex22⟩ : ∃ y : Int32, y = (v5 : Int32) + 1 := ⟨_, rfl⟩
              have hq := q_let hq ex22
              refine lv_iinc (v := x22) (lv' := [(5, .int x22), (4, .int r9), (3, .int v5), (7, .int 1), (6, .int r9), (0, .ref jo), (1, .int v1), (2, .int v2)]) hx hb dX4_leftOut_89 hl (k := 7) rfl (by rw [ex22]; rfl) (by decide) rfl (fun ls hl => ?_)
              refine lv_goto (tgt := 13) hx hb dX4_leftOut_92 (by decide) ?_
              exact ih y10 y11 v5 r9 x22 hq _ _ hP hD hS ls (lv_sub hl [5, 6, 7, 2, 1, 0] rfl)
def F_X4_leftOut (us : Nat → Int32) (uk : Nat → Int32) (ub : Nat → Int32) (p1 : Int32) (p2 : Int32) : Option (Int32 × (Nat → Int32) × (Nat → Int32) × (Nat → Int32)) := (F_X4_bakes us ub p1).bind fun y1 => F_X4_leftOut_13 y1 p1 p2 2000 us uk (-1) 0 0
set_option maxHeartbeats 4000000 in
set_option maxRecDepth 100000 in
theorem k_X4_leftOut (l : Launch) (G : va_G) (g : Nat → ClassId) (jo js jp ja jk jt jb : Nat) (un : Int32) (uy : Int32) (uw : Int32) (uq : Int32) (uz : Int32) (us : Nat → Int32) (up : Nat → Int32) (ua : Nat → Int32) (uk : Nat → Int32) (ut : Nat → Int32) (ub : Nat → Int32) (p1 : Int32) (p2 : Int32) (res : Int32 × (Nat → Int32) × (Nat → Int32) × (Nat → Int32)) (hq : F_X4_leftOut us uk ub p1 p2 = some res) : rwC l yX4_leftOut wsX4_leftOut (rmF 5 135) G g [.ref jo, .int p1, .int p2] [(jo, .inr (4, [.ref js, .ref jp, .ref ja, .ref jk, .int un, .ref jt, .int uy, .int uw, .ref jb, .int uq, .int uz])), (js, .inl (g 0, 388, .inl us)), (jp, .inl (g 0, 1552, .inl up)), (ja, .inl (g 0, 388, .inl ua)), (jk, .inl (g 0, 97, .inl uk)), (jt, .inl (g 0, 150, .inl ut)), (jb, .inl (g 0, 1000, .inl ub))] (some (.int res.1)) [(jo, .inr (4, [.ref js, .ref jp, .ref ja, .ref jk, .int un, .ref jt, .int uy, .int uw, .ref jb, .int uq, .int uz])), (js, .inl (g 0, 388, .inl res.2.1)), (jp, .inl (g 0, 1552, .inl up)), (ja, .inl (g 0, 388, .inl ua)), (jk, .inl (g 0, 97, .inl res.2.2.1)), (jt, .inl (g 0, 150, .inl ut)), (jb, .inl (g 0, 1000, .inl res.2.2.2))] := by
  refine rwC.of (cc := cX4_leftOut) (maxL := 8) (ret := (some .int)) (by decide) rfl (Nat.le_of_ble_eq_true rfl) ?_
  intro p e s m below meth c ls A X K hA hP hD hS hl
  obtain ⟨hx, hb, hml, hr, hown, hts, hk⟩ := id X
  have hl : lv_has ls 8 [(0, .ref jo), (1, .int p1), (2, .int p2)] := hl
  unfold F_X4_leftOut at hq
  refine lv_aload_n hx hb dX4_leftOut_0 rfl (lv_at hl 0 rfl) ?_
  refine lv_iload_n hx hb dX4_leftOut_1 rfl (lv_at hl 1 rfl) ?_
  obtain ⟨y1, hh2, hq⟩ := q_bd hq
  refine rwV (ci := 4) (wr := []) (As := [.int p1]) (rest := []) X K (k_X4_bakes l G g jo js jp ja jk jt jb un uy uw uq uz us up ua uk ut ub p1 _ hh2) hd_X4_bakes gX4_leftOut_X4_bakes hP hD hS hA [0, 1, 2, 3, 4, 5, 6] [] rfl rfl ⟨by decide, by decide, by decide⟩ hl.1 dX4_leftOut_2 rfl rfl ⟨Nat.le_of_ble_eq_true rfl, Nat.le_of_ble_eq_true rfl⟩ rfl rfl rfl (Nat.le_of_ble_eq_true rfl) ⟨Nat.zero_le _, Nat.zero_le _⟩ (fun H locs hP hD hS => ?_)
  have hP : va_P G vwCl [(jo, .inr (4, [.ref js, .ref jp, .ref ja, .ref jk, .int un, .ref jt, .int uy, .int uw, .ref jb, .int uq, .int uz])), (js, .inl (g 0, 388, .inl us)), (jp, .inl (g 0, 1552, .inl up)), (ja, .inl (g 0, 388, .inl ua)), (jk, .inl (g 0, 97, .inl uk)), (jt, .inl (g 0, 150, .inl ut)), (jb, .inl (g 0, 1000, .inl y1))] H := hP
  have hD : va_D A [(jo, .inr (4, [.ref js, .ref jp, .ref ja, .ref jk, .int un, .ref jt, .int uy, .int uw, .ref jb, .int uq, .int uz])), (js, .inl (g 0, 388, .inl us)), (jp, .inl (g 0, 1552, .inl up)), (ja, .inl (g 0, 388, .inl ua)), (jk, .inl (g 0, 97, .inl uk)), (jt, .inl (g 0, 150, .inl ut)), (jb, .inl (g 0, 1000, .inl y1))] := hD
  refine lv_iconst (v := (-1)) hx hb dX4_leftOut_5 (by decide) ?_
  refine lv_istore_n (lv' := [(3, .int (-1)), (0, .ref jo), (1, .int p1), (2, .int p2)]) hx hb dX4_leftOut_6 rfl hl (by decide) rfl (fun ls hl => ?_)
  refine lv_iconst (v := 0) hx hb dX4_leftOut_7 (by decide) ?_
  refine lv_istore (lv' := [(4, .int 0), (3, .int (-1)), (0, .ref jo), (1, .int p1), (2, .int p2)]) hx hb dX4_leftOut_8 hl (by decide) rfl (fun ls hl => ?_)
  refine lv_iconst (v := 0) hx hb dX4_leftOut_10 (by decide) ?_
  refine lv_istore (lv' := [(5, .int 0), (4, .int 0), (3, .int (-1)), (0, .ref jo), (1, .int p1), (2, .int p2)]) hx hb dX4_leftOut_11 hl (by decide) rfl (fun ls hl => ?_)
  exact w_X4_leftOut_13 X K hA jo js jp ja jk jt jb un uy uw uq uz up ua ut y1 p1 p2 _ 2000 us uk (-1) 0 0 hq _ _ hP hD hS ls (lv_sub hl [3, 4, 5, 2, 1, 0] rfl)
def F_X4_keyOf (us : Nat → Int32) (p1 : Int32) (p2 : Int32) (p3 : Int32) : Option (Int32) := if (5 : Int32) ≤ p3 then (if p3 = 5 then ((F_X4_tangent us p1 p2).bind fun r5 => some (r5)) else ((F_X4_of us p1 p2 5).bind fun r3 => some (r3))) else ((F_X4_of us p1 p2 p3).bind fun r7 => some (r7))
set_option maxHeartbeats 4000000 in
set_option maxRecDepth 100000 in
theorem k_X4_keyOf (l : Launch) (G : va_G) (g : Nat → ClassId) (jo js jp ja jk jt jb : Nat) (un : Int32) (uy : Int32) (uw : Int32) (uq : Int32) (uz : Int32) (us : Nat → Int32) (up : Nat → Int32) (ua : Nat → Int32) (uk : Nat → Int32) (ut : Nat → Int32) (ub : Nat → Int32) (p1 : Int32) (p2 : Int32) (p3 : Int32) (res : Int32) (hq : F_X4_keyOf us p1 p2 p3 = some res) : roC l yX4_keyOf wsX4_keyOf (rmF 3 71) G g [.ref jo, .int p1, .int p2, .int p3] [(jo, .inr (4, [.ref js, .ref jp, .ref ja, .ref jk, .int un, .ref jt, .int uy, .int uw, .ref jb, .int uq, .int uz])), (js, .inl (g 0, 388, .inl us)), (jp, .inl (g 0, 1552, .inl up)), (ja, .inl (g 0, 388, .inl ua)), (jk, .inl (g 0, 97, .inl uk)), (jt, .inl (g 0, 150, .inl ut)), (jb, .inl (g 0, 1000, .inl ub))] (some (.int res)) := by
  refine roC.of (cc := cX4_keyOf) (maxL := 4) (ret := (some .int)) (by decide) rfl (Nat.le_of_ble_eq_true rfl) ?_
  intro p e s m below meth c ls X K hP hl
  obtain ⟨hx, hb, hml, hr, hown, hts, hk⟩ := id X
  have hl : lv_has ls 4 [(0, .ref jo), (1, .int p1), (2, .int p2), (3, .int p3)] := hl
  unfold F_X4_keyOf at hq
  refine lv_iload_n hx hb dX4_keyOf_0 rfl (lv_at hl 3 rfl) ?_
  refine lv_iconst (v := 5) hx hb dX4_keyOf_1 (by decide) ?_
  refine lv_icmp_ge (tgt := 15) hx hb dX4_keyOf_2 (by decide) (fun c1 => ?_) (fun c1 => ?_)
  · have hq := q_if_t hq c1
    refine lv_iload_n hx hb dX4_keyOf_15 rfl (lv_at hl 3 rfl) ?_
    refine lv_iconst (v := 5) hx hb dX4_keyOf_16 (by decide) ?_
    refine lv_icmp_ne (tgt := 29) hx hb dX4_keyOf_17 (by decide) (fun c2 => ?_) (fun c2 => ?_)
    · have hq := q_if_f hq c2
      refine lv_aload_n hx hb dX4_keyOf_29 rfl (lv_at hl 0 rfl) ?_
      refine lv_iload_n hx hb dX4_keyOf_30 rfl (lv_at hl 1 rfl) ?_
      refine lv_iload_n hx hb dX4_keyOf_31 rfl (lv_at hl 2 rfl) ?_
      refine lv_iconst (v := 5) hx hb dX4_keyOf_32 (by decide) ?_
      obtain ⟨r3, hh4, hq⟩ := q_bd hq
      refine roV (ci := 4) (As := [.int p1, .int p2, .int 5]) (rest := []) X K (k_X4_of l G g jo js jp ja jk jt jb un uy uw uq uz us up ua uk ut ub p1 p2 5 _ hh4) hd_X4_of gX4_keyOf_X4_of hP hl.1 dX4_keyOf_33 rfl rfl ⟨Nat.le_of_ble_eq_true rfl, Nat.le_of_ble_eq_true rfl⟩ rfl rfl rfl (Nat.le_of_ble_eq_true rfl) ⟨Nat.zero_le _, Nat.zero_le _⟩ ?_
      obtain rfl := q_rt hq
      exact ro_iret hx hb hr hk dX4_keyOf_36
    · have hq := q_if_t hq c2
      refine lv_aload_n hx hb dX4_keyOf_20 rfl (lv_at hl 0 rfl) ?_
      refine lv_iload_n hx hb dX4_keyOf_21 rfl (lv_at hl 1 rfl) ?_
      refine lv_iload_n hx hb dX4_keyOf_22 rfl (lv_at hl 2 rfl) ?_
      obtain ⟨r5, hh6, hq⟩ := q_bd hq
      refine roV (ci := 4) (As := [.int p1, .int p2]) (rest := []) X K (k_X4_tangent l G g jo js jp ja jk jt jb un uy uw uq uz us up ua uk ut ub p1 p2 _ hh6) hd_X4_tangent gX4_keyOf_X4_tangent hP hl.1 dX4_keyOf_23 rfl rfl ⟨Nat.le_of_ble_eq_true rfl, Nat.le_of_ble_eq_true rfl⟩ rfl rfl rfl (Nat.le_of_ble_eq_true rfl) ⟨Nat.zero_le _, Nat.zero_le _⟩ ?_
      refine lv_goto (tgt := 36) hx hb dX4_keyOf_26 (by decide) ?_
      obtain rfl := q_rt hq
      exact ro_iret hx hb hr hk dX4_keyOf_36
  · have hq := q_if_f hq c1
    refine lv_aload_n hx hb dX4_keyOf_5 rfl (lv_at hl 0 rfl) ?_
    refine lv_iload_n hx hb dX4_keyOf_6 rfl (lv_at hl 1 rfl) ?_
    refine lv_iload_n hx hb dX4_keyOf_7 rfl (lv_at hl 2 rfl) ?_
    refine lv_iload_n hx hb dX4_keyOf_8 rfl (lv_at hl 3 rfl) ?_
    obtain ⟨r7, hh8, hq⟩ := q_bd hq
    refine roV (ci := 4) (As := [.int p1, .int p2, .int p3]) (rest := []) X K (k_X4_of l G g jo js jp ja jk jt jb un uy uw uq uz us up ua uk ut ub p1 p2 p3 _ hh8) hd_X4_of gX4_keyOf_X4_of hP hl.1 dX4_keyOf_9 rfl rfl ⟨Nat.le_of_ble_eq_true rfl, Nat.le_of_ble_eq_true rfl⟩ rfl rfl rfl (Nat.le_of_ble_eq_true rfl) ⟨Nat.zero_le _, Nat.zero_le _⟩ ?_
    refine lv_goto (tgt := 36) hx hb dX4_keyOf_12 (by decide) ?_
    obtain rfl := q_rt hq
    exact ro_iret hx hb hr hk dX4_keyOf_36
theorem hd_X4_isFrame : ynm yX4_isFrame 1 := by unfold ynm; decide +kernel
def F_X4_areFrames (p1 : Int32) (p2 : Int32) : Option (Int32) := (F_X4_isFrame p1).bind fun r1 => if r1 = 0 then (some (0)) else ((F_X4_in p2 p1 999).bind fun r4 => if r4 = 0 then (some (0)) else (some (1)))
set_option maxHeartbeats 4000000 in
set_option maxRecDepth 100000 in
theorem k_X4_areFrames (l : Launch) (G : va_G) (g : Nat → ClassId) (p1 : Int32) (p2 : Int32) (res : Int32) (hq : F_X4_areFrames p1 p2 = some res) : roC l yX4_areFrames wsX4_areFrames (rmF 2 42) G g [.int p1, .int p2] [] (some (.int res)) := by
  refine roC.of (cc := cX4_areFrames) (maxL := 2) (ret := (some .boolean)) (by decide) rfl (Nat.le_of_ble_eq_true rfl) ?_
  intro p e s m below meth c ls X K hP hl
  obtain ⟨hx, hb, hml, hr, hown, hts, hk⟩ := id X
  have hl : lv_has ls 2 [(0, .int p1), (1, .int p2)] := hl
  unfold F_X4_areFrames at hq
  refine lv_iload_n hx hb dX4_areFrames_0 rfl (lv_at hl 0 rfl) ?_
  obtain ⟨r1, hh2, hq⟩ := q_bd hq
  refine roS (As := [.int p1]) (rest := []) X K (k_X4_isFrame l G g p1 _ hh2) hd_X4_isFrame gX4_areFrames_X4_isFrame hP hl.1 dX4_areFrames_1 rfl rfl ⟨Nat.le_of_ble_eq_true rfl, Nat.le_of_ble_eq_true rfl⟩ rfl (Nat.le_of_ble_eq_true rfl) ⟨Nat.zero_le _, Nat.zero_le _⟩ ?_
  refine lv_if_eq (tgt := 22) hx hb dX4_areFrames_4 (by decide) (fun c3 => ?_) (fun c3 => ?_)
  · have hq := q_if_t hq c3
    refine lv_iconst (v := 0) hx hb dX4_areFrames_22 (by decide) ?_
    obtain rfl := q_rt hq
    exact ro_zret hx hb hr nz_0 hk dX4_areFrames_23
  · have hq := q_if_f hq c3
    refine lv_iload_n hx hb dX4_areFrames_7 rfl (lv_at hl 1 rfl) ?_
    refine lv_iload_n hx hb dX4_areFrames_8 rfl (lv_at hl 0 rfl) ?_
    refine lv_sipush (v := 999) hx hb dX4_areFrames_9 (by decide) ?_
    obtain ⟨r4, hh5, hq⟩ := q_bd hq
    refine roS (As := [.int p2, .int p1, .int 999]) (rest := []) X K (k_X4_in l G g p2 p1 999 _ hh5) hd_X4_in gX4_areFrames_X4_in hP hl.1 dX4_areFrames_12 rfl rfl ⟨Nat.le_of_ble_eq_true rfl, Nat.le_of_ble_eq_true rfl⟩ rfl (Nat.le_of_ble_eq_true rfl) ⟨Nat.zero_le _, Nat.zero_le _⟩ ?_
    refine lv_if_eq (tgt := 22) hx hb dX4_areFrames_15 (by decide) (fun c6 => ?_) (fun c6 => ?_)
    · have hq := q_if_t hq c6
      refine lv_iconst (v := 0) hx hb dX4_areFrames_22 (by decide) ?_
      obtain rfl := q_rt hq
      exact ro_zret hx hb hr nz_0 hk dX4_areFrames_23
    · have hq := q_if_f hq c6
      refine lv_iconst (v := 1) hx hb dX4_areFrames_18 (by decide) ?_
      refine lv_goto (tgt := 23) hx hb dX4_areFrames_19 (by decide) ?_
      obtain rfl := q_rt hq
      exact ro_zret hx hb hr nz_1 hk dX4_areFrames_23
def F_X4_sumOf_6 (us : Nat → Int32) (v1 : Int32) (v2 : Int32) : Nat → Int64 → Int32 → Option (Int64)
  | 0, _, _ => none
  | n + 1, v3, v4 => if v2 < v4 then (some (v3)) else ((F_X4_valueAt us v1 v4).bind fun r6 => vlet (v3 + (r6.toInt64)) fun x8 => vlet ((v4 : Int32) + 1) fun x9 => F_X4_sumOf_6 us v1 v2 n x8 x9)
set_option maxHeartbeats 4000000 in
set_option maxRecDepth 100000 in
theorem w_X4_sumOf_6 {p : Program} {l : Launch} {e : Env} {s : State} {m : MethodId} {args : Array Value} {below : List Frame} {meth : Method} {c : Code} {G : va_G} {g : Nat → ClassId} (X : cx p s m args meth c cX4_sumOf 7 (some .long) RX4 wsX4_sumOf) (K : amb G g s) (jo js jp ja jk jt jb : Nat) (un : Int32) (uy : Int32) (uw : Int32) (uq : Int32) (uz : Int32) (up : Nat → Int32) (ua : Nat → Int32) (uk : Nat → Int32) (ut : Nat → Int32) (ub : Nat → Int32) (us : Nat → Int32) (v1 : Int32) (v2 : Int32) (hP : va_P G vwCl [(jo, .inr (4, [.ref js, .ref jp, .ref ja, .ref jk, .int un, .ref jt, .int uy, .int uw, .ref jb, .int uq, .int uz])), (js, .inl (g 0, 388, .inl us)), (jp, .inl (g 0, 1552, .inl up)), (ja, .inl (g 0, 388, .inl ua)), (jk, .inl (g 0, 97, .inl uk)), (jt, .inl (g 0, 150, .inl ut)), (jb, .inl (g 0, 1000, .inl ub))] s.heap) (res : Int64) : ∀ (n : Nat) (v3 : Int64) (v4 : Int32), F_X4_sumOf_6 us v1 v2 n v3 v4 = some res → ∀ (ls : Array Slot), lv_has ls 7 [(0, .ref jo), (1, .int v1), (3, .int v2), (4, .long v3), (6, .int v4)] → W p l e (rmF 4 110) s m args below meth c s.heap [] 0 0 (roM below (some (.long res)) args s) (F0 m 6 ls []) := by
  obtain ⟨hx, hb, hml, hr, hown, hts, hk⟩ := id X
  intro n
  induction n with
  | zero => intro v3 v4 hq; exact q_no hq
  | succ n ih =>
    intro v3 v4 hq ls hl
    rw [F_X4_sumOf_6] at hq
    refine lv_iload hx hb dX4_sumOf_6 (lv_at hl 4 rfl) ?_
    refine lv_iload_n hx hb dX4_sumOf_8 rfl (lv_at hl 2 rfl) ?_
    refine lv_icmp_gt (tgt := 31) hx hb dX4_sumOf_9 (by decide) (fun c5 => ?_) (fun c5 => ?_)
    · have hq := q_if_t hq c5
      refine lv_lload hx hb dX4_sumOf_31 (lv_at hl 3 rfl) ?_
      obtain rfl := q_rt hq
      exact ro_lret hx hb hr hk dX4_sumOf_33
    · have hq := q_if_f hq c5
      refine lv_lload hx hb dX4_sumOf_12 (lv_at hl 3 rfl) ?_
      refine lv_aload_n hx hb dX4_sumOf_14 rfl (lv_at hl 0 rfl) ?_
      refine lv_iload_n hx hb dX4_sumOf_15 rfl (lv_at hl 1 rfl) ?_
      refine lv_iload hx hb dX4_sumOf_16 (lv_at hl 4 rfl) ?_
      obtain ⟨r6, hh7, hq⟩ := q_bd hq
      refine roV (ci := 4) (As := [.int v1, .int v4]) (rest := [.long v3]) X K (k_X4_valueAt l G g jo js jp ja jk jt jb un uy uw uq uz us up ua uk ut ub v1 v4 _ hh7) hd_X4_valueAt gX4_sumOf_X4_valueAt hP hl.1 dX4_sumOf_18 rfl rfl ⟨Nat.le_of_ble_eq_true rfl, Nat.le_of_ble_eq_true rfl⟩ rfl rfl rfl (Nat.le_of_ble_eq_true rfl) ⟨Nat.zero_le _, Nat.zero_le _⟩ ?_
      refine lv_i2l (v := r6.toInt64) hx hb dX4_sumOf_21 rfl ?_
      refine lv_ladd hx hb dX4_sumOf_22 ?_
      refine lv_topl (fun x8 ex8 => ?_)
      have hq := q_let hq ex8
      refine lv_lstore (lv' := [(4, .long x8), (0, .ref jo), (1, .int v1), (3, .int v2), (6, .int v4)]) hx hb dX4_sumOf_23 hl (by decide) rfl (fun ls hl => ?_)
      obtain ⟨x9, ex9⟩ : ∃ y : Int32, y = (v4 : Int32) + 1 := ⟨_, rfl⟩
      have hq := q_let hq ex9
      refine lv_iinc (v := x9) (lv' := [(6, .int x9), (4, .long x8), (0, .ref jo), (1, .int v1), (3, .int v2)]) hx hb dX4_sumOf_25 hl (k := 4) rfl (by rw [ex9]; rfl) (by decide) rfl (fun ls hl => ?_)
      refine lv_goto (tgt := 6) hx hb dX4_sumOf_28 (by decide) ?_
      exact ih x8 x9 hq ls (lv_sub hl [2, 3, 4, 1, 0] rfl)
def F_X4_sumOf (us : Nat → Int32) (p1 : Int32) (p2 : Int32) (p3 : Int32) : Option (Int64) := F_X4_sumOf_6 us p1 p3 2000 0 p2
set_option maxHeartbeats 4000000 in
set_option maxRecDepth 100000 in
theorem k_X4_sumOf (l : Launch) (G : va_G) (g : Nat → ClassId) (jo js jp ja jk jt jb : Nat) (un : Int32) (uy : Int32) (uw : Int32) (uq : Int32) (uz : Int32) (us : Nat → Int32) (up : Nat → Int32) (ua : Nat → Int32) (uk : Nat → Int32) (ut : Nat → Int32) (ub : Nat → Int32) (p1 : Int32) (p2 : Int32) (p3 : Int32) (res : Int64) (hq : F_X4_sumOf us p1 p2 p3 = some res) : roC l yX4_sumOf wsX4_sumOf (rmF 4 110) G g [.ref jo, .int p1, .int p2, .int p3] [(jo, .inr (4, [.ref js, .ref jp, .ref ja, .ref jk, .int un, .ref jt, .int uy, .int uw, .ref jb, .int uq, .int uz])), (js, .inl (g 0, 388, .inl us)), (jp, .inl (g 0, 1552, .inl up)), (ja, .inl (g 0, 388, .inl ua)), (jk, .inl (g 0, 97, .inl uk)), (jt, .inl (g 0, 150, .inl ut)), (jb, .inl (g 0, 1000, .inl ub))] (some (.long res)) := by
  refine roC.of (cc := cX4_sumOf) (maxL := 7) (ret := (some .long)) (by decide) rfl (Nat.le_of_ble_eq_true rfl) ?_
  intro p e s m below meth c ls X K hP hl
  obtain ⟨hx, hb, hml, hr, hown, hts, hk⟩ := id X
  have hl : lv_has ls 7 [(0, .ref jo), (1, .int p1), (2, .int p2), (3, .int p3)] := hl
  unfold F_X4_sumOf at hq
  refine lv_lconst (v := 0) hx hb dX4_sumOf_0 (by decide) ?_
  refine lv_lstore (lv' := [(4, .long 0), (0, .ref jo), (1, .int p1), (2, .int p2), (3, .int p3)]) hx hb dX4_sumOf_1 hl (by decide) rfl (fun ls hl => ?_)
  refine lv_iload_n hx hb dX4_sumOf_3 rfl (lv_at hl 3 rfl) ?_
  refine lv_istore (lv' := [(6, .int p2), (4, .long 0), (0, .ref jo), (1, .int p1), (2, .int p2), (3, .int p3)]) hx hb dX4_sumOf_4 hl (by decide) rfl (fun ls hl => ?_)
  exact w_X4_sumOf_6 X K jo js jp ja jk jt jb un uy uw uq uz up ua uk ut ub us p1 p3 hP _ 2000 0 p2 hq ls (lv_sub hl [2, 3, 5, 1, 0] rfl)
theorem in_X4_extremeOf_X4 : ∀ w ∈ wsX40, w ∈ wsX4_extremeOf := fun _ h => List.mem_cons_of_mem _ (List.mem_append_right _ h)
def F_X4_extremeOf_19 (us : Nat → Int32) (ub : Nat → Int32) (v1 : Int32) (v2 : Int32) : Nat → Int32 → Int32 → Int32 → Int32 → Option (Int32 × (Nat → Int32))
  | 0, _, _, _, _ => none
  | n + 1, v3, v4, v5, v6 => if v1 < v6 then (if v2 = 0 then (vgd (ix (v3) 1000) <| some (ub v3.toNatClampNeg, ub)) else (if v2 = 1 then (some (v3, ub)) else (if v2 = 2 then (vgd (ix (v4) 1000) <| some (ub v4.toNatClampNeg, ub)) else (if v2 = 3 then (some (v4, ub)) else (some (v5, ub)))))) else (vgd (ix (v6) 1000) <| vgd (ix (v3) 1000) <| if (ub v6.toNatClampNeg) ≤ (ub v3.toNatClampNeg) then (vgd (ix (v6) 1000) <| vgd (ix (v4) 1000) <| if (ub v4.toNatClampNeg) ≤ (ub v6.toNatClampNeg) then (vgd (ix (v6) 1000) <| vgd (ix (v6 - 1) 1000) <| (F_X4_apart (ub v6.toNatClampNeg) (ub (v6 - 1).toNatClampNeg)).bind fun r22 => if r22 ≤ v5 then (vlet ((v6 : Int32) + 1) fun x25 => F_X4_extremeOf_19 us ub v1 v2 n v3 v4 v5 x25) else (vlet ((v6 : Int32) + 1) fun x26 => F_X4_extremeOf_19 us ub v1 v2 n v3 v4 r22 x26)) else (vgd (ix (v6) 1000) <| vgd (ix (v6 - 1) 1000) <| (F_X4_apart (ub v6.toNatClampNeg) (ub (v6 - 1).toNatClampNeg)).bind fun r29 => if r29 ≤ v5 then (vlet ((v6 : Int32) + 1) fun x32 => F_X4_extremeOf_19 us ub v1 v2 n v3 v6 v5 x32) else (vlet ((v6 : Int32) + 1) fun x33 => F_X4_extremeOf_19 us ub v1 v2 n v3 v6 r29 x33))) else (vgd (ix (v6) 1000) <| vgd (ix (v4) 1000) <| if (ub v4.toNatClampNeg) ≤ (ub v6.toNatClampNeg) then (vgd (ix (v6) 1000) <| vgd (ix (v6 - 1) 1000) <| (F_X4_apart (ub v6.toNatClampNeg) (ub (v6 - 1).toNatClampNeg)).bind fun r39 => if r39 ≤ v5 then (vlet ((v6 : Int32) + 1) fun x42 => F_X4_extremeOf_19 us ub v1 v2 n v6 v4 v5 x42) else (vlet ((v6 : Int32) + 1) fun x43 => F_X4_extremeOf_19 us ub v1 v2 n v6 v4 r39 x43)) else (vgd (ix (v6) 1000) <| vgd (ix (v6 - 1) 1000) <| (F_X4_apart (ub v6.toNatClampNeg) (ub (v6 - 1).toNatClampNeg)).bind fun r46 => if r46 ≤ v5 then (vlet ((v6 : Int32) + 1) fun x49 => F_X4_extremeOf_19 us ub v1 v2 n v6 v6 v5 x49) else (vlet ((v6 : Int32) + 1) fun x50 => F_X4_extremeOf_19 us ub v1 v2 n v6 v6 r46 x50))))
set_option maxHeartbeats 4000000 in
set_option maxRecDepth 100000 in
theorem w_X4_extremeOf_19 {p : Program} {l : Launch} {e : Env} {s : State} {m : MethodId} {args : Array Value} {below : List Frame} {meth : Method} {c : Code} {G : va_G} {g : Nat → ClassId} (X : cx p s m args meth c cX4_extremeOf 10 (some .int) RX4 wsX4_extremeOf) (K : amb G g s) {A : Nat → Prop} (hA : ∀ q : Nat, s.heap.size ≤ q → A q) (jo js jp ja jk jt jb : Nat) (un : Int32) (uy : Int32) (uw : Int32) (uq : Int32) (uz : Int32) (up : Nat → Int32) (ua : Nat → Int32) (uk : Nat → Int32) (ut : Nat → Int32) (us : Nat → Int32) (ub : Nat → Int32) (v1 : Int32) (v2 : Int32) (res : Int32 × (Nat → Int32)) : ∀ (n : Nat) (v3 : Int32) (v4 : Int32) (v5 : Int32) (v6 : Int32), F_X4_extremeOf_19 us ub v1 v2 n v3 v4 v5 v6 = some res → ∀ (H : Heap) (locs : List Loc), va_P G vwCl [(jo, .inr (4, [.ref js, .ref jp, .ref ja, .ref jk, .int un, .ref jt, .int uy, .int uw, .ref jb, .int uq, .int uz])), (js, .inl (g 0, 388, .inl us)), (jp, .inl (g 0, 1552, .inl up)), (ja, .inl (g 0, 388, .inl ua)), (jk, .inl (g 0, 97, .inl uk)), (jt, .inl (g 0, 150, .inl ut)), (jb, .inl (g 0, 1000, .inl ub))] H → va_D A [(jo, .inr (4, [.ref js, .ref jp, .ref ja, .ref jk, .int un, .ref jt, .int uy, .int uw, .ref jb, .int uq, .int uz])), (js, .inl (g 0, 388, .inl us)), (jp, .inl (g 0, 1552, .inl up)), (ja, .inl (g 0, 388, .inl ua)), (jk, .inl (g 0, 97, .inl uk)), (jt, .inl (g 0, 150, .inl ut)), (jb, .inl (g 0, 1000, .inl ub))] → va_S A s.heap H locs → ∀ (ls : Array Slot), lv_has ls 10 [(0, .ref jo), (3, .int v1), (4, .int v2), (5, .int v3), (6, .int v4), (7, .int v5), (8, .int v6)] → W p l e (rmF 5 132) s m args below meth c H locs 0 0 (rwM G A below (some (.int res.1)) [(jo, .inr (4, [.ref js, .ref jp, .ref ja, .ref jk, .int un, .ref jt, .int uy, .int uw, .ref jb, .int uq, .int uz])), (js, .inl (g 0, 388, .inl us)), (jp, .inl (g 0, 1552, .inl up)), (ja, .inl (g 0, 388, .inl ua)), (jk, .inl (g 0, 97, .inl uk)), (jt, .inl (g 0, 150, .inl ut)), (jb, .inl (g 0, 1000, .inl res.2))] args s) (F0 m 19 ls []) := by
  obtain ⟨hx, hb, hml, hr, hown, hts, hk⟩ := id X
  intro n
  induction n with
  | zero => intro v3 v4 v5 v6 hq; exact q_no hq
  | succ n ih =>
    intro v3 v4 v5 v6 hq H locs hP hD hS ls hl
    rw [F_X4_extremeOf_19] at hq
    refine lv_iload hx hb dX4_extremeOf_19 (lv_at hl 6 rfl) ?_
    refine lv_iload_n hx hb dX4_extremeOf_21 rfl (lv_at hl 1 rfl) ?_
    refine lv_icmp_gt (tgt := 120) hx hb dX4_extremeOf_22 (by decide) (fun c7 => ?_) (fun c7 => ?_)
    · have hq := q_if_t hq c7
      refine lv_iload hx hb dX4_extremeOf_120 (lv_at hl 2 rfl) ?_
      refine sw_c (x := v2) (k := 0) (fun c8 => ?_) (fun c8 => ?_)
      · have hq := q_if_t hq c8
        refine lv_tableIn (tgt := 152) hx hb dX4_extremeOf_122 (by rw [c8]; decide) (by rw [c8]; decide) (by rw [c8]; rfl) (by decide) ?_
        refine lv_aload_n hx hb dX4_extremeOf_152 rfl (lv_at hl 0 rfl) ?_
        refine va_get (D := G) (ci := 4) (v := .ref jb) (C := RX4) (T := TX4) (N := 11) hx hb hts in_X4_extremeOf_X4 hown K.1 hP 0 rfl rfl 8 (by decide) (hts _ (List.mem_of_getElem? (i := 1) rfl)) (fun _ h9 => h9) rfl dX4_extremeOf_153 ?_
        refine lv_iload hx hb dX4_extremeOf_156 (lv_at hl 3 rfl) ?_
        obtain ⟨hh9, hq⟩ := q_gd hq
        refine va_iald hx hb K.1 hP 6 0 rfl rfl (vp_in_iff.mpr hh9) dX4_extremeOf_158 ?_
        obtain rfl := q_rt hq
        exact rw_iret hx hb hr hk hP hD hS dX4_extremeOf_159
      have hq := q_if_f hq c8
      refine sw_c (x := v2) (k := 1) (fun c10 => ?_) (fun c10 => ?_)
      · have hq := q_if_t hq c10
        refine lv_tableIn (tgt := 160) hx hb dX4_extremeOf_122 (by rw [c10]; decide) (by rw [c10]; decide) (by rw [c10]; rfl) (by decide) ?_
        refine lv_iload hx hb dX4_extremeOf_160 (lv_at hl 3 rfl) ?_
        obtain rfl := q_rt hq
        exact rw_iret hx hb hr hk hP hD hS dX4_extremeOf_162
      have hq := q_if_f hq c10
      refine sw_c (x := v2) (k := 2) (fun c11 => ?_) (fun c11 => ?_)
      · have hq := q_if_t hq c11
        refine lv_tableIn (tgt := 163) hx hb dX4_extremeOf_122 (by rw [c11]; decide) (by rw [c11]; decide) (by rw [c11]; rfl) (by decide) ?_
        refine lv_aload_n hx hb dX4_extremeOf_163 rfl (lv_at hl 0 rfl) ?_
        refine va_get (D := G) (ci := 4) (v := .ref jb) (C := RX4) (T := TX4) (N := 11) hx hb hts in_X4_extremeOf_X4 hown K.1 hP 0 rfl rfl 8 (by decide) (hts _ (List.mem_of_getElem? (i := 1) rfl)) (fun _ h9 => h9) rfl dX4_extremeOf_164 ?_
        refine lv_iload hx hb dX4_extremeOf_167 (lv_at hl 4 rfl) ?_
        obtain ⟨hh12, hq⟩ := q_gd hq
        refine va_iald hx hb K.1 hP 6 0 rfl rfl (vp_in_iff.mpr hh12) dX4_extremeOf_169 ?_
        obtain rfl := q_rt hq
        exact rw_iret hx hb hr hk hP hD hS dX4_extremeOf_170
      have hq := q_if_f hq c11
      refine sw_c (x := v2) (k := 3) (fun c13 => ?_) (fun c13 => ?_)
      · have hq := q_if_t hq c13
        refine lv_tableIn (tgt := 171) hx hb dX4_extremeOf_122 (by rw [c13]; decide) (by rw [c13]; decide) (by rw [c13]; rfl) (by decide) ?_
        refine lv_iload hx hb dX4_extremeOf_171 (lv_at hl 4 rfl) ?_
        obtain rfl := q_rt hq
        exact rw_iret hx hb hr hk hP hD hS dX4_extremeOf_173
      have hq := q_if_f hq c13
      refine lv_tableOut (tgt := 174) hx hb dX4_extremeOf_122 (by have zc8 := lv_neT (a := 0) c8 rfl; have zc10 := lv_neT (a := 1) c10 rfl; have zc11 := lv_neT (a := 2) c11 rfl; have zc13 := lv_neT (a := 3) c13 rfl; omega) (by decide) ?_
      refine lv_iload hx hb dX4_extremeOf_174 (lv_at hl 5 rfl) ?_
      obtain rfl := q_rt hq
      exact rw_iret hx hb hr hk hP hD hS dX4_extremeOf_176
    · have hq := q_if_f hq c7
      refine lv_aload_n hx hb dX4_extremeOf_25 rfl (lv_at hl 0 rfl) ?_
      refine va_get (D := G) (ci := 4) (v := .ref jb) (C := RX4) (T := TX4) (N := 11) hx hb hts in_X4_extremeOf_X4 hown K.1 hP 0 rfl rfl 8 (by decide) (hts _ (List.mem_of_getElem? (i := 1) rfl)) (fun _ h9 => h9) rfl dX4_extremeOf_26 ?_
      refine lv_iload hx hb dX4_extremeOf_29 (lv_at hl 6 rfl) ?_
      obtain ⟨hh14, hq⟩ := q_gd hq
      refine va_iald hx hb K.1 hP 6 0 rfl rfl (vp_in_iff.mpr hh14) dX4_extremeOf_31 ?_
      refine lv_aload_n hx hb dX4_extremeOf_32 rfl (lv_at hl 0 rfl) ?_
      refine va_get (D := G) (ci := 4) (v := .ref jb) (C := RX4) (T := TX4) (N := 11) hx hb hts in_X4_extremeOf_X4 hown K.1 hP 0 rfl rfl 8 (by decide) (hts _ (List.mem_of_getElem? (i := 1) rfl)) (fun _ h9 => h9) rfl dX4_extremeOf_33 ?_
      refine lv_iload hx hb dX4_extremeOf_36 (lv_at hl 3 rfl) ?_
      obtain ⟨hh15, hq⟩ := q_gd hq
      refine va_iald hx hb K.1 hP 6 0 rfl rfl (vp_in_iff.mpr hh15) dX4_extremeOf_38 ?_
      refine lv_icmp_le (tgt := 47) hx hb dX4_extremeOf_39 (by decide) (fun c16 => ?_) (fun c16 => ?_)
      · have hq := q_if_t hq c16
        refine lv_iload hx hb dX4_extremeOf_47 (lv_at hl 3 rfl) ?_
        refine lv_istore (lv' := [(5, .int v3), (0, .ref jo), (3, .int v1), (4, .int v2), (6, .int v4), (7, .int v5), (8, .int v6)]) hx hb dX4_extremeOf_49 hl (by decide) rfl (fun ls hl => ?_)
        refine lv_aload_n hx hb dX4_extremeOf_51 rfl (lv_at hl 1 rfl) ?_
        refine va_get (D := G) (ci := 4) (v := .ref jb) (C := RX4) (T := TX4) (N := 11) hx hb hts in_X4_extremeOf_X4 hown K.1 hP 0 rfl rfl 8 (by decide) (hts _ (List.mem_of_getElem? (i := 1) rfl)) (fun _ h9 => h9) rfl dX4_extremeOf_52 ?_
        refine lv_iload hx hb dX4_extremeOf_55 (lv_at hl 6 rfl) ?_
        obtain ⟨hh17, hq⟩ := q_gd hq
        refine va_iald hx hb K.1 hP 6 0 rfl rfl (vp_in_iff.mpr hh17) dX4_extremeOf_57 ?_
        refine lv_aload_n hx hb dX4_extremeOf_58 rfl (lv_at hl 1 rfl) ?_
        refine va_get (D := G) (ci := 4) (v := .ref jb) (C := RX4) (T := TX4) (N := 11) hx hb hts in_X4_extremeOf_X4 hown K.1 hP 0 rfl rfl 8 (by decide) (hts _ (List.mem_of_getElem? (i := 1) rfl)) (fun _ h9 => h9) rfl dX4_extremeOf_59 ?_
        refine lv_iload hx hb dX4_extremeOf_62 (lv_at hl 4 rfl) ?_
        obtain ⟨hh18, hq⟩ := q_gd hq
        refine va_iald hx hb K.1 hP 6 0 rfl rfl (vp_in_iff.mpr hh18) dX4_extremeOf_64 ?_
        refine lv_icmp_ge (tgt := 73) hx hb dX4_extremeOf_65 (by decide) (fun c19 => ?_) (fun c19 => ?_)
        · have hq := q_if_t hq c19
          refine lv_iload hx hb dX4_extremeOf_73 (lv_at hl 4 rfl) ?_
          refine lv_istore (lv' := [(6, .int v4), (5, .int v3), (0, .ref jo), (3, .int v1), (4, .int v2), (7, .int v5), (8, .int v6)]) hx hb dX4_extremeOf_75 hl (by decide) rfl (fun ls hl => ?_)
          refine lv_aload_n hx hb dX4_extremeOf_77 rfl (lv_at hl 2 rfl) ?_
          refine va_get (D := G) (ci := 4) (v := .ref jb) (C := RX4) (T := TX4) (N := 11) hx hb hts in_X4_extremeOf_X4 hown K.1 hP 0 rfl rfl 8 (by decide) (hts _ (List.mem_of_getElem? (i := 1) rfl)) (fun _ h9 => h9) rfl dX4_extremeOf_78 ?_
          refine lv_iload hx hb dX4_extremeOf_81 (lv_at hl 6 rfl) ?_
          obtain ⟨hh20, hq⟩ := q_gd hq
          refine va_iald hx hb K.1 hP 6 0 rfl rfl (vp_in_iff.mpr hh20) dX4_extremeOf_83 ?_
          refine lv_aload_n hx hb dX4_extremeOf_84 rfl (lv_at hl 2 rfl) ?_
          refine va_get (D := G) (ci := 4) (v := .ref jb) (C := RX4) (T := TX4) (N := 11) hx hb hts in_X4_extremeOf_X4 hown K.1 hP 0 rfl rfl 8 (by decide) (hts _ (List.mem_of_getElem? (i := 1) rfl)) (fun _ h9 => h9) rfl dX4_extremeOf_85 ?_
          refine lv_iload hx hb dX4_extremeOf_88 (lv_at hl 6 rfl) ?_
          refine lv_iconst (v := 1) hx hb dX4_extremeOf_90 (by decide) ?_
          refine lv_isub hx hb dX4_extremeOf_91 ?_
          obtain ⟨hh21, hq⟩ := q_gd hq
          refine va_iald hx hb K.1 hP 6 0 rfl rfl (vp_in_iff.mpr hh21) dX4_extremeOf_92 ?_
          obtain ⟨r22, hh23, hq⟩ := q_bd hq
          refine roS (As := [.int (ub v6.toNatClampNeg), .int (ub (v6 - 1).toNatClampNeg)]) (rest := []) X K (k_X4_apart l G g (ub v6.toNatClampNeg) (ub (v6 - 1).toNatClampNeg) _ hh23) hd_X4_apart gX4_extremeOf_X4_apart (hP.sub [] rfl) hl.1 dX4_extremeOf_93 rfl rfl ⟨Nat.le_of_ble_eq_true rfl, Nat.le_of_ble_eq_true rfl⟩ rfl (Nat.le_of_ble_eq_true rfl) ⟨Nat.zero_le _, Nat.zero_le _⟩ ?_
          refine lv_istore (lv' := [(9, .int r22), (6, .int v4), (5, .int v3), (0, .ref jo), (3, .int v1), (4, .int v2), (7, .int v5), (8, .int v6)]) hx hb dX4_extremeOf_96 hl (by decide) rfl (fun ls hl => ?_)
          refine lv_iload hx hb dX4_extremeOf_98 (lv_at hl 0 rfl) ?_
          refine lv_iload hx hb dX4_extremeOf_100 (lv_at hl 6 rfl) ?_
          refine lv_icmp_le (tgt := 110) hx hb dX4_extremeOf_102 (by decide) (fun c24 => ?_) (fun c24 => ?_)
          · have hq := q_if_t hq c24
            refine lv_iload hx hb dX4_extremeOf_110 (lv_at hl 6 rfl) ?_
            refine lv_istore (lv' := [(7, .int v5), (9, .int r22), (6, .int v4), (5, .int v3), (0, .ref jo), (3, .int v1), (4, .int v2), (8, .int v6)]) hx hb dX4_extremeOf_112 hl (by decide) rfl (fun ls hl => ?_)
            obtain ⟨x25, ex25⟩ : ∃ y : Int32, y = (v6 : Int32) + 1 := ⟨_, rfl⟩
            have hq := q_let hq ex25
            refine lv_iinc (v := x25) (lv' := [(8, .int x25), (7, .int v5), (9, .int r22), (6, .int v4), (5, .int v3), (0, .ref jo), (3, .int v1), (4, .int v2)]) hx hb dX4_extremeOf_114 hl (k := 7) rfl (by rw [ex25]; rfl) (by decide) rfl (fun ls hl => ?_)
            refine lv_goto (tgt := 19) hx hb dX4_extremeOf_117 (by decide) ?_
            exact ih v3 v4 v5 x25 hq _ _ hP hD hS ls (lv_sub hl [5, 6, 7, 4, 3, 1, 0] rfl)
          · have hq := q_if_f hq c24
            refine lv_iload hx hb dX4_extremeOf_105 (lv_at hl 0 rfl) ?_
            refine lv_goto (tgt := 112) hx hb dX4_extremeOf_107 (by decide) ?_
            refine lv_istore (lv' := [(7, .int r22), (9, .int r22), (6, .int v4), (5, .int v3), (0, .ref jo), (3, .int v1), (4, .int v2), (8, .int v6)]) hx hb dX4_extremeOf_112 hl (by decide) rfl (fun ls hl => ?_)
            obtain ⟨x26, ex26⟩ : ∃ y : Int32, y = (v6 : Int32) + 1 := ⟨_, rfl⟩
            have hq := q_let hq ex26
            refine lv_iinc (v := x26) (lv' := [(8, .int x26), (7, .int r22), (9, .int r22), (6, .int v4), (5, .int v3), (0, .ref jo), (3, .int v1), (4, .int v2)]) hx hb dX4_extremeOf_114 hl (k := 7) rfl (by rw [ex26]; rfl) (by decide) rfl (fun ls hl => ?_)
            refine lv_goto (tgt := 19) hx hb dX4_extremeOf_117 (by decide) ?_
            exact ih v3 v4 r22 x26 hq _ _ hP hD hS ls (lv_sub hl [5, 6, 7, 4, 3, 1, 0] rfl)
        · have hq := q_if_f hq c19
          refine lv_iload hx hb dX4_extremeOf_68 (lv_at hl 6 rfl) ?_
          refine lv_goto (tgt := 75) hx hb dX4_extremeOf_70 (by decide) ?_
          refine lv_istore (lv' := [(6, .int v6), (5, .int v3), (0, .ref jo), (3, .int v1), (4, .int v2), (7, .int v5), (8, .int v6)]) hx hb dX4_extremeOf_75 hl (by decide) rfl (fun ls hl => ?_)
          refine lv_aload_n hx hb dX4_extremeOf_77 rfl (lv_at hl 2 rfl) ?_
          refine va_get (D := G) (ci := 4) (v := .ref jb) (C := RX4) (T := TX4) (N := 11) hx hb hts in_X4_extremeOf_X4 hown K.1 hP 0 rfl rfl 8 (by decide) (hts _ (List.mem_of_getElem? (i := 1) rfl)) (fun _ h9 => h9) rfl dX4_extremeOf_78 ?_
          refine lv_iload hx hb dX4_extremeOf_81 (lv_at hl 6 rfl) ?_
          obtain ⟨hh27, hq⟩ := q_gd hq
          refine va_iald hx hb K.1 hP 6 0 rfl rfl (vp_in_iff.mpr hh27) dX4_extremeOf_83 ?_
          refine lv_aload_n hx hb dX4_extremeOf_84 rfl (lv_at hl 2 rfl) ?_
          refine va_get (D := G) (ci := 4) (v := .ref jb) (C := RX4) (T := TX4) (N := 11) hx hb hts in_X4_extremeOf_X4 hown K.1 hP 0 rfl rfl 8 (by decide) (hts _ (List.mem_of_getElem? (i := 1) rfl)) (fun _ h9 => h9) rfl dX4_extremeOf_85 ?_
          refine lv_iload hx hb dX4_extremeOf_88 (lv_at hl 6 rfl) ?_
          refine lv_iconst (v := 1) hx hb dX4_extremeOf_90 (by decide) ?_
          refine lv_isub hx hb dX4_extremeOf_91 ?_
          obtain ⟨hh28, hq⟩ := q_gd hq
          refine va_iald hx hb K.1 hP 6 0 rfl rfl (vp_in_iff.mpr hh28) dX4_extremeOf_92 ?_
          obtain ⟨r29, hh30, hq⟩ := q_bd hq
          refine roS (As := [.int (ub v6.toNatClampNeg), .int (ub (v6 - 1).toNatClampNeg)]) (rest := []) X K (k_X4_apart l G g (ub v6.toNatClampNeg) (ub (v6 - 1).toNatClampNeg) _ hh30) hd_X4_apart gX4_extremeOf_X4_apart (hP.sub [] rfl) hl.1 dX4_extremeOf_93 rfl rfl ⟨Nat.le_of_ble_eq_true rfl, Nat.le_of_ble_eq_true rfl⟩ rfl (Nat.le_of_ble_eq_true rfl) ⟨Nat.zero_le _, Nat.zero_le _⟩ ?_
          refine lv_istore (lv' := [(9, .int r29), (6, .int v6), (5, .int v3), (0, .ref jo), (3, .int v1), (4, .int v2), (7, .int v5), (8, .int v6)]) hx hb dX4_extremeOf_96 hl (by decide) rfl (fun ls hl => ?_)
          refine lv_iload hx hb dX4_extremeOf_98 (lv_at hl 0 rfl) ?_
          refine lv_iload hx hb dX4_extremeOf_100 (lv_at hl 6 rfl) ?_
          refine lv_icmp_le (tgt := 110) hx hb dX4_extremeOf_102 (by decide) (fun c31 => ?_) (fun c31 => ?_)
          · have hq := q_if_t hq c31
            refine lv_iload hx hb dX4_extremeOf_110 (lv_at hl 6 rfl) ?_
            refine lv_istore (lv' := [(7, .int v5), (9, .int r29), (6, .int v6), (5, .int v3), (0, .ref jo), (3, .int v1), (4, .int v2), (8, .int v6)]) hx hb dX4_extremeOf_112 hl (by decide) rfl (fun ls hl => ?_)
            obtain ⟨x32, ex32⟩ : ∃ y : Int32, y = (v6 : Int32) + 1 := ⟨_, rfl⟩
            have hq := q_let hq ex32
            refine lv_iinc (v := x32) (lv' := [(8, .int x32), (7, .int v5), (9, .int r29), (6, .int v6), (5, .int v3), (0, .ref jo), (3, .int v1), (4, .int v2)]) hx hb dX4_extremeOf_114 hl (k := 7) rfl (by rw [ex32]; rfl) (by decide) rfl (fun ls hl => ?_)
            refine lv_goto (tgt := 19) hx hb dX4_extremeOf_117 (by decide) ?_
            exact ih v3 v6 v5 x32 hq _ _ hP hD hS ls (lv_sub hl [5, 6, 7, 4, 3, 1, 0] rfl)
          · have hq := q_if_f hq c31
            refine lv_iload hx hb dX4_extremeOf_105 (lv_at hl 0 rfl) ?_
            refine lv_goto (tgt := 112) hx hb dX4_extremeOf_107 (by decide) ?_
            refine lv_istore (lv' := [(7, .int r29), (9, .int r29), (6, .int v6), (5, .int v3), (0, .ref jo), (3, .int v1), (4, .int v2), (8, .int v6)]) hx hb dX4_extremeOf_112 hl (by decide) rfl (fun ls hl => ?_)
            obtain ⟨x33, ex33⟩ : ∃ y : Int32, y = (v6 : Int32) + 1 := ⟨_, rfl⟩
            have hq := q_let hq ex33
            refine lv_iinc (v := x33) (lv' := [(8, .int x33), (7, .int r29), (9, .int r29), (6, .int v6), (5, .int v3), (0, .ref jo), (3, .int v1), (4, .int v2)]) hx hb dX4_extremeOf_114 hl (k := 7) rfl (by rw [ex33]; rfl) (by decide) rfl (fun ls hl => ?_)
            refine lv_goto (tgt := 19) hx hb dX4_extremeOf_117 (by decide) ?_
            exact ih v3 v6 r29 x33 hq _ _ hP hD hS ls (lv_sub hl [5, 6, 7, 4, 3, 1, 0] rfl)
      · have hq := q_if_f hq c16
        refine lv_iload hx hb dX4_extremeOf_42 (lv_at hl 6 rfl) ?_
        refine lv_goto (tgt := 49) hx hb dX4_extremeOf_44 (by decide) ?_
        refine lv_istore (lv' := [(5, .int v6), (0, .ref jo), (3, .int v1), (4, .int v2), (6, .int v4), (7, .int v5), (8, .int v6)]) hx hb dX4_extremeOf_49 hl (by decide) rfl (fun ls hl => ?_)
        refine lv_aload_n hx hb dX4_extremeOf_51 rfl (lv_at hl 1 rfl) ?_
        refine va_get (D := G) (ci := 4) (v := .ref jb) (C := RX4) (T := TX4) (N := 11) hx hb hts in_X4_extremeOf_X4 hown K.1 hP 0 rfl rfl 8 (by decide) (hts _ (List.mem_of_getElem? (i := 1) rfl)) (fun _ h9 => h9) rfl dX4_extremeOf_52 ?_
        refine lv_iload hx hb dX4_extremeOf_55 (lv_at hl 6 rfl) ?_
        obtain ⟨hh34, hq⟩ := q_gd hq
        refine va_iald hx hb K.1 hP 6 0 rfl rfl (vp_in_iff.mpr hh34) dX4_extremeOf_57 ?_
        refine lv_aload_n hx hb dX4_extremeOf_58 rfl (lv_at hl 1 rfl) ?_
        refine va_get (D := G) (ci := 4) (v := .ref jb) (C := RX4) (T := TX4) (N := 11) hx hb hts in_X4_extremeOf_X4 hown K.1 hP 0 rfl rfl 8 (by decide) (hts _ (List.mem_of_getElem? (i := 1) rfl)) (fun _ h9 => h9) rfl dX4_extremeOf_59 ?_
        refine lv_iload hx hb dX4_extremeOf_62 (lv_at hl 4 rfl) ?_
        obtain ⟨hh35, hq⟩ := q_gd hq
        refine va_iald hx hb K.1 hP 6 0 rfl rfl (vp_in_iff.mpr hh35) dX4_extremeOf_64 ?_
        refine lv_icmp_ge (tgt := 73) hx hb dX4_extremeOf_65 (by decide) (fun c36 => ?_) (fun c36 => ?_)
        · have hq := q_if_t hq c36
          refine lv_iload hx hb dX4_extremeOf_73 (lv_at hl 4 rfl) ?_
          refine lv_istore (lv' := [(6, .int v4), (5, .int v6), (0, .ref jo), (3, .int v1), (4, .int v2), (7, .int v5), (8, .int v6)]) hx hb dX4_extremeOf_75 hl (by decide) rfl (fun ls hl => ?_)
          refine lv_aload_n hx hb dX4_extremeOf_77 rfl (lv_at hl 2 rfl) ?_
          refine va_get (D := G) (ci := 4) (v := .ref jb) (C := RX4) (T := TX4) (N := 11) hx hb hts in_X4_extremeOf_X4 hown K.1 hP 0 rfl rfl 8 (by decide) (hts _ (List.mem_of_getElem? (i := 1) rfl)) (fun _ h9 => h9) rfl dX4_extremeOf_78 ?_
          refine lv_iload hx hb dX4_extremeOf_81 (lv_at hl 6 rfl) ?_
          obtain ⟨hh37, hq⟩ := q_gd hq
          refine va_iald hx hb K.1 hP 6 0 rfl rfl (vp_in_iff.mpr hh37) dX4_extremeOf_83 ?_
          refine lv_aload_n hx hb dX4_extremeOf_84 rfl (lv_at hl 2 rfl) ?_
          refine va_get (D := G) (ci := 4) (v := .ref jb) (C := RX4) (T := TX4) (N := 11) hx hb hts in_X4_extremeOf_X4 hown K.1 hP 0 rfl rfl 8 (by decide) (hts _ (List.mem_of_getElem? (i := 1) rfl)) (fun _ h9 => h9) rfl dX4_extremeOf_85 ?_
          refine lv_iload hx hb dX4_extremeOf_88 (lv_at hl 6 rfl) ?_
          refine lv_iconst (v := 1) hx hb dX4_extremeOf_90 (by decide) ?_
          refine lv_isub hx hb dX4_extremeOf_91 ?_
          obtain ⟨hh38, hq⟩ := q_gd hq
          refine va_iald hx hb K.1 hP 6 0 rfl rfl (vp_in_iff.mpr hh38) dX4_extremeOf_92 ?_
          obtain ⟨r39, hh40, hq⟩ := q_bd hq
          refine roS (As := [.int (ub v6.toNatClampNeg), .int (ub (v6 - 1).toNatClampNeg)]) (rest := []) X K (k_X4_apart l G g (ub v6.toNatClampNeg) (ub (v6 - 1).toNatClampNeg) _ hh40) hd_X4_apart gX4_extremeOf_X4_apart (hP.sub [] rfl) hl.1 dX4_extremeOf_93 rfl rfl ⟨Nat.le_of_ble_eq_true rfl, Nat.le_of_ble_eq_true rfl⟩ rfl (Nat.le_of_ble_eq_true rfl) ⟨Nat.zero_le _, Nat.zero_le _⟩ ?_
          refine lv_istore (lv' := [(9, .int r39), (6, .int v4), (5, .int v6), (0, .ref jo), (3, .int v1), (4, .int v2), (7, .int v5), (8, .int v6)]) hx hb dX4_extremeOf_96 hl (by decide) rfl (fun ls hl => ?_)
          refine lv_iload hx hb dX4_extremeOf_98 (lv_at hl 0 rfl) ?_
          refine lv_iload hx hb dX4_extremeOf_100 (lv_at hl 6 rfl) ?_
          refine lv_icmp_le (tgt := 110) hx hb dX4_extremeOf_102 (by decide) (fun c41 => ?_) (fun c41 => ?_)
          · have hq := q_if_t hq c41
            refine lv_iload hx hb dX4_extremeOf_110 (lv_at hl 6 rfl) ?_
            refine lv_istore (lv' := [(7, .int v5), (9, .int r39), (6, .int v4), (5, .int v6), (0, .ref jo), (3, .int v1), (4, .int v2), (8, .int v6)]) hx hb dX4_extremeOf_112 hl (by decide) rfl (fun ls hl => ?_)
            obtain ⟨x42, ex42⟩ : ∃ y : Int32, y = (v6 : Int32) + 1 := ⟨_, rfl⟩
            have hq := q_let hq ex42
            refine lv_iinc (v := x42) (lv' := [(8, .int x42), (7, .int v5), (9, .int r39), (6, .int v4), (5, .int v6), (0, .ref jo), (3, .int v1), (4, .int v2)]) hx hb dX4_extremeOf_114 hl (k := 7) rfl (by rw [ex42]; rfl) (by decide) rfl (fun ls hl => ?_)
            refine lv_goto (tgt := 19) hx hb dX4_extremeOf_117 (by decide) ?_
            exact ih v6 v4 v5 x42 hq _ _ hP hD hS ls (lv_sub hl [5, 6, 7, 4, 3, 1, 0] rfl)
          · have hq := q_if_f hq c41
            refine lv_iload hx hb dX4_extremeOf_105 (lv_at hl 0 rfl) ?_
            refine lv_goto (tgt := 112) hx hb dX4_extremeOf_107 (by decide) ?_
            refine lv_istore (lv' := [(7, .int r39), (9, .int r39), (6, .int v4), (5, .int v6), (0, .ref jo), (3, .int v1), (4, .int v2), (8, .int v6)]) hx hb dX4_extremeOf_112 hl (by decide) rfl (fun ls hl => ?_)
            obtain ⟨x43, ex43⟩ : ∃ y : Int32, y = (v6 : Int32) + 1 := ⟨_, rfl⟩
            have hq := q_let hq ex43
            refine lv_iinc (v := x43) (lv' := [(8, .int x43), (7, .int r39), (9, .int r39), (6, .int v4), (5, .int v6), (0, .ref jo), (3, .int v1), (4, .int v2)]) hx hb dX4_extremeOf_114 hl (k := 7) rfl (by rw [ex43]; rfl) (by decide) rfl (fun ls hl => ?_)
            refine lv_goto (tgt := 19) hx hb dX4_extremeOf_117 (by decide) ?_
            exact ih v6 v4 r39 x43 hq _ _ hP hD hS ls (lv_sub hl [5, 6, 7, 4, 3, 1, 0] rfl)
        · have hq := q_if_f hq c36
          refine lv_iload hx hb dX4_extremeOf_68 (lv_at hl 6 rfl) ?_
          refine lv_goto (tgt := 75) hx hb dX4_extremeOf_70 (by decide) ?_
          refine lv_istore (lv' := [(6, .int v6), (5, .int v6), (0, .ref jo), (3, .int v1), (4, .int v2), (7, .int v5), (8, .int v6)]) hx hb dX4_extremeOf_75 hl (by decide) rfl (fun ls hl => ?_)
          refine lv_aload_n hx hb dX4_extremeOf_77 rfl (lv_at hl 2 rfl) ?_
          refine va_get (D := G) (ci := 4) (v := .ref jb) (C := RX4) (T := TX4) (N := 11) hx hb hts in_X4_extremeOf_X4 hown K.1 hP 0 rfl rfl 8 (by decide) (hts _ (List.mem_of_getElem? (i := 1) rfl)) (fun _ h9 => h9) rfl dX4_extremeOf_78 ?_
          refine lv_iload hx hb dX4_extremeOf_81 (lv_at hl 6 rfl) ?_
          obtain ⟨hh44, hq⟩ := q_gd hq
          refine va_iald hx hb K.1 hP 6 0 rfl rfl (vp_in_iff.mpr hh44) dX4_extremeOf_83 ?_
          refine lv_aload_n hx hb dX4_extremeOf_84 rfl (lv_at hl 2 rfl) ?_
          refine va_get (D := G) (ci := 4) (v := .ref jb) (C := RX4) (T := TX4) (N := 11) hx hb hts in_X4_extremeOf_X4 hown K.1 hP 0 rfl rfl 8 (by decide) (hts _ (List.mem_of_getElem? (i := 1) rfl)) (fun _ h9 => h9) rfl dX4_extremeOf_85 ?_
          refine lv_iload hx hb dX4_extremeOf_88 (lv_at hl 6 rfl) ?_
          refine lv_iconst (v := 1) hx hb dX4_extremeOf_90 (by decide) ?_
          refine lv_isub hx hb dX4_extremeOf_91 ?_
          obtain ⟨hh45, hq⟩ := q_gd hq
          refine va_iald hx hb K.1 hP 6 0 rfl rfl (vp_in_iff.mpr hh45) dX4_extremeOf_92 ?_
          obtain ⟨r46, hh47, hq⟩ := q_bd hq
          refine roS (As := [.int (ub v6.toNatClampNeg), .int (ub (v6 - 1).toNatClampNeg)]) (rest := []) X K (k_X4_apart l G g (ub v6.toNatClampNeg) (ub (v6 - 1).toNatClampNeg) _ hh47) hd_X4_apart gX4_extremeOf_X4_apart (hP.sub [] rfl) hl.1 dX4_extremeOf_93 rfl rfl ⟨Nat.le_of_ble_eq_true rfl, Nat.le_of_ble_eq_true rfl⟩ rfl (Nat.le_of_ble_eq_true rfl) ⟨Nat.zero_le _, Nat.zero_le _⟩ ?_
          refine lv_istore (lv' := [(9, .int r46), (6, .int v6), (5, .int v6), (0, .ref jo), (3, .int v1), (4, .int v2), (7, .int v5), (8, .int v6)]) hx hb dX4_extremeOf_96 hl (by decide) rfl (fun ls hl => ?_)
          refine lv_iload hx hb dX4_extremeOf_98 (lv_at hl 0 rfl) ?_
          refine lv_iload hx hb dX4_extremeOf_100 (lv_at hl 6 rfl) ?_
          refine lv_icmp_le (tgt := 110) hx hb dX4_extremeOf_102 (by decide) (fun c48 => ?_) (fun c48 => ?_)
          · have hq := q_if_t hq c48
            refine lv_iload hx hb dX4_extremeOf_110 (lv_at hl 6 rfl) ?_
            refine lv_istore (lv' := [(7, .int v5), (9, .int r46), (6, .int v6), (5, .int v6), (0, .ref jo), (3, .int v1), (4, .int v2), (8, .int v6)]) hx hb dX4_extremeOf_112 hl (by decide) rfl (fun ls hl => ?_)
            obtain ⟨x49, ex49⟩ : ∃ y : Int32, y = (v6 : Int32) + 1 := ⟨_, rfl⟩
            have hq := q_let hq ex49
            refine lv_iinc (v := x49) (lv' := [(8, .int x49), (7, .int v5), (9, .int r46), (6, .int v6), (5, .int v6), (0, .ref jo), (3, .int v1), (4, .int v2)]) hx hb dX4_extremeOf_114 hl (k := 7) rfl (by rw [ex49]; rfl) (by decide) rfl (fun ls hl => ?_)
            refine lv_goto (tgt := 19) hx hb dX4_extremeOf_117 (by decide) ?_
            exact ih v6 v6 v5 x49 hq _ _ hP hD hS ls (lv_sub hl [5, 6, 7, 4, 3, 1, 0] rfl)
          · have hq := q_if_f hq c48
            refine lv_iload hx hb dX4_extremeOf_105 (lv_at hl 0 rfl) ?_
            refine lv_goto (tgt := 112) hx hb dX4_extremeOf_107 (by decide) ?_
            refine lv_istore (lv' := [(7, .int r46), (9, .int r46), (6, .int v6), (5, .int v6), (0, .ref jo), (3, .int v1), (4, .int v2), (8, .int v6)]) hx hb dX4_extremeOf_112 hl (by decide) rfl (fun ls hl => ?_)
            obtain ⟨x50, ex50⟩ : ∃ y : Int32, y = (v6 : Int32) + 1 := ⟨_, rfl⟩
            have hq := q_let hq ex50
            refine lv_iinc (v := x50) (lv' := [(8, .int x50), (7, .int r46), (9, .int r46), (6, .int v6), (5, .int v6), (0, .ref jo), (3, .int v1), (4, .int v2)]) hx hb dX4_extremeOf_114 hl (k := 7) rfl (by rw [ex50]; rfl) (by decide) rfl (fun ls hl => ?_)
            refine lv_goto (tgt := 19) hx hb dX4_extremeOf_117 (by decide) ?_
            exact ih v6 v6 r46 x50 hq _ _ hP hD hS ls (lv_sub hl [5, 6, 7, 4, 3, 1, 0] rfl)
def F_X4_extremeOf (us : Nat → Int32) (ub : Nat → Int32) (p1 : Int32) (p2 : Int32) (p3 : Int32) (p4 : Int32) : Option (Int32 × (Nat → Int32)) := (F_X4_bakes us ub p1).bind fun y1 => vlet (p2 + 1) fun x3 => F_X4_extremeOf_19 us y1 p3 p4 2000 p2 p2 0 x3
set_option maxHeartbeats 4000000 in
set_option maxRecDepth 100000 in
theorem k_X4_extremeOf (l : Launch) (G : va_G) (g : Nat → ClassId) (jo js jp ja jk jt jb : Nat) (un : Int32) (uy : Int32) (uw : Int32) (uq : Int32) (uz : Int32) (us : Nat → Int32) (up : Nat → Int32) (ua : Nat → Int32) (uk : Nat → Int32) (ut : Nat → Int32) (ub : Nat → Int32) (p1 : Int32) (p2 : Int32) (p3 : Int32) (p4 : Int32) (res : Int32 × (Nat → Int32)) (hq : F_X4_extremeOf us ub p1 p2 p3 p4 = some res) : rwC l yX4_extremeOf wsX4_extremeOf (rmF 5 132) G g [.ref jo, .int p1, .int p2, .int p3, .int p4] [(jo, .inr (4, [.ref js, .ref jp, .ref ja, .ref jk, .int un, .ref jt, .int uy, .int uw, .ref jb, .int uq, .int uz])), (js, .inl (g 0, 388, .inl us)), (jp, .inl (g 0, 1552, .inl up)), (ja, .inl (g 0, 388, .inl ua)), (jk, .inl (g 0, 97, .inl uk)), (jt, .inl (g 0, 150, .inl ut)), (jb, .inl (g 0, 1000, .inl ub))] (some (.int res.1)) [(jo, .inr (4, [.ref js, .ref jp, .ref ja, .ref jk, .int un, .ref jt, .int uy, .int uw, .ref jb, .int uq, .int uz])), (js, .inl (g 0, 388, .inl us)), (jp, .inl (g 0, 1552, .inl up)), (ja, .inl (g 0, 388, .inl ua)), (jk, .inl (g 0, 97, .inl uk)), (jt, .inl (g 0, 150, .inl ut)), (jb, .inl (g 0, 1000, .inl res.2))] := by
  refine rwC.of (cc := cX4_extremeOf) (maxL := 10) (ret := (some .int)) (by decide) rfl (Nat.le_of_ble_eq_true rfl) ?_
  intro p e s m below meth c ls A X K hA hP hD hS hl
  obtain ⟨hx, hb, hml, hr, hown, hts, hk⟩ := id X
  have hl : lv_has ls 10 [(0, .ref jo), (1, .int p1), (2, .int p2), (3, .int p3), (4, .int p4)] := hl
  unfold F_X4_extremeOf at hq
  refine lv_aload_n hx hb dX4_extremeOf_0 rfl (lv_at hl 0 rfl) ?_
  refine lv_iload_n hx hb dX4_extremeOf_1 rfl (lv_at hl 1 rfl) ?_
  obtain ⟨y1, hh2, hq⟩ := q_bd hq
  refine rwV (ci := 4) (wr := []) (As := [.int p1]) (rest := []) X K (k_X4_bakes l G g jo js jp ja jk jt jb un uy uw uq uz us up ua uk ut ub p1 _ hh2) hd_X4_bakes gX4_extremeOf_X4_bakes hP hD hS hA [0, 1, 2, 3, 4, 5, 6] [] rfl rfl ⟨by decide, by decide, by decide⟩ hl.1 dX4_extremeOf_2 rfl rfl ⟨Nat.le_of_ble_eq_true rfl, Nat.le_of_ble_eq_true rfl⟩ rfl rfl rfl (Nat.le_of_ble_eq_true rfl) ⟨Nat.zero_le _, Nat.zero_le _⟩ (fun H locs hP hD hS => ?_)
  have hP : va_P G vwCl [(jo, .inr (4, [.ref js, .ref jp, .ref ja, .ref jk, .int un, .ref jt, .int uy, .int uw, .ref jb, .int uq, .int uz])), (js, .inl (g 0, 388, .inl us)), (jp, .inl (g 0, 1552, .inl up)), (ja, .inl (g 0, 388, .inl ua)), (jk, .inl (g 0, 97, .inl uk)), (jt, .inl (g 0, 150, .inl ut)), (jb, .inl (g 0, 1000, .inl y1))] H := hP
  have hD : va_D A [(jo, .inr (4, [.ref js, .ref jp, .ref ja, .ref jk, .int un, .ref jt, .int uy, .int uw, .ref jb, .int uq, .int uz])), (js, .inl (g 0, 388, .inl us)), (jp, .inl (g 0, 1552, .inl up)), (ja, .inl (g 0, 388, .inl ua)), (jk, .inl (g 0, 97, .inl uk)), (jt, .inl (g 0, 150, .inl ut)), (jb, .inl (g 0, 1000, .inl y1))] := hD
  refine lv_iload_n hx hb dX4_extremeOf_5 rfl (lv_at hl 2 rfl) ?_
  refine lv_istore (lv' := [(5, .int p2), (0, .ref jo), (1, .int p1), (2, .int p2), (3, .int p3), (4, .int p4)]) hx hb dX4_extremeOf_6 hl (by decide) rfl (fun ls hl => ?_)
  refine lv_iload_n hx hb dX4_extremeOf_8 rfl (lv_at hl 3 rfl) ?_
  refine lv_istore (lv' := [(6, .int p2), (5, .int p2), (0, .ref jo), (1, .int p1), (2, .int p2), (3, .int p3), (4, .int p4)]) hx hb dX4_extremeOf_9 hl (by decide) rfl (fun ls hl => ?_)
  refine lv_iconst (v := 0) hx hb dX4_extremeOf_11 (by decide) ?_
  refine lv_istore (lv' := [(7, .int 0), (6, .int p2), (5, .int p2), (0, .ref jo), (1, .int p1), (2, .int p2), (3, .int p3), (4, .int p4)]) hx hb dX4_extremeOf_12 hl (by decide) rfl (fun ls hl => ?_)
  refine lv_iload_n hx hb dX4_extremeOf_14 rfl (lv_at hl 5 rfl) ?_
  refine lv_iconst (v := 1) hx hb dX4_extremeOf_15 (by decide) ?_
  refine lv_iadd hx hb dX4_extremeOf_16 ?_
  refine lv_topi (fun x3 ex3 => ?_)
  have hq := q_let hq ex3
  refine lv_istore (lv' := [(8, .int x3), (7, .int 0), (6, .int p2), (5, .int p2), (0, .ref jo), (1, .int p1), (2, .int p2), (3, .int p3), (4, .int p4)]) hx hb dX4_extremeOf_17 hl (by decide) rfl (fun ls hl => ?_)
  exact w_X4_extremeOf_19 X K hA jo js jp ja jk jt jb un uy uw uq uz up ua uk ut us y1 p3 p4 _ 2000 p2 p2 0 x3 hq _ _ hP hD hS ls (lv_sub hl [4, 7, 8, 3, 2, 1, 0] rfl)
theorem in_X4_isAt_X4 : ∀ w ∈ wsX40, w ∈ wsX4_isAt := fun _ h => List.mem_cons_of_mem _ (List.mem_append_right _ h)
def F_X4_isAt (uy : Int32) (uq : Int32) (ut : Nat → Int32) (p1 : Int32) (p2 : Int32) : Option (Int32) := if uy ≤ uq then (some (0)) else (vgd (ix (uq) 150) <| (F_X4_in (ut uq.toNatClampNeg) p1 p2).bind fun r3 => if r3 = 0 then (some (0)) else (some (1)))
set_option maxHeartbeats 4000000 in
set_option maxRecDepth 100000 in
theorem k_X4_isAt (l : Launch) (G : va_G) (g : Nat → ClassId) (jo js jp ja jk jt jb : Nat) (un : Int32) (uy : Int32) (uw : Int32) (uq : Int32) (uz : Int32) (us : Nat → Int32) (up : Nat → Int32) (ua : Nat → Int32) (uk : Nat → Int32) (ut : Nat → Int32) (ub : Nat → Int32) (p1 : Int32) (p2 : Int32) (res : Int32) (hq : F_X4_isAt uy uq ut p1 p2 = some res) : roC l yX4_isAt wsX4_isAt (rmF 1 22) G g [.ref jo, .int p1, .int p2] [(jo, .inr (4, [.ref js, .ref jp, .ref ja, .ref jk, .int un, .ref jt, .int uy, .int uw, .ref jb, .int uq, .int uz])), (js, .inl (g 0, 388, .inl us)), (jp, .inl (g 0, 1552, .inl up)), (ja, .inl (g 0, 388, .inl ua)), (jk, .inl (g 0, 97, .inl uk)), (jt, .inl (g 0, 150, .inl ut)), (jb, .inl (g 0, 1000, .inl ub))] (some (.int res)) := by
  refine roC.of (cc := cX4_isAt) (maxL := 3) (ret := (some .boolean)) (by decide) rfl (Nat.le_of_ble_eq_true rfl) ?_
  intro p e s m below meth c ls X K hP hl
  obtain ⟨hx, hb, hml, hr, hown, hts, hk⟩ := id X
  have hl : lv_has ls 3 [(0, .ref jo), (1, .int p1), (2, .int p2)] := hl
  unfold F_X4_isAt at hq
  refine lv_aload_n hx hb dX4_isAt_0 rfl (lv_at hl 0 rfl) ?_
  refine va_get (D := G) (ci := 4) (v := .int uq) (C := RX4) (T := TX4) (N := 11) hx hb hts in_X4_isAt_X4 hown K.1 hP 0 rfl rfl 9 (by decide) (hts _ (List.mem_of_getElem? (i := 1) rfl)) (fun _ h9 => h9) rfl dX4_isAt_1 ?_
  refine lv_aload_n hx hb dX4_isAt_4 rfl (lv_at hl 0 rfl) ?_
  refine va_get (D := G) (ci := 4) (v := .int uy) (C := RX4) (T := TX4) (N := 11) hx hb hts in_X4_isAt_X4 hown K.1 hP 0 rfl rfl 6 (by decide) (hts _ (List.mem_of_getElem? (i := 2) rfl)) (fun _ h9 => h9) rfl dX4_isAt_5 ?_
  refine lv_icmp_ge (tgt := 32) hx hb dX4_isAt_8 (by decide) (fun c1 => ?_) (fun c1 => ?_)
  · have hq := q_if_t hq c1
    refine lv_iconst (v := 0) hx hb dX4_isAt_32 (by decide) ?_
    obtain rfl := q_rt hq
    exact ro_zret hx hb hr nz_0 hk dX4_isAt_33
  · have hq := q_if_f hq c1
    refine lv_aload_n hx hb dX4_isAt_11 rfl (lv_at hl 0 rfl) ?_
    refine va_get (D := G) (ci := 4) (v := .ref jt) (C := RX4) (T := TX4) (N := 11) hx hb hts in_X4_isAt_X4 hown K.1 hP 0 rfl rfl 5 (by decide) (hts _ (List.mem_of_getElem? (i := 3) rfl)) (fun _ h9 => h9) rfl dX4_isAt_12 ?_
    refine lv_aload_n hx hb dX4_isAt_15 rfl (lv_at hl 0 rfl) ?_
    refine va_get (D := G) (ci := 4) (v := .int uq) (C := RX4) (T := TX4) (N := 11) hx hb hts in_X4_isAt_X4 hown K.1 hP 0 rfl rfl 9 (by decide) (hts _ (List.mem_of_getElem? (i := 1) rfl)) (fun _ h9 => h9) rfl dX4_isAt_16 ?_
    obtain ⟨hh2, hq⟩ := q_gd hq
    refine va_iald hx hb K.1 hP 5 0 rfl rfl (vp_in_iff.mpr hh2) dX4_isAt_19 ?_
    refine lv_iload_n hx hb dX4_isAt_20 rfl (lv_at hl 1 rfl) ?_
    refine lv_iload_n hx hb dX4_isAt_21 rfl (lv_at hl 2 rfl) ?_
    obtain ⟨r3, hh4, hq⟩ := q_bd hq
    refine roS (As := [.int (ut uq.toNatClampNeg), .int p1, .int p2]) (rest := []) X K (k_X4_in l G g (ut uq.toNatClampNeg) p1 p2 _ hh4) hd_X4_in gX4_isAt_X4_in (hP.sub [] rfl) hl.1 dX4_isAt_22 rfl rfl ⟨Nat.le_of_ble_eq_true rfl, Nat.le_of_ble_eq_true rfl⟩ rfl (Nat.le_of_ble_eq_true rfl) ⟨Nat.zero_le _, Nat.zero_le _⟩ ?_
    refine lv_if_eq (tgt := 32) hx hb dX4_isAt_25 (by decide) (fun c5 => ?_) (fun c5 => ?_)
    · have hq := q_if_t hq c5
      refine lv_iconst (v := 0) hx hb dX4_isAt_32 (by decide) ?_
      obtain rfl := q_rt hq
      exact ro_zret hx hb hr nz_0 hk dX4_isAt_33
    · have hq := q_if_f hq c5
      refine lv_iconst (v := 1) hx hb dX4_isAt_28 (by decide) ?_
      refine lv_goto (tgt := 33) hx hb dX4_isAt_29 (by decide) ?_
      obtain rfl := q_rt hq
      exact ro_zret hx hb hr nz_1 hk dX4_isAt_33
theorem hd_X4_isAt : ynm yX4_isAt 2 := by unfold ynm; decide +kernel
theorem in_X4_takes_X4 : ∀ w ∈ wsX40, w ∈ wsX4_takes := fun _ h => List.mem_cons_of_mem _ (List.mem_append_right _ h)
def F_X4_takes (uy : Int32) (uq : Int32) (ut : Nat → Int32) (p1 : Int32) : Option (Int32 × Int32) := (F_X4_isAt uy uq ut p1 p1).bind fun r1 => if r1 = 0 then (vlet (uq + 0) fun x4 => vgd (r1 = 0 ∨ r1 = 1) <| some (r1, x4)) else (vlet (uq + 1) fun x6 => vgd (r1 = 0 ∨ r1 = 1) <| some (r1, x6))
set_option maxHeartbeats 4000000 in
set_option maxRecDepth 100000 in
theorem k_X4_takes (l : Launch) (G : va_G) (g : Nat → ClassId) (jo js jp ja jk jt jb : Nat) (un : Int32) (uy : Int32) (uw : Int32) (uq : Int32) (uz : Int32) (us : Nat → Int32) (up : Nat → Int32) (ua : Nat → Int32) (uk : Nat → Int32) (ut : Nat → Int32) (ub : Nat → Int32) (p1 : Int32) (res : Int32 × Int32) (hq : F_X4_takes uy uq ut p1 = some res) : rwC l yX4_takes wsX4_takes (rmF 2 44) G g [.ref jo, .int p1] [(jo, .inr (4, [.ref js, .ref jp, .ref ja, .ref jk, .int un, .ref jt, .int uy, .int uw, .ref jb, .int uq, .int uz])), (js, .inl (g 0, 388, .inl us)), (jp, .inl (g 0, 1552, .inl up)), (ja, .inl (g 0, 388, .inl ua)), (jk, .inl (g 0, 97, .inl uk)), (jt, .inl (g 0, 150, .inl ut)), (jb, .inl (g 0, 1000, .inl ub))] (some (.int res.1)) [(jo, .inr (4, [.ref js, .ref jp, .ref ja, .ref jk, .int un, .ref jt, .int uy, .int uw, .ref jb, .int res.2, .int uz])), (js, .inl (g 0, 388, .inl us)), (jp, .inl (g 0, 1552, .inl up)), (ja, .inl (g 0, 388, .inl ua)), (jk, .inl (g 0, 97, .inl uk)), (jt, .inl (g 0, 150, .inl ut)), (jb, .inl (g 0, 1000, .inl ub))] := by
  refine rwC.of (cc := cX4_takes) (maxL := 3) (ret := (some .boolean)) (by decide) rfl (Nat.le_of_ble_eq_true rfl) ?_
  intro p e s m below meth c ls A X K hA hP hD hS hl
  obtain ⟨hx, hb, hml, hr, hown, hts, hk⟩ := id X
  have hl : lv_has ls 3 [(0, .ref jo), (1, .int p1)] := hl
  unfold F_X4_takes at hq
  refine lv_aload_n hx hb dX4_takes_0 rfl (lv_at hl 0 rfl) ?_
  refine lv_iload_n hx hb dX4_takes_1 rfl (lv_at hl 1 rfl) ?_
  refine lv_iload_n hx hb dX4_takes_2 rfl (lv_at hl 1 rfl) ?_
  obtain ⟨r1, hh2, hq⟩ := q_bd hq
  refine roV (ci := 4) (As := [.int p1, .int p1]) (rest := []) X K (k_X4_isAt l G g jo js jp ja jk jt jb un uy uw uq uz us up ua uk ut ub p1 p1 _ hh2) hd_X4_isAt gX4_takes_X4_isAt hP hl.1 dX4_takes_3 rfl rfl ⟨Nat.le_of_ble_eq_true rfl, Nat.le_of_ble_eq_true rfl⟩ rfl rfl rfl (Nat.le_of_ble_eq_true rfl) ⟨Nat.zero_le _, Nat.zero_le _⟩ ?_
  refine lv_istore_n (lv' := [(2, .int r1), (0, .ref jo), (1, .int p1)]) hx hb dX4_takes_6 rfl hl (by decide) rfl (fun ls hl => ?_)
  refine lv_aload_n hx hb dX4_takes_7 rfl (lv_at hl 1 rfl) ?_
  refine lv_dup hx hb dX4_takes_8 rfl ?_
  refine va_get (D := G) (ci := 4) (v := .int uq) (C := RX4) (T := TX4) (N := 11) hx hb hts in_X4_takes_X4 hown K.1 hP 0 rfl rfl 9 (by decide) (hts _ (List.mem_of_getElem? (i := 1) rfl)) (fun _ h9 => h9) rfl dX4_takes_9 ?_
  refine lv_iload_n hx hb dX4_takes_12 rfl (lv_at hl 0 rfl) ?_
  refine lv_if_eq (tgt := 20) hx hb dX4_takes_13 (by decide) (fun c3 => ?_) (fun c3 => ?_)
  · have hq := q_if_t hq c3
    refine lv_iconst (v := 0) hx hb dX4_takes_20 (by decide) ?_
    refine lv_iadd hx hb dX4_takes_21 ?_
    refine lv_topi (fun x4 ex4 => ?_)
    have hq := q_let hq ex4
    refine va_put (D := G) (ci := 4) (v := .int x4) (ty := .int) (C := RX4) (T := TX4) (N := 11) hx hb hts in_X4_takes_X4 tyX4 tyX4_ok nmX4 hown K.1 hP hD hS 0 rfl rfl 9 (by decide) (hts _ (List.mem_of_getElem? (i := 1) rfl)) (fun _ h9 => h9) rfl (by decide +kernel) rfl rfl (Nat.le_of_ble_eq_true rfl) dX4_takes_22 (fun H locs hP hD hS => ?_)
    have hP : va_P G vwCl [(jo, .inr (4, [.ref js, .ref jp, .ref ja, .ref jk, .int un, .ref jt, .int uy, .int uw, .ref jb, .int x4, .int uz])), (js, .inl (g 0, 388, .inl us)), (jp, .inl (g 0, 1552, .inl up)), (ja, .inl (g 0, 388, .inl ua)), (jk, .inl (g 0, 97, .inl uk)), (jt, .inl (g 0, 150, .inl ut)), (jb, .inl (g 0, 1000, .inl ub))] H := hP
    have hD : va_D A [(jo, .inr (4, [.ref js, .ref jp, .ref ja, .ref jk, .int un, .ref jt, .int uy, .int uw, .ref jb, .int x4, .int uz])), (js, .inl (g 0, 388, .inl us)), (jp, .inl (g 0, 1552, .inl up)), (ja, .inl (g 0, 388, .inl ua)), (jk, .inl (g 0, 97, .inl uk)), (jt, .inl (g 0, 150, .inl ut)), (jb, .inl (g 0, 1000, .inl ub))] := hD
    refine lv_iload_n hx hb dX4_takes_25 rfl (lv_at hl 0 rfl) ?_
    obtain ⟨hh5, hq⟩ := q_gd hq
    obtain rfl := q_rt hq
    exact rw_zret hx hb hr (nz_b hh5) hk hP hD hS dX4_takes_26
  · have hq := q_if_f hq c3
    refine lv_iconst (v := 1) hx hb dX4_takes_16 (by decide) ?_
    refine lv_goto (tgt := 21) hx hb dX4_takes_17 (by decide) ?_
    refine lv_iadd hx hb dX4_takes_21 ?_
    refine lv_topi (fun x6 ex6 => ?_)
    have hq := q_let hq ex6
    refine va_put (D := G) (ci := 4) (v := .int x6) (ty := .int) (C := RX4) (T := TX4) (N := 11) hx hb hts in_X4_takes_X4 tyX4 tyX4_ok nmX4 hown K.1 hP hD hS 0 rfl rfl 9 (by decide) (hts _ (List.mem_of_getElem? (i := 1) rfl)) (fun _ h9 => h9) rfl (by decide +kernel) rfl rfl (Nat.le_of_ble_eq_true rfl) dX4_takes_22 (fun H locs hP hD hS => ?_)
    have hP : va_P G vwCl [(jo, .inr (4, [.ref js, .ref jp, .ref ja, .ref jk, .int un, .ref jt, .int uy, .int uw, .ref jb, .int x6, .int uz])), (js, .inl (g 0, 388, .inl us)), (jp, .inl (g 0, 1552, .inl up)), (ja, .inl (g 0, 388, .inl ua)), (jk, .inl (g 0, 97, .inl uk)), (jt, .inl (g 0, 150, .inl ut)), (jb, .inl (g 0, 1000, .inl ub))] H := hP
    have hD : va_D A [(jo, .inr (4, [.ref js, .ref jp, .ref ja, .ref jk, .int un, .ref jt, .int uy, .int uw, .ref jb, .int x6, .int uz])), (js, .inl (g 0, 388, .inl us)), (jp, .inl (g 0, 1552, .inl up)), (ja, .inl (g 0, 388, .inl ua)), (jk, .inl (g 0, 97, .inl uk)), (jt, .inl (g 0, 150, .inl ut)), (jb, .inl (g 0, 1000, .inl ub))] := hD
    refine lv_iload_n hx hb dX4_takes_25 rfl (lv_at hl 0 rfl) ?_
    obtain ⟨hh7, hq⟩ := q_gd hq
    obtain rfl := q_rt hq
    exact rw_zret hx hb hr (nz_b hh7) hk hP hD hS dX4_takes_26
theorem in_X4_isNumber_X4 : ∀ w ∈ wsX40, w ∈ wsX4_isNumber := fun _ h => List.mem_cons_of_mem _ (List.mem_append_right _ h)
def F_X4_isNumber_68 (uy : Int32) (uq : Int32) (uz : Int32) (ut : Nat → Int32) (v1 : Int32) : Option (Int32 × Int32 × Int32) := if uq ≤ v1 then (some (0, uq, uz)) else ((F_X4_isAt uy uq ut 48 57).bind fun r3 => if r3 = 0 then (some (1, uq, uz)) else (some (0, uq, uz)))
set_option maxHeartbeats 4000000 in
set_option maxRecDepth 100000 in
theorem w_X4_isNumber_68 {p : Program} {l : Launch} {e : Env} {s : State} {m : MethodId} {args : Array Value} {below : List Frame} {meth : Method} {c : Code} {G : va_G} {g : Nat → ClassId} (X : cx p s m args meth c cX4_isNumber 3 (some .boolean) RX4 wsX4_isNumber) (K : amb G g s) {A : Nat → Prop} (hA : ∀ q : Nat, s.heap.size ≤ q → A q) (jo js jp ja jk jt jb : Nat) (un : Int32) (uw : Int32) (us : Nat → Int32) (up : Nat → Int32) (ua : Nat → Int32) (uk : Nat → Int32) (ub : Nat → Int32) (uy : Int32) (uq : Int32) (uz : Int32) (ut : Nat → Int32) (v1 : Int32) (res : Int32 × Int32 × Int32) (hq : F_X4_isNumber_68 uy uq uz ut v1 = some res) : ∀ (H : Heap) (locs : List Loc), va_P G vwCl [(jo, .inr (4, [.ref js, .ref jp, .ref ja, .ref jk, .int un, .ref jt, .int uy, .int uw, .ref jb, .int uq, .int uz])), (js, .inl (g 0, 388, .inl us)), (jp, .inl (g 0, 1552, .inl up)), (ja, .inl (g 0, 388, .inl ua)), (jk, .inl (g 0, 97, .inl uk)), (jt, .inl (g 0, 150, .inl ut)), (jb, .inl (g 0, 1000, .inl ub))] H → va_D A [(jo, .inr (4, [.ref js, .ref jp, .ref ja, .ref jk, .int un, .ref jt, .int uy, .int uw, .ref jb, .int uq, .int uz])), (js, .inl (g 0, 388, .inl us)), (jp, .inl (g 0, 1552, .inl up)), (ja, .inl (g 0, 388, .inl ua)), (jk, .inl (g 0, 97, .inl uk)), (jt, .inl (g 0, 150, .inl ut)), (jb, .inl (g 0, 1000, .inl ub))] → va_S A s.heap H locs → ∀ (ls : Array Slot), lv_has ls 3 [(0, .ref jo), (2, .int v1)] → W p l e (rmF 2 44) s m args below meth c H locs 0 0 (rwM G A below (some (.int res.1)) [(jo, .inr (4, [.ref js, .ref jp, .ref ja, .ref jk, .int un, .ref jt, .int uy, .int uw, .ref jb, .int res.2.1, .int res.2.2])), (js, .inl (g 0, 388, .inl us)), (jp, .inl (g 0, 1552, .inl up)), (ja, .inl (g 0, 388, .inl ua)), (jk, .inl (g 0, 97, .inl uk)), (jt, .inl (g 0, 150, .inl ut)), (jb, .inl (g 0, 1000, .inl ub))] args s) (F0 m 68 ls []) := by
  obtain ⟨hx, hb, hml, hr, hown, hts, hk⟩ := id X
  intro H locs hP hD hS ls hl
  unfold F_X4_isNumber_68 at hq
  refine lv_aload_n hx hb dX4_isNumber_68 rfl (lv_at hl 0 rfl) ?_
  refine va_get (D := G) (ci := 4) (v := .int uq) (C := RX4) (T := TX4) (N := 11) hx hb hts in_X4_isNumber_X4 hown K.1 hP 0 rfl rfl 9 (by decide) (hts _ (List.mem_of_getElem? (i := 1) rfl)) (fun _ h9 => h9) rfl dX4_isNumber_69 ?_
  refine lv_iload_n hx hb dX4_isNumber_72 rfl (lv_at hl 1 rfl) ?_
  refine lv_icmp_le (tgt := 91) hx hb dX4_isNumber_73 (by decide) (fun c2 => ?_) (fun c2 => ?_)
  · have hq := q_if_t hq c2
    refine lv_iconst (v := 0) hx hb dX4_isNumber_91 (by decide) ?_
    obtain rfl := q_rt hq
    exact rw_zret hx hb hr nz_0 hk hP hD hS dX4_isNumber_92
  · have hq := q_if_f hq c2
    refine lv_aload_n hx hb dX4_isNumber_76 rfl (lv_at hl 0 rfl) ?_
    refine lv_bipush (v := 48) hx hb dX4_isNumber_77 (by decide) ?_
    refine lv_bipush (v := 57) hx hb dX4_isNumber_79 (by decide) ?_
    obtain ⟨r3, hh4, hq⟩ := q_bd hq
    refine roV (ci := 4) (As := [.int 48, .int 57]) (rest := []) X K (k_X4_isAt l G g jo js jp ja jk jt jb un uy uw uq uz us up ua uk ut ub 48 57 _ hh4) hd_X4_isAt gX4_isNumber_X4_isAt hP hl.1 dX4_isNumber_81 rfl rfl ⟨Nat.le_of_ble_eq_true rfl, Nat.le_of_ble_eq_true rfl⟩ rfl rfl rfl (Nat.le_of_ble_eq_true rfl) ⟨Nat.zero_le _, Nat.zero_le _⟩ ?_
    refine lv_if_ne (tgt := 91) hx hb dX4_isNumber_84 (by decide) (fun c5 => ?_) (fun c5 => ?_)
    · have hq := q_if_f hq c5
      refine lv_iconst (v := 0) hx hb dX4_isNumber_91 (by decide) ?_
      obtain rfl := q_rt hq
      exact rw_zret hx hb hr nz_0 hk hP hD hS dX4_isNumber_92
    · have hq := q_if_t hq c5
      refine lv_iconst (v := 1) hx hb dX4_isNumber_87 (by decide) ?_
      refine lv_goto (tgt := 92) hx hb dX4_isNumber_88 (by decide) ?_
      obtain rfl := q_rt hq
      exact rw_zret hx hb hr nz_1 hk hP hD hS dX4_isNumber_92
def F_X4_isNumber_10 (uy : Int32) (ut : Nat → Int32) (v1 : Int32) (v2 : Int32) : Nat → Int32 → Int32 → Option (Int32 × Int32 × Int32)
  | 0, _, _ => none
  | n + 1, uq, uz => if v1 ≤ (uq - v2) then (F_X4_isNumber_68 uy uq uz ut v2) else ((F_X4_isAt uy uq ut 48 57).bind fun r4 => if r4 = 0 then (F_X4_isNumber_68 uy uq uz ut v2) else (vgd (ix (uq) 150) <| vlet ((((10 : Int32) * uz) + (ut uq.toNatClampNeg)) - 48) fun x8 => vlet (uq + 1) fun x9 => F_X4_isNumber_10 uy ut v1 v2 n x9 x8))
set_option maxHeartbeats 4000000 in
set_option maxRecDepth 100000 in
theorem w_X4_isNumber_10 {p : Program} {l : Launch} {e : Env} {s : State} {m : MethodId} {args : Array Value} {below : List Frame} {meth : Method} {c : Code} {G : va_G} {g : Nat → ClassId} (X : cx p s m args meth c cX4_isNumber 3 (some .boolean) RX4 wsX4_isNumber) (K : amb G g s) {A : Nat → Prop} (hA : ∀ q : Nat, s.heap.size ≤ q → A q) (jo js jp ja jk jt jb : Nat) (un : Int32) (uw : Int32) (us : Nat → Int32) (up : Nat → Int32) (ua : Nat → Int32) (uk : Nat → Int32) (ub : Nat → Int32) (uy : Int32) (ut : Nat → Int32) (v1 : Int32) (v2 : Int32) (res : Int32 × Int32 × Int32) : ∀ (n : Nat) (uq : Int32) (uz : Int32), F_X4_isNumber_10 uy ut v1 v2 n uq uz = some res → ∀ (H : Heap) (locs : List Loc), va_P G vwCl [(jo, .inr (4, [.ref js, .ref jp, .ref ja, .ref jk, .int un, .ref jt, .int uy, .int uw, .ref jb, .int uq, .int uz])), (js, .inl (g 0, 388, .inl us)), (jp, .inl (g 0, 1552, .inl up)), (ja, .inl (g 0, 388, .inl ua)), (jk, .inl (g 0, 97, .inl uk)), (jt, .inl (g 0, 150, .inl ut)), (jb, .inl (g 0, 1000, .inl ub))] H → va_D A [(jo, .inr (4, [.ref js, .ref jp, .ref ja, .ref jk, .int un, .ref jt, .int uy, .int uw, .ref jb, .int uq, .int uz])), (js, .inl (g 0, 388, .inl us)), (jp, .inl (g 0, 1552, .inl up)), (ja, .inl (g 0, 388, .inl ua)), (jk, .inl (g 0, 97, .inl uk)), (jt, .inl (g 0, 150, .inl ut)), (jb, .inl (g 0, 1000, .inl ub))] → va_S A s.heap H locs → ∀ (ls : Array Slot), lv_has ls 3 [(0, .ref jo), (1, .int v1), (2, .int v2)] → W p l e (rmF 2 44) s m args below meth c H locs 0 0 (rwM G A below (some (.int res.1)) [(jo, .inr (4, [.ref js, .ref jp, .ref ja, .ref jk, .int un, .ref jt, .int uy, .int uw, .ref jb, .int res.2.1, .int res.2.2])), (js, .inl (g 0, 388, .inl us)), (jp, .inl (g 0, 1552, .inl up)), (ja, .inl (g 0, 388, .inl ua)), (jk, .inl (g 0, 97, .inl uk)), (jt, .inl (g 0, 150, .inl ut)), (jb, .inl (g 0, 1000, .inl ub))] args s) (F0 m 10 ls []) := by
  obtain ⟨hx, hb, hml, hr, hown, hts, hk⟩ := id X
  intro n
  induction n with
  | zero => intro uq uz hq; exact q_no hq
  | succ n ih =>
    intro uq uz hq H locs hP hD hS ls hl
    rw [F_X4_isNumber_10] at hq
    refine lv_aload_n hx hb dX4_isNumber_10 rfl (lv_at hl 0 rfl) ?_
    refine va_get (D := G) (ci := 4) (v := .int uq) (C := RX4) (T := TX4) (N := 11) hx hb hts in_X4_isNumber_X4 hown K.1 hP 0 rfl rfl 9 (by decide) (hts _ (List.mem_of_getElem? (i := 1) rfl)) (fun _ h9 => h9) rfl dX4_isNumber_11 ?_
    refine lv_iload_n hx hb dX4_isNumber_14 rfl (lv_at hl 2 rfl) ?_
    refine lv_isub hx hb dX4_isNumber_15 ?_
    refine lv_iload_n hx hb dX4_isNumber_16 rfl (lv_at hl 1 rfl) ?_
    refine lv_icmp_ge (tgt := 68) hx hb dX4_isNumber_17 (by decide) (fun c3 => ?_) (fun c3 => ?_)
    · have hq := q_if_t hq c3
      exact w_X4_isNumber_68 X K hA jo js jp ja jk jt jb un uw us up ua uk ub uy uq uz ut v2 _ hq _ _ hP hD hS ls (lv_sub hl [0, 2] rfl)
    · have hq := q_if_f hq c3
      refine lv_aload_n hx hb dX4_isNumber_20 rfl (lv_at hl 0 rfl) ?_
      refine lv_bipush (v := 48) hx hb dX4_isNumber_21 (by decide) ?_
      refine lv_bipush (v := 57) hx hb dX4_isNumber_23 (by decide) ?_
      obtain ⟨r4, hh5, hq⟩ := q_bd hq
      refine roV (ci := 4) (As := [.int 48, .int 57]) (rest := []) X K (k_X4_isAt l G g jo js jp ja jk jt jb un uy uw uq uz us up ua uk ut ub 48 57 _ hh5) hd_X4_isAt gX4_isNumber_X4_isAt hP hl.1 dX4_isNumber_25 rfl rfl ⟨Nat.le_of_ble_eq_true rfl, Nat.le_of_ble_eq_true rfl⟩ rfl rfl rfl (Nat.le_of_ble_eq_true rfl) ⟨Nat.zero_le _, Nat.zero_le _⟩ ?_
      refine lv_if_eq (tgt := 68) hx hb dX4_isNumber_28 (by decide) (fun c6 => ?_) (fun c6 => ?_)
      · have hq := q_if_t hq c6
        exact w_X4_isNumber_68 X K hA jo js jp ja jk jt jb un uw us up ua uk ub uy uq uz ut v2 _ hq _ _ hP hD hS ls (lv_sub hl [0, 2] rfl)
      · have hq := q_if_f hq c6
        refine lv_aload_n hx hb dX4_isNumber_31 rfl (lv_at hl 0 rfl) ?_
        refine lv_bipush (v := 10) hx hb dX4_isNumber_32 (by decide) ?_
        refine lv_aload_n hx hb dX4_isNumber_34 rfl (lv_at hl 0 rfl) ?_
        refine va_get (D := G) (ci := 4) (v := .int uz) (C := RX4) (T := TX4) (N := 11) hx hb hts in_X4_isNumber_X4 hown K.1 hP 0 rfl rfl 10 (by decide) (hts _ (List.mem_of_getElem? (i := 2) rfl)) (fun _ h9 => h9) rfl dX4_isNumber_35 ?_
        refine lv_imul hx hb dX4_isNumber_38 ?_
        refine lv_aload_n hx hb dX4_isNumber_39 rfl (lv_at hl 0 rfl) ?_
        refine va_get (D := G) (ci := 4) (v := .ref jt) (C := RX4) (T := TX4) (N := 11) hx hb hts in_X4_isNumber_X4 hown K.1 hP 0 rfl rfl 5 (by decide) (hts _ (List.mem_of_getElem? (i := 3) rfl)) (fun _ h9 => h9) rfl dX4_isNumber_40 ?_
        refine lv_aload_n hx hb dX4_isNumber_43 rfl (lv_at hl 0 rfl) ?_
        refine va_get (D := G) (ci := 4) (v := .int uq) (C := RX4) (T := TX4) (N := 11) hx hb hts in_X4_isNumber_X4 hown K.1 hP 0 rfl rfl 9 (by decide) (hts _ (List.mem_of_getElem? (i := 1) rfl)) (fun _ h9 => h9) rfl dX4_isNumber_44 ?_
        obtain ⟨hh7, hq⟩ := q_gd hq
        refine va_iald hx hb K.1 hP 5 0 rfl rfl (vp_in_iff.mpr hh7) dX4_isNumber_47 ?_
        refine lv_iadd hx hb dX4_isNumber_48 ?_
        refine lv_bipush (v := 48) hx hb dX4_isNumber_49 (by decide) ?_
        refine lv_isub hx hb dX4_isNumber_51 ?_
        refine lv_topi (fun x8 ex8 => ?_)
        have hq := q_let hq ex8
        refine va_put (D := G) (ci := 4) (v := .int x8) (ty := .int) (C := RX4) (T := TX4) (N := 11) hx hb hts in_X4_isNumber_X4 tyX4 tyX4_ok nmX4 hown K.1 hP hD hS 0 rfl rfl 10 (by decide) (hts _ (List.mem_of_getElem? (i := 2) rfl)) (fun _ h9 => h9) rfl (by decide +kernel) rfl rfl (Nat.le_of_ble_eq_true rfl) dX4_isNumber_52 (fun H locs hP hD hS => ?_)
        have hP : va_P G vwCl [(jo, .inr (4, [.ref js, .ref jp, .ref ja, .ref jk, .int un, .ref jt, .int uy, .int uw, .ref jb, .int uq, .int x8])), (js, .inl (g 0, 388, .inl us)), (jp, .inl (g 0, 1552, .inl up)), (ja, .inl (g 0, 388, .inl ua)), (jk, .inl (g 0, 97, .inl uk)), (jt, .inl (g 0, 150, .inl ut)), (jb, .inl (g 0, 1000, .inl ub))] H := hP
        have hD : va_D A [(jo, .inr (4, [.ref js, .ref jp, .ref ja, .ref jk, .int un, .ref jt, .int uy, .int uw, .ref jb, .int uq, .int x8])), (js, .inl (g 0, 388, .inl us)), (jp, .inl (g 0, 1552, .inl up)), (ja, .inl (g 0, 388, .inl ua)), (jk, .inl (g 0, 97, .inl uk)), (jt, .inl (g 0, 150, .inl ut)), (jb, .inl (g 0, 1000, .inl ub))] := hD
        refine lv_aload_n hx hb dX4_isNumber_55 rfl (lv_at hl 0 rfl) ?_
        refine lv_dup hx hb dX4_isNumber_56 rfl ?_
        refine va_get (D := G) (ci := 4) (v := .int uq) (C := RX4) (T := TX4) (N := 11) hx hb hts in_X4_isNumber_X4 hown K.1 hP 0 rfl rfl 9 (by decide) (hts _ (List.mem_of_getElem? (i := 1) rfl)) (fun _ h9 => h9) rfl dX4_isNumber_57 ?_
        refine lv_iconst (v := 1) hx hb dX4_isNumber_60 (by decide) ?_
        refine lv_iadd hx hb dX4_isNumber_61 ?_
        refine lv_topi (fun x9 ex9 => ?_)
        have hq := q_let hq ex9
        refine va_put (D := G) (ci := 4) (v := .int x9) (ty := .int) (C := RX4) (T := TX4) (N := 11) hx hb hts in_X4_isNumber_X4 tyX4 tyX4_ok nmX4 hown K.1 hP hD hS 0 rfl rfl 9 (by decide) (hts _ (List.mem_of_getElem? (i := 1) rfl)) (fun _ h9 => h9) rfl (by decide +kernel) rfl rfl (Nat.le_of_ble_eq_true rfl) dX4_isNumber_62 (fun H locs hP hD hS => ?_)
        have hP : va_P G vwCl [(jo, .inr (4, [.ref js, .ref jp, .ref ja, .ref jk, .int un, .ref jt, .int uy, .int uw, .ref jb, .int x9, .int x8])), (js, .inl (g 0, 388, .inl us)), (jp, .inl (g 0, 1552, .inl up)), (ja, .inl (g 0, 388, .inl ua)), (jk, .inl (g 0, 97, .inl uk)), (jt, .inl (g 0, 150, .inl ut)), (jb, .inl (g 0, 1000, .inl ub))] H := hP
        have hD : va_D A [(jo, .inr (4, [.ref js, .ref jp, .ref ja, .ref jk, .int un, .ref jt, .int uy, .int uw, .ref jb, .int x9, .int x8])), (js, .inl (g 0, 388, .inl us)), (jp, .inl (g 0, 1552, .inl up)), (ja, .inl (g 0, 388, .inl ua)), (jk, .inl (g 0, 97, .inl uk)), (jt, .inl (g 0, 150, .inl ut)), (jb, .inl (g 0, 1000, .inl ub))] := hD
        refine lv_goto (tgt := 10) hx hb dX4_isNumber_65 (by decide) ?_
        exact ih x9 x8 hq _ _ hP hD hS ls (lv_sub hl [0, 1, 2] rfl)
def F_X4_isNumber (uy : Int32) (uq : Int32) (uz : Int32) (ut : Nat → Int32) (p1 : Int32) : Option (Int32 × Int32 × Int32) := F_X4_isNumber_10 uy ut p1 uq 2000 uq 0
set_option maxHeartbeats 4000000 in
set_option maxRecDepth 100000 in
theorem k_X4_isNumber (l : Launch) (G : va_G) (g : Nat → ClassId) (jo js jp ja jk jt jb : Nat) (un : Int32) (uy : Int32) (uw : Int32) (uq : Int32) (uz : Int32) (us : Nat → Int32) (up : Nat → Int32) (ua : Nat → Int32) (uk : Nat → Int32) (ut : Nat → Int32) (ub : Nat → Int32) (p1 : Int32) (res : Int32 × Int32 × Int32) (hq : F_X4_isNumber uy uq uz ut p1 = some res) : rwC l yX4_isNumber wsX4_isNumber (rmF 2 44) G g [.ref jo, .int p1] [(jo, .inr (4, [.ref js, .ref jp, .ref ja, .ref jk, .int un, .ref jt, .int uy, .int uw, .ref jb, .int uq, .int uz])), (js, .inl (g 0, 388, .inl us)), (jp, .inl (g 0, 1552, .inl up)), (ja, .inl (g 0, 388, .inl ua)), (jk, .inl (g 0, 97, .inl uk)), (jt, .inl (g 0, 150, .inl ut)), (jb, .inl (g 0, 1000, .inl ub))] (some (.int res.1)) [(jo, .inr (4, [.ref js, .ref jp, .ref ja, .ref jk, .int un, .ref jt, .int uy, .int uw, .ref jb, .int res.2.1, .int res.2.2])), (js, .inl (g 0, 388, .inl us)), (jp, .inl (g 0, 1552, .inl up)), (ja, .inl (g 0, 388, .inl ua)), (jk, .inl (g 0, 97, .inl uk)), (jt, .inl (g 0, 150, .inl ut)), (jb, .inl (g 0, 1000, .inl ub))] := by
  refine rwC.of (cc := cX4_isNumber) (maxL := 3) (ret := (some .boolean)) (by decide) rfl (Nat.le_of_ble_eq_true rfl) ?_
  intro p e s m below meth c ls A X K hA hP hD hS hl
  obtain ⟨hx, hb, hml, hr, hown, hts, hk⟩ := id X
  have hl : lv_has ls 3 [(0, .ref jo), (1, .int p1)] := hl
  unfold F_X4_isNumber at hq
  refine lv_aload_n hx hb dX4_isNumber_0 rfl (lv_at hl 0 rfl) ?_
  refine va_get (D := G) (ci := 4) (v := .int uq) (C := RX4) (T := TX4) (N := 11) hx hb hts in_X4_isNumber_X4 hown K.1 hP 0 rfl rfl 9 (by decide) (hts _ (List.mem_of_getElem? (i := 1) rfl)) (fun _ h9 => h9) rfl dX4_isNumber_1 ?_
  refine lv_istore_n (lv' := [(2, .int uq), (0, .ref jo), (1, .int p1)]) hx hb dX4_isNumber_4 rfl hl (by decide) rfl (fun ls hl => ?_)
  refine lv_aload_n hx hb dX4_isNumber_5 rfl (lv_at hl 1 rfl) ?_
  refine lv_iconst (v := 0) hx hb dX4_isNumber_6 (by decide) ?_
  refine va_put (D := G) (ci := 4) (v := .int 0) (ty := .int) (C := RX4) (T := TX4) (N := 11) hx hb hts in_X4_isNumber_X4 tyX4 tyX4_ok nmX4 hown K.1 hP hD hS 0 rfl rfl 10 (by decide) (hts _ (List.mem_of_getElem? (i := 2) rfl)) (fun _ h9 => h9) rfl (by decide +kernel) rfl rfl (Nat.le_of_ble_eq_true rfl) dX4_isNumber_7 (fun H locs hP hD hS => ?_)
  have hP : va_P G vwCl [(jo, .inr (4, [.ref js, .ref jp, .ref ja, .ref jk, .int un, .ref jt, .int uy, .int uw, .ref jb, .int uq, .int 0])), (js, .inl (g 0, 388, .inl us)), (jp, .inl (g 0, 1552, .inl up)), (ja, .inl (g 0, 388, .inl ua)), (jk, .inl (g 0, 97, .inl uk)), (jt, .inl (g 0, 150, .inl ut)), (jb, .inl (g 0, 1000, .inl ub))] H := hP
  have hD : va_D A [(jo, .inr (4, [.ref js, .ref jp, .ref ja, .ref jk, .int un, .ref jt, .int uy, .int uw, .ref jb, .int uq, .int 0])), (js, .inl (g 0, 388, .inl us)), (jp, .inl (g 0, 1552, .inl up)), (ja, .inl (g 0, 388, .inl ua)), (jk, .inl (g 0, 97, .inl uk)), (jt, .inl (g 0, 150, .inl ut)), (jb, .inl (g 0, 1000, .inl ub))] := hD
  exact w_X4_isNumber_10 X K hA jo js jp ja jk jt jb un uw us up ua uk ub uy ut p1 uq _ 2000 uq 0 hq _ _ hP hD hS ls (lv_sub hl [1, 2, 0] rfl)
theorem hd_X4_comes : ynm yX4_comes 4 := by unfold ynm; decide +kernel
theorem hd_X4_isNumber : ynm yX4_isNumber 1 := by unfold ynm; decide +kernel
theorem hd_X4_takes : ynm yX4_takes 1 := by unfold ynm; decide +kernel
theorem in_X4_isItem_X4 : ∀ w ∈ wsX40, w ∈ wsX4_isItem := fun _ h => List.mem_cons_of_mem _ (List.mem_append_right _ h)
def F_X4_isItem_195 (uy : Int32) (uq : Int32) (uz : Int32) (us : Nat → Int32) (ut : Nat → Int32) (v1 : Int32) (v2 : Int32) (v3 : Int32) (v4 : Int32) (v5 : Int32) (v6 : Int32) : Option (Int32 × Int32 × Int32 × (Nat → Int32)) := (F_X4_takes uy uq ut 59).bind fun o10 => if o10.1 = 0 then (some (0, o10.2, uz, us)) else ((F_X4_comes us v1 v2 v3 v4).bind fun o15 => (F_X4_spot v1 o15.1).bind fun r16 => vgd (ix (r16 + 3) 388) <| vlet (upd o15.2 (r16 + 3).toNatClampNeg v6) fun f19 => (F_X4_spot v1 o15.1).bind fun r20 => vgd (ix (r20 + 5) 388) <| vlet (upd f19 (r20 + 5).toNatClampNeg v5) fun f23 => some (1, o10.2, uz, f23))
set_option maxHeartbeats 4000000 in
set_option maxRecDepth 100000 in
theorem w_X4_isItem_195 {p : Program} {l : Launch} {e : Env} {s : State} {m : MethodId} {args : Array Value} {below : List Frame} {meth : Method} {c : Code} {G : va_G} {g : Nat → ClassId} (X : cx p s m args meth c cX4_isItem 11 (some .boolean) RX4 wsX4_isItem) (K : amb G g s) {A : Nat → Prop} (hA : ∀ q : Nat, s.heap.size ≤ q → A q) (jo js jp ja jk jt jb : Nat) (un : Int32) (uw : Int32) (up : Nat → Int32) (ua : Nat → Int32) (uk : Nat → Int32) (ub : Nat → Int32) (uy : Int32) (uq : Int32) (uz : Int32) (us : Nat → Int32) (ut : Nat → Int32) (v1 : Int32) (v2 : Int32) (v3 : Int32) (v4 : Int32) (v5 : Int32) (v6 : Int32) (res : Int32 × Int32 × Int32 × (Nat → Int32)) (hq : F_X4_isItem_195 uy uq uz us ut v1 v2 v3 v4 v5 v6 = some res) : ∀ (H : Heap) (locs : List Loc), va_P G vwCl [(jo, .inr (4, [.ref js, .ref jp, .ref ja, .ref jk, .int un, .ref jt, .int uy, .int uw, .ref jb, .int uq, .int uz])), (js, .inl (g 0, 388, .inl us)), (jp, .inl (g 0, 1552, .inl up)), (ja, .inl (g 0, 388, .inl ua)), (jk, .inl (g 0, 97, .inl uk)), (jt, .inl (g 0, 150, .inl ut)), (jb, .inl (g 0, 1000, .inl ub))] H → va_D A [(jo, .inr (4, [.ref js, .ref jp, .ref ja, .ref jk, .int un, .ref jt, .int uy, .int uw, .ref jb, .int uq, .int uz])), (js, .inl (g 0, 388, .inl us)), (jp, .inl (g 0, 1552, .inl up)), (ja, .inl (g 0, 388, .inl ua)), (jk, .inl (g 0, 97, .inl uk)), (jt, .inl (g 0, 150, .inl ut)), (jb, .inl (g 0, 1000, .inl ub))] → va_S A s.heap H locs → ∀ (ls : Array Slot), lv_has ls 11 [(0, .ref jo), (1, .int v1), (4, .int v2), (6, .int v3), (7, .int v4), (8, .int v5)] → W p l e (rmF 3 70) s m args below meth c H locs 0 0 (rwM G A below (some (.int res.1)) [(jo, .inr (4, [.ref js, .ref jp, .ref ja, .ref jk, .int un, .ref jt, .int uy, .int uw, .ref jb, .int res.2.1, .int res.2.2.1])), (js, .inl (g 0, 388, .inl res.2.2.2)), (jp, .inl (g 0, 1552, .inl up)), (ja, .inl (g 0, 388, .inl ua)), (jk, .inl (g 0, 97, .inl uk)), (jt, .inl (g 0, 150, .inl ut)), (jb, .inl (g 0, 1000, .inl ub))] args s) (F0 m 195 ls [.int v6]) := by
  obtain ⟨hx, hb, hml, hr, hown, hts, hk⟩ := id X
  intro H locs hP hD hS ls hl
  unfold F_X4_isItem_195 at hq
  refine lv_istore (lv' := [(9, .int v6), (0, .ref jo), (1, .int v1), (4, .int v2), (6, .int v3), (7, .int v4), (8, .int v5)]) hx hb dX4_isItem_195 hl (by decide) rfl (fun ls hl => ?_)
  refine lv_aload_n hx hb dX4_isItem_197 rfl (lv_at hl 1 rfl) ?_
  refine lv_bipush (v := 59) hx hb dX4_isItem_198 (by decide) ?_
  obtain ⟨⟨r7, y8⟩, hh9, hq⟩ := q_bd hq
  refine rwV (ci := 4) (wr := []) (As := [.int 59]) (rest := []) X K (k_X4_takes l G g jo js jp ja jk jt jb un uy uw uq uz us up ua uk ut ub 59 _ hh9) hd_X4_takes gX4_isItem_X4_takes hP hD hS hA [0, 1, 2, 3, 4, 5, 6] [] rfl rfl ⟨by decide, by decide, by decide⟩ hl.1 dX4_isItem_200 rfl rfl ⟨Nat.le_of_ble_eq_true rfl, Nat.le_of_ble_eq_true rfl⟩ rfl rfl rfl (Nat.le_of_ble_eq_true rfl) ⟨Nat.zero_le _, Nat.zero_le _⟩ (fun H locs hP hD hS => ?_)
  have hP : va_P G vwCl [(jo, .inr (4, [.ref js, .ref jp, .ref ja, .ref jk, .int un, .ref jt, .int uy, .int uw, .ref jb, .int y8, .int uz])), (js, .inl (g 0, 388, .inl us)), (jp, .inl (g 0, 1552, .inl up)), (ja, .inl (g 0, 388, .inl ua)), (jk, .inl (g 0, 97, .inl uk)), (jt, .inl (g 0, 150, .inl ut)), (jb, .inl (g 0, 1000, .inl ub))] H := hP
  have hD : va_D A [(jo, .inr (4, [.ref js, .ref jp, .ref ja, .ref jk, .int un, .ref jt, .int uy, .int uw, .ref jb, .int y8, .int uz])), (js, .inl (g 0, 388, .inl us)), (jp, .inl (g 0, 1552, .inl up)), (ja, .inl (g 0, 388, .inl ua)), (jk, .inl (g 0, 97, .inl uk)), (jt, .inl (g 0, 150, .inl ut)), (jb, .inl (g 0, 1000, .inl ub))] := hD
  refine lv_if_ne (tgt := 208) hx hb dX4_isItem_203 (by decide) (fun c11 => ?_) (fun c11 => ?_)
  · have hq := q_if_f hq c11
    refine lv_aload_n hx hb dX4_isItem_208 rfl (lv_at hl 1 rfl) ?_
    refine lv_iload_n hx hb dX4_isItem_209 rfl (lv_at hl 2 rfl) ?_
    refine lv_iload hx hb dX4_isItem_210 (lv_at hl 3 rfl) ?_
    refine lv_iload hx hb dX4_isItem_212 (lv_at hl 4 rfl) ?_
    refine lv_iload hx hb dX4_isItem_214 (lv_at hl 5 rfl) ?_
    obtain ⟨⟨r12, y13⟩, hh14, hq⟩ := q_bd hq
    refine rwV (ci := 4) (wr := []) (As := [.int v1, .int v2, .int v3, .int v4]) (rest := []) X K (k_X4_comes l G g jo js jp ja jk jt jb un uy uw y8 uz us up ua uk ut ub v1 v2 v3 v4 _ hh14) hd_X4_comes gX4_isItem_X4_comes hP hD hS hA [0, 1, 2, 3, 4, 5, 6] [] rfl rfl ⟨by decide, by decide, by decide⟩ hl.1 dX4_isItem_216 rfl rfl ⟨Nat.le_of_ble_eq_true rfl, Nat.le_of_ble_eq_true rfl⟩ rfl rfl rfl (Nat.le_of_ble_eq_true rfl) ⟨Nat.zero_le _, Nat.zero_le _⟩ (fun H locs hP hD hS => ?_)
    have hP : va_P G vwCl [(jo, .inr (4, [.ref js, .ref jp, .ref ja, .ref jk, .int un, .ref jt, .int uy, .int uw, .ref jb, .int y8, .int uz])), (js, .inl (g 0, 388, .inl y13)), (jp, .inl (g 0, 1552, .inl up)), (ja, .inl (g 0, 388, .inl ua)), (jk, .inl (g 0, 97, .inl uk)), (jt, .inl (g 0, 150, .inl ut)), (jb, .inl (g 0, 1000, .inl ub))] H := hP
    have hD : va_D A [(jo, .inr (4, [.ref js, .ref jp, .ref ja, .ref jk, .int un, .ref jt, .int uy, .int uw, .ref jb, .int y8, .int uz])), (js, .inl (g 0, 388, .inl y13)), (jp, .inl (g 0, 1552, .inl up)), (ja, .inl (g 0, 388, .inl ua)), (jk, .inl (g 0, 97, .inl uk)), (jt, .inl (g 0, 150, .inl ut)), (jb, .inl (g 0, 1000, .inl ub))] := hD
    refine lv_istore (lv' := [(10, .int r12), (9, .int v6), (0, .ref jo), (1, .int v1), (4, .int v2), (6, .int v3), (7, .int v4), (8, .int v5)]) hx hb dX4_isItem_219 hl (by decide) rfl (fun ls hl => ?_)
    refine lv_aload_n hx hb dX4_isItem_221 rfl (lv_at hl 2 rfl) ?_
    refine va_get (D := G) (ci := 4) (v := .ref js) (C := RX4) (T := TX4) (N := 11) hx hb hts in_X4_isItem_X4 hown K.1 hP 0 rfl rfl 0 (by decide) (hts _ (List.mem_of_getElem? (i := 4) rfl)) (fun _ h9 => h9) rfl dX4_isItem_222 ?_
    refine lv_iload_n hx hb dX4_isItem_225 rfl (lv_at hl 3 rfl) ?_
    refine lv_iload hx hb dX4_isItem_226 (lv_at hl 0 rfl) ?_
    obtain ⟨r16, hh17, hq⟩ := q_bd hq
    refine roS (As := [.int v1, .int r12]) (rest := [.ref js]) X K (k_X4_spot l G g v1 r12 _ hh17) hd_X4_spot gX4_isItem_X4_spot (hP.sub [] rfl) hl.1 dX4_isItem_228 rfl rfl ⟨Nat.le_of_ble_eq_true rfl, Nat.le_of_ble_eq_true rfl⟩ rfl (Nat.le_of_ble_eq_true rfl) ⟨Nat.zero_le _, Nat.zero_le _⟩ ?_
    refine lv_iconst (v := 3) hx hb dX4_isItem_231 (by decide) ?_
    refine lv_iadd hx hb dX4_isItem_232 ?_
    refine lv_iload hx hb dX4_isItem_233 (lv_at hl 1 rfl) ?_
    obtain ⟨hh18, hq⟩ := q_gd hq
    refine va_iast hx hb K.1 hP hD hS 1 0 rfl rfl (vp_in_iff.mpr hh18) dX4_isItem_235 (fun H locs hP hD hS => ?_)
    obtain ⟨f19, ef19⟩ : ∃ y, y = upd y13 (r16 + 3).toNatClampNeg v6 := ⟨_, rfl⟩
    have hq := q_let hq ef19
    have hP : va_P G vwCl [(jo, .inr (4, [.ref js, .ref jp, .ref ja, .ref jk, .int un, .ref jt, .int uy, .int uw, .ref jb, .int y8, .int uz])), (js, .inl (g 0, 388, .inl f19)), (jp, .inl (g 0, 1552, .inl up)), (ja, .inl (g 0, 388, .inl ua)), (jk, .inl (g 0, 97, .inl uk)), (jt, .inl (g 0, 150, .inl ut)), (jb, .inl (g 0, 1000, .inl ub))] H := by rw [ef19]; exact hP
    have hD : va_D A [(jo, .inr (4, [.ref js, .ref jp, .ref ja, .ref jk, .int un, .ref jt, .int uy, .int uw, .ref jb, .int y8, .int uz])), (js, .inl (g 0, 388, .inl f19)), (jp, .inl (g 0, 1552, .inl up)), (ja, .inl (g 0, 388, .inl ua)), (jk, .inl (g 0, 97, .inl uk)), (jt, .inl (g 0, 150, .inl ut)), (jb, .inl (g 0, 1000, .inl ub))] := by rw [ef19]; exact hD
    refine lv_aload_n hx hb dX4_isItem_236 rfl (lv_at hl 2 rfl) ?_
    refine va_get (D := G) (ci := 4) (v := .ref js) (C := RX4) (T := TX4) (N := 11) hx hb hts in_X4_isItem_X4 hown K.1 hP 0 rfl rfl 0 (by decide) (hts _ (List.mem_of_getElem? (i := 4) rfl)) (fun _ h9 => h9) rfl dX4_isItem_237 ?_
    refine lv_iload_n hx hb dX4_isItem_240 rfl (lv_at hl 3 rfl) ?_
    refine lv_iload hx hb dX4_isItem_241 (lv_at hl 0 rfl) ?_
    obtain ⟨r20, hh21, hq⟩ := q_bd hq
    refine roS (As := [.int v1, .int r12]) (rest := [.ref js]) X K (k_X4_spot l G g v1 r12 _ hh21) hd_X4_spot gX4_isItem_X4_spot (hP.sub [] rfl) hl.1 dX4_isItem_243 rfl rfl ⟨Nat.le_of_ble_eq_true rfl, Nat.le_of_ble_eq_true rfl⟩ rfl (Nat.le_of_ble_eq_true rfl) ⟨Nat.zero_le _, Nat.zero_le _⟩ ?_
    refine lv_iconst (v := 5) hx hb dX4_isItem_246 (by decide) ?_
    refine lv_iadd hx hb dX4_isItem_247 ?_
    refine lv_iload hx hb dX4_isItem_248 (lv_at hl 7 rfl) ?_
    obtain ⟨hh22, hq⟩ := q_gd hq
    refine va_iast hx hb K.1 hP hD hS 1 0 rfl rfl (vp_in_iff.mpr hh22) dX4_isItem_250 (fun H locs hP hD hS => ?_)
    obtain ⟨f23, ef23⟩ : ∃ y, y = upd f19 (r20 + 5).toNatClampNeg v5 := ⟨_, rfl⟩
    have hq := q_let hq ef23
    have hP : va_P G vwCl [(jo, .inr (4, [.ref js, .ref jp, .ref ja, .ref jk, .int un, .ref jt, .int uy, .int uw, .ref jb, .int y8, .int uz])), (js, .inl (g 0, 388, .inl f23)), (jp, .inl (g 0, 1552, .inl up)), (ja, .inl (g 0, 388, .inl ua)), (jk, .inl (g 0, 97, .inl uk)), (jt, .inl (g 0, 150, .inl ut)), (jb, .inl (g 0, 1000, .inl ub))] H := by rw [ef23]; exact hP
    have hD : va_D A [(jo, .inr (4, [.ref js, .ref jp, .ref ja, .ref jk, .int un, .ref jt, .int uy, .int uw, .ref jb, .int y8, .int uz])), (js, .inl (g 0, 388, .inl f23)), (jp, .inl (g 0, 1552, .inl up)), (ja, .inl (g 0, 388, .inl ua)), (jk, .inl (g 0, 97, .inl uk)), (jt, .inl (g 0, 150, .inl ut)), (jb, .inl (g 0, 1000, .inl ub))] := by rw [ef23]; exact hD
    refine lv_iconst (v := 1) hx hb dX4_isItem_251 (by decide) ?_
    obtain rfl := q_rt hq
    exact rw_zret hx hb hr nz_1 hk hP hD hS dX4_isItem_252
  · have hq := q_if_t hq c11
    refine lv_iconst (v := 0) hx hb dX4_isItem_206 (by decide) ?_
    obtain rfl := q_rt hq
    exact rw_zret hx hb hr nz_0 hk hP hD hS dX4_isItem_207
def F_X4_isItem_166 (uy : Int32) (uq : Int32) (uz : Int32) (us : Nat → Int32) (ut : Nat → Int32) (v1 : Int32) (v2 : Int32) (v3 : Int32) (v4 : Int32) (v5 : Int32) : Option (Int32 × Int32 × Int32 × (Nat → Int32)) := (F_X4_takes uy uq ut 115).bind fun o9 => if o9.1 = 0 then ((F_X4_takes uy o9.2 ut 118).bind fun o14 => if o14.1 = 0 then (F_X4_isItem_195 uy o14.2 uz us ut v1 v2 v3 v4 v5 0) else (F_X4_isItem_195 uy o14.2 uz us ut v1 v2 v3 v4 v5 2)) else (F_X4_isItem_195 uy o9.2 uz us ut v1 v2 v3 v4 v5 1)
set_option maxHeartbeats 4000000 in
set_option maxRecDepth 100000 in
theorem w_X4_isItem_166 {p : Program} {l : Launch} {e : Env} {s : State} {m : MethodId} {args : Array Value} {below : List Frame} {meth : Method} {c : Code} {G : va_G} {g : Nat → ClassId} (X : cx p s m args meth c cX4_isItem 11 (some .boolean) RX4 wsX4_isItem) (K : amb G g s) {A : Nat → Prop} (hA : ∀ q : Nat, s.heap.size ≤ q → A q) (jo js jp ja jk jt jb : Nat) (un : Int32) (uw : Int32) (up : Nat → Int32) (ua : Nat → Int32) (uk : Nat → Int32) (ub : Nat → Int32) (uy : Int32) (uq : Int32) (uz : Int32) (us : Nat → Int32) (ut : Nat → Int32) (v1 : Int32) (v2 : Int32) (v3 : Int32) (v4 : Int32) (v5 : Int32) (res : Int32 × Int32 × Int32 × (Nat → Int32)) (hq : F_X4_isItem_166 uy uq uz us ut v1 v2 v3 v4 v5 = some res) : ∀ (H : Heap) (locs : List Loc), va_P G vwCl [(jo, .inr (4, [.ref js, .ref jp, .ref ja, .ref jk, .int un, .ref jt, .int uy, .int uw, .ref jb, .int uq, .int uz])), (js, .inl (g 0, 388, .inl us)), (jp, .inl (g 0, 1552, .inl up)), (ja, .inl (g 0, 388, .inl ua)), (jk, .inl (g 0, 97, .inl uk)), (jt, .inl (g 0, 150, .inl ut)), (jb, .inl (g 0, 1000, .inl ub))] H → va_D A [(jo, .inr (4, [.ref js, .ref jp, .ref ja, .ref jk, .int un, .ref jt, .int uy, .int uw, .ref jb, .int uq, .int uz])), (js, .inl (g 0, 388, .inl us)), (jp, .inl (g 0, 1552, .inl up)), (ja, .inl (g 0, 388, .inl ua)), (jk, .inl (g 0, 97, .inl uk)), (jt, .inl (g 0, 150, .inl ut)), (jb, .inl (g 0, 1000, .inl ub))] → va_S A s.heap H locs → ∀ (ls : Array Slot), lv_has ls 11 [(0, .ref jo), (1, .int v1), (4, .int v2), (6, .int v3), (7, .int v4)] → W p l e (rmF 3 70) s m args below meth c H locs 0 0 (rwM G A below (some (.int res.1)) [(jo, .inr (4, [.ref js, .ref jp, .ref ja, .ref jk, .int un, .ref jt, .int uy, .int uw, .ref jb, .int res.2.1, .int res.2.2.1])), (js, .inl (g 0, 388, .inl res.2.2.2)), (jp, .inl (g 0, 1552, .inl up)), (ja, .inl (g 0, 388, .inl ua)), (jk, .inl (g 0, 97, .inl uk)), (jt, .inl (g 0, 150, .inl ut)), (jb, .inl (g 0, 1000, .inl ub))] args s) (F0 m 166 ls [.int v5]) := by
  obtain ⟨hx, hb, hml, hr, hown, hts, hk⟩ := id X
  intro H locs hP hD hS ls hl
  unfold F_X4_isItem_166 at hq
  refine lv_istore (lv' := [(8, .int v5), (0, .ref jo), (1, .int v1), (4, .int v2), (6, .int v3), (7, .int v4)]) hx hb dX4_isItem_166 hl (by decide) rfl (fun ls hl => ?_)
  refine lv_aload_n hx hb dX4_isItem_168 rfl (lv_at hl 1 rfl) ?_
  refine lv_bipush (v := 115) hx hb dX4_isItem_169 (by decide) ?_
  obtain ⟨⟨r6, y7⟩, hh8, hq⟩ := q_bd hq
  refine rwV (ci := 4) (wr := []) (As := [.int 115]) (rest := []) X K (k_X4_takes l G g jo js jp ja jk jt jb un uy uw uq uz us up ua uk ut ub 115 _ hh8) hd_X4_takes gX4_isItem_X4_takes hP hD hS hA [0, 1, 2, 3, 4, 5, 6] [] rfl rfl ⟨by decide, by decide, by decide⟩ hl.1 dX4_isItem_171 rfl rfl ⟨Nat.le_of_ble_eq_true rfl, Nat.le_of_ble_eq_true rfl⟩ rfl rfl rfl (Nat.le_of_ble_eq_true rfl) ⟨Nat.zero_le _, Nat.zero_le _⟩ (fun H locs hP hD hS => ?_)
  have hP : va_P G vwCl [(jo, .inr (4, [.ref js, .ref jp, .ref ja, .ref jk, .int un, .ref jt, .int uy, .int uw, .ref jb, .int y7, .int uz])), (js, .inl (g 0, 388, .inl us)), (jp, .inl (g 0, 1552, .inl up)), (ja, .inl (g 0, 388, .inl ua)), (jk, .inl (g 0, 97, .inl uk)), (jt, .inl (g 0, 150, .inl ut)), (jb, .inl (g 0, 1000, .inl ub))] H := hP
  have hD : va_D A [(jo, .inr (4, [.ref js, .ref jp, .ref ja, .ref jk, .int un, .ref jt, .int uy, .int uw, .ref jb, .int y7, .int uz])), (js, .inl (g 0, 388, .inl us)), (jp, .inl (g 0, 1552, .inl up)), (ja, .inl (g 0, 388, .inl ua)), (jk, .inl (g 0, 97, .inl uk)), (jt, .inl (g 0, 150, .inl ut)), (jb, .inl (g 0, 1000, .inl ub))] := hD
  refine lv_if_eq (tgt := 181) hx hb dX4_isItem_174 (by decide) (fun c10 => ?_) (fun c10 => ?_)
  · have hq := q_if_t hq c10
    refine lv_aload_n hx hb dX4_isItem_181 rfl (lv_at hl 1 rfl) ?_
    refine lv_bipush (v := 118) hx hb dX4_isItem_182 (by decide) ?_
    obtain ⟨⟨r11, y12⟩, hh13, hq⟩ := q_bd hq
    refine rwV (ci := 4) (wr := []) (As := [.int 118]) (rest := []) X K (k_X4_takes l G g jo js jp ja jk jt jb un uy uw y7 uz us up ua uk ut ub 118 _ hh13) hd_X4_takes gX4_isItem_X4_takes hP hD hS hA [0, 1, 2, 3, 4, 5, 6] [] rfl rfl ⟨by decide, by decide, by decide⟩ hl.1 dX4_isItem_184 rfl rfl ⟨Nat.le_of_ble_eq_true rfl, Nat.le_of_ble_eq_true rfl⟩ rfl rfl rfl (Nat.le_of_ble_eq_true rfl) ⟨Nat.zero_le _, Nat.zero_le _⟩ (fun H locs hP hD hS => ?_)
    have hP : va_P G vwCl [(jo, .inr (4, [.ref js, .ref jp, .ref ja, .ref jk, .int un, .ref jt, .int uy, .int uw, .ref jb, .int y12, .int uz])), (js, .inl (g 0, 388, .inl us)), (jp, .inl (g 0, 1552, .inl up)), (ja, .inl (g 0, 388, .inl ua)), (jk, .inl (g 0, 97, .inl uk)), (jt, .inl (g 0, 150, .inl ut)), (jb, .inl (g 0, 1000, .inl ub))] H := hP
    have hD : va_D A [(jo, .inr (4, [.ref js, .ref jp, .ref ja, .ref jk, .int un, .ref jt, .int uy, .int uw, .ref jb, .int y12, .int uz])), (js, .inl (g 0, 388, .inl us)), (jp, .inl (g 0, 1552, .inl up)), (ja, .inl (g 0, 388, .inl ua)), (jk, .inl (g 0, 97, .inl uk)), (jt, .inl (g 0, 150, .inl ut)), (jb, .inl (g 0, 1000, .inl ub))] := hD
    refine lv_if_eq (tgt := 194) hx hb dX4_isItem_187 (by decide) (fun c15 => ?_) (fun c15 => ?_)
    · have hq := q_if_t hq c15
      refine lv_iconst (v := 0) hx hb dX4_isItem_194 (by decide) ?_
      exact w_X4_isItem_195 X K hA jo js jp ja jk jt jb un uw up ua uk ub uy y12 uz us ut v1 v2 v3 v4 v5 0 _ hq _ _ hP hD hS ls (lv_sub hl [1, 2, 3, 4, 5, 0] rfl)
    · have hq := q_if_f hq c15
      refine lv_iconst (v := 2) hx hb dX4_isItem_190 (by decide) ?_
      refine lv_goto (tgt := 195) hx hb dX4_isItem_191 (by decide) ?_
      exact w_X4_isItem_195 X K hA jo js jp ja jk jt jb un uw up ua uk ub uy y12 uz us ut v1 v2 v3 v4 v5 2 _ hq _ _ hP hD hS ls (lv_sub hl [1, 2, 3, 4, 5, 0] rfl)
  · have hq := q_if_f hq c10
    refine lv_iconst (v := 1) hx hb dX4_isItem_177 (by decide) ?_
    refine lv_goto (tgt := 195) hx hb dX4_isItem_178 (by decide) ?_
    exact w_X4_isItem_195 X K hA jo js jp ja jk jt jb un uw up ua uk ub uy y7 uz us ut v1 v2 v3 v4 v5 1 _ hq _ _ hP hD hS ls (lv_sub hl [1, 2, 3, 4, 5, 0] rfl)
def F_X4_isItem_85 (uy : Int32) (uq : Int32) (uz : Int32) (us : Nat → Int32) (ut : Nat → Int32) (v1 : Int32) (v2 : Int32) (v3 : Int32) : Option (Int32 × Int32 × Int32 × (Nat → Int32)) := (F_X4_isNumber uy uq uz ut 4).bind fun o8 => if o8.1 = 0 then (some (0, o8.2.1, o8.2.2, us)) else ((F_X4_takes uy o8.2.1 ut 44).bind fun o13 => if o13.1 = 0 then (some (0, o13.2, o8.2.2, us)) else (vlet (v3 * o8.2.2) fun x15 => (F_X4_isAt uy o13.2 ut 48 53).bind fun r16 => if r16 = 0 then (some (0, o13.2, o8.2.2, us)) else (vgd (ix (o13.2) 150) <| vlet ((ut o13.2.toNatClampNeg) - 48) fun x20 => vlet (o13.2 + 1) fun x21 => (F_X4_takes uy x21 ut 108).bind fun o25 => if o25.1 = 0 then (F_X4_isItem_166 uy o25.2 o8.2.2 us ut v1 v2 x15 x20 0) else (F_X4_isItem_166 uy o25.2 o8.2.2 us ut v1 v2 x15 x20 1))))
set_option maxHeartbeats 4000000 in
set_option maxRecDepth 100000 in
theorem w_X4_isItem_85 {p : Program} {l : Launch} {e : Env} {s : State} {m : MethodId} {args : Array Value} {below : List Frame} {meth : Method} {c : Code} {G : va_G} {g : Nat → ClassId} (X : cx p s m args meth c cX4_isItem 11 (some .boolean) RX4 wsX4_isItem) (K : amb G g s) {A : Nat → Prop} (hA : ∀ q : Nat, s.heap.size ≤ q → A q) (jo js jp ja jk jt jb : Nat) (un : Int32) (uw : Int32) (up : Nat → Int32) (ua : Nat → Int32) (uk : Nat → Int32) (ub : Nat → Int32) (uy : Int32) (uq : Int32) (uz : Int32) (us : Nat → Int32) (ut : Nat → Int32) (v1 : Int32) (v2 : Int32) (v3 : Int32) (res : Int32 × Int32 × Int32 × (Nat → Int32)) (hq : F_X4_isItem_85 uy uq uz us ut v1 v2 v3 = some res) : ∀ (H : Heap) (locs : List Loc), va_P G vwCl [(jo, .inr (4, [.ref js, .ref jp, .ref ja, .ref jk, .int un, .ref jt, .int uy, .int uw, .ref jb, .int uq, .int uz])), (js, .inl (g 0, 388, .inl us)), (jp, .inl (g 0, 1552, .inl up)), (ja, .inl (g 0, 388, .inl ua)), (jk, .inl (g 0, 97, .inl uk)), (jt, .inl (g 0, 150, .inl ut)), (jb, .inl (g 0, 1000, .inl ub))] H → va_D A [(jo, .inr (4, [.ref js, .ref jp, .ref ja, .ref jk, .int un, .ref jt, .int uy, .int uw, .ref jb, .int uq, .int uz])), (js, .inl (g 0, 388, .inl us)), (jp, .inl (g 0, 1552, .inl up)), (ja, .inl (g 0, 388, .inl ua)), (jk, .inl (g 0, 97, .inl uk)), (jt, .inl (g 0, 150, .inl ut)), (jb, .inl (g 0, 1000, .inl ub))] → va_S A s.heap H locs → ∀ (ls : Array Slot), lv_has ls 11 [(0, .ref jo), (1, .int v1), (4, .int v2)] → W p l e (rmF 3 70) s m args below meth c H locs 0 0 (rwM G A below (some (.int res.1)) [(jo, .inr (4, [.ref js, .ref jp, .ref ja, .ref jk, .int un, .ref jt, .int uy, .int uw, .ref jb, .int res.2.1, .int res.2.2.1])), (js, .inl (g 0, 388, .inl res.2.2.2)), (jp, .inl (g 0, 1552, .inl up)), (ja, .inl (g 0, 388, .inl ua)), (jk, .inl (g 0, 97, .inl uk)), (jt, .inl (g 0, 150, .inl ut)), (jb, .inl (g 0, 1000, .inl ub))] args s) (F0 m 85 ls [.int v3]) := by
  obtain ⟨hx, hb, hml, hr, hown, hts, hk⟩ := id X
  intro H locs hP hD hS ls hl
  unfold F_X4_isItem_85 at hq
  refine lv_istore (lv' := [(5, .int v3), (0, .ref jo), (1, .int v1), (4, .int v2)]) hx hb dX4_isItem_85 hl (by decide) rfl (fun ls hl => ?_)
  refine lv_aload_n hx hb dX4_isItem_87 rfl (lv_at hl 1 rfl) ?_
  refine lv_iconst (v := 4) hx hb dX4_isItem_88 (by decide) ?_
  obtain ⟨⟨r4, y5, y6⟩, hh7, hq⟩ := q_bd hq
  refine rwV (ci := 4) (wr := []) (As := [.int 4]) (rest := []) X K (k_X4_isNumber l G g jo js jp ja jk jt jb un uy uw uq uz us up ua uk ut ub 4 _ hh7) hd_X4_isNumber gX4_isItem_X4_isNumber hP hD hS hA [0, 1, 2, 3, 4, 5, 6] [] rfl rfl ⟨by decide, by decide, by decide⟩ hl.1 dX4_isItem_89 rfl rfl ⟨Nat.le_of_ble_eq_true rfl, Nat.le_of_ble_eq_true rfl⟩ rfl rfl rfl (Nat.le_of_ble_eq_true rfl) ⟨Nat.zero_le _, Nat.zero_le _⟩ (fun H locs hP hD hS => ?_)
  have hP : va_P G vwCl [(jo, .inr (4, [.ref js, .ref jp, .ref ja, .ref jk, .int un, .ref jt, .int uy, .int uw, .ref jb, .int y5, .int y6])), (js, .inl (g 0, 388, .inl us)), (jp, .inl (g 0, 1552, .inl up)), (ja, .inl (g 0, 388, .inl ua)), (jk, .inl (g 0, 97, .inl uk)), (jt, .inl (g 0, 150, .inl ut)), (jb, .inl (g 0, 1000, .inl ub))] H := hP
  have hD : va_D A [(jo, .inr (4, [.ref js, .ref jp, .ref ja, .ref jk, .int un, .ref jt, .int uy, .int uw, .ref jb, .int y5, .int y6])), (js, .inl (g 0, 388, .inl us)), (jp, .inl (g 0, 1552, .inl up)), (ja, .inl (g 0, 388, .inl ua)), (jk, .inl (g 0, 97, .inl uk)), (jt, .inl (g 0, 150, .inl ut)), (jb, .inl (g 0, 1000, .inl ub))] := hD
  refine lv_if_eq (tgt := 104) hx hb dX4_isItem_92 (by decide) (fun c9 => ?_) (fun c9 => ?_)
  · have hq := q_if_t hq c9
    refine lv_iconst (v := 0) hx hb dX4_isItem_104 (by decide) ?_
    obtain rfl := q_rt hq
    exact rw_zret hx hb hr nz_0 hk hP hD hS dX4_isItem_105
  · have hq := q_if_f hq c9
    refine lv_aload_n hx hb dX4_isItem_95 rfl (lv_at hl 1 rfl) ?_
    refine lv_bipush (v := 44) hx hb dX4_isItem_96 (by decide) ?_
    obtain ⟨⟨r10, y11⟩, hh12, hq⟩ := q_bd hq
    refine rwV (ci := 4) (wr := []) (As := [.int 44]) (rest := []) X K (k_X4_takes l G g jo js jp ja jk jt jb un uy uw y5 y6 us up ua uk ut ub 44 _ hh12) hd_X4_takes gX4_isItem_X4_takes hP hD hS hA [0, 1, 2, 3, 4, 5, 6] [] rfl rfl ⟨by decide, by decide, by decide⟩ hl.1 dX4_isItem_98 rfl rfl ⟨Nat.le_of_ble_eq_true rfl, Nat.le_of_ble_eq_true rfl⟩ rfl rfl rfl (Nat.le_of_ble_eq_true rfl) ⟨Nat.zero_le _, Nat.zero_le _⟩ (fun H locs hP hD hS => ?_)
    have hP : va_P G vwCl [(jo, .inr (4, [.ref js, .ref jp, .ref ja, .ref jk, .int un, .ref jt, .int uy, .int uw, .ref jb, .int y11, .int y6])), (js, .inl (g 0, 388, .inl us)), (jp, .inl (g 0, 1552, .inl up)), (ja, .inl (g 0, 388, .inl ua)), (jk, .inl (g 0, 97, .inl uk)), (jt, .inl (g 0, 150, .inl ut)), (jb, .inl (g 0, 1000, .inl ub))] H := hP
    have hD : va_D A [(jo, .inr (4, [.ref js, .ref jp, .ref ja, .ref jk, .int un, .ref jt, .int uy, .int uw, .ref jb, .int y11, .int y6])), (js, .inl (g 0, 388, .inl us)), (jp, .inl (g 0, 1552, .inl up)), (ja, .inl (g 0, 388, .inl ua)), (jk, .inl (g 0, 97, .inl uk)), (jt, .inl (g 0, 150, .inl ut)), (jb, .inl (g 0, 1000, .inl ub))] := hD
    refine lv_if_ne (tgt := 106) hx hb dX4_isItem_101 (by decide) (fun c14 => ?_) (fun c14 => ?_)
    · have hq := q_if_f hq c14
      refine lv_iload hx hb dX4_isItem_106 (lv_at hl 0 rfl) ?_
      refine lv_aload_n hx hb dX4_isItem_108 rfl (lv_at hl 1 rfl) ?_
      refine va_get (D := G) (ci := 4) (v := .int y6) (C := RX4) (T := TX4) (N := 11) hx hb hts in_X4_isItem_X4 hown K.1 hP 0 rfl rfl 10 (by decide) (hts _ (List.mem_of_getElem? (i := 2) rfl)) (fun _ h9 => h9) rfl dX4_isItem_109 ?_
      refine lv_imul hx hb dX4_isItem_112 ?_
      refine lv_topi (fun x15 ex15 => ?_)
      have hq := q_let hq ex15
      refine lv_istore (lv' := [(6, .int x15), (5, .int v3), (0, .ref jo), (1, .int v1), (4, .int v2)]) hx hb dX4_isItem_113 hl (by decide) rfl (fun ls hl => ?_)
      refine lv_aload_n hx hb dX4_isItem_115 rfl (lv_at hl 2 rfl) ?_
      refine lv_bipush (v := 48) hx hb dX4_isItem_116 (by decide) ?_
      refine lv_bipush (v := 53) hx hb dX4_isItem_118 (by decide) ?_
      obtain ⟨r16, hh17, hq⟩ := q_bd hq
      refine roV (ci := 4) (As := [.int 48, .int 53]) (rest := []) X K (k_X4_isAt l G g jo js jp ja jk jt jb un uy uw y11 y6 us up ua uk ut ub 48 53 _ hh17) hd_X4_isAt gX4_isItem_X4_isAt hP hl.1 dX4_isItem_120 rfl rfl ⟨Nat.le_of_ble_eq_true rfl, Nat.le_of_ble_eq_true rfl⟩ rfl rfl rfl (Nat.le_of_ble_eq_true rfl) ⟨Nat.zero_le _, Nat.zero_le _⟩ ?_
      refine lv_if_ne (tgt := 128) hx hb dX4_isItem_123 (by decide) (fun c18 => ?_) (fun c18 => ?_)
      · have hq := q_if_f hq c18
        refine lv_aload_n hx hb dX4_isItem_128 rfl (lv_at hl 2 rfl) ?_
        refine va_get (D := G) (ci := 4) (v := .ref jt) (C := RX4) (T := TX4) (N := 11) hx hb hts in_X4_isItem_X4 hown K.1 hP 0 rfl rfl 5 (by decide) (hts _ (List.mem_of_getElem? (i := 3) rfl)) (fun _ h9 => h9) rfl dX4_isItem_129 ?_
        refine lv_aload_n hx hb dX4_isItem_132 rfl (lv_at hl 2 rfl) ?_
        refine va_get (D := G) (ci := 4) (v := .int y11) (C := RX4) (T := TX4) (N := 11) hx hb hts in_X4_isItem_X4 hown K.1 hP 0 rfl rfl 9 (by decide) (hts _ (List.mem_of_getElem? (i := 1) rfl)) (fun _ h9 => h9) rfl dX4_isItem_133 ?_
        obtain ⟨hh19, hq⟩ := q_gd hq
        refine va_iald hx hb K.1 hP 5 0 rfl rfl (vp_in_iff.mpr hh19) dX4_isItem_136 ?_
        refine lv_bipush (v := 48) hx hb dX4_isItem_137 (by decide) ?_
        refine lv_isub hx hb dX4_isItem_139 ?_
        refine lv_topi (fun x20 ex20 => ?_)
        have hq := q_let hq ex20
        refine lv_istore (lv' := [(7, .int x20), (6, .int x15), (5, .int v3), (0, .ref jo), (1, .int v1), (4, .int v2)]) hx hb dX4_isItem_140 hl (by decide) rfl (fun ls hl => ?_)
        refine lv_aload_n hx hb dX4_isItem_142 rfl (lv_at hl 3 rfl) ?_
        refine lv_dup hx hb dX4_isItem_143 rfl ?_
        refine va_get (D := G) (ci := 4) (v := .int y11) (C := RX4) (T := TX4) (N := 11) hx hb hts in_X4_isItem_X4 hown K.1 hP 0 rfl rfl 9 (by decide) (hts _ (List.mem_of_getElem? (i := 1) rfl)) (fun _ h9 => h9) rfl dX4_isItem_144 ?_
        refine lv_iconst (v := 1) hx hb dX4_isItem_147 (by decide) ?_
        refine lv_iadd hx hb dX4_isItem_148 ?_
        refine lv_topi (fun x21 ex21 => ?_)
        have hq := q_let hq ex21
        refine va_put (D := G) (ci := 4) (v := .int x21) (ty := .int) (C := RX4) (T := TX4) (N := 11) hx hb hts in_X4_isItem_X4 tyX4 tyX4_ok nmX4 hown K.1 hP hD hS 0 rfl rfl 9 (by decide) (hts _ (List.mem_of_getElem? (i := 1) rfl)) (fun _ h9 => h9) rfl (by decide +kernel) rfl rfl (Nat.le_of_ble_eq_true rfl) dX4_isItem_149 (fun H locs hP hD hS => ?_)
        have hP : va_P G vwCl [(jo, .inr (4, [.ref js, .ref jp, .ref ja, .ref jk, .int un, .ref jt, .int uy, .int uw, .ref jb, .int x21, .int y6])), (js, .inl (g 0, 388, .inl us)), (jp, .inl (g 0, 1552, .inl up)), (ja, .inl (g 0, 388, .inl ua)), (jk, .inl (g 0, 97, .inl uk)), (jt, .inl (g 0, 150, .inl ut)), (jb, .inl (g 0, 1000, .inl ub))] H := hP
        have hD : va_D A [(jo, .inr (4, [.ref js, .ref jp, .ref ja, .ref jk, .int un, .ref jt, .int uy, .int uw, .ref jb, .int x21, .int y6])), (js, .inl (g 0, 388, .inl us)), (jp, .inl (g 0, 1552, .inl up)), (ja, .inl (g 0, 388, .inl ua)), (jk, .inl (g 0, 97, .inl uk)), (jt, .inl (g 0, 150, .inl ut)), (jb, .inl (g 0, 1000, .inl ub))] := hD
        refine lv_aload_n hx hb dX4_isItem_152 rfl (lv_at hl 3 rfl) ?_
        refine lv_bipush (v := 108) hx hb dX4_isItem_153 (by decide) ?_
        obtain ⟨⟨r22, y23⟩, hh24, hq⟩ := q_bd hq
        refine rwV (ci := 4) (wr := []) (As := [.int 108]) (rest := []) X K (k_X4_takes l G g jo js jp ja jk jt jb un uy uw x21 y6 us up ua uk ut ub 108 _ hh24) hd_X4_takes gX4_isItem_X4_takes hP hD hS hA [0, 1, 2, 3, 4, 5, 6] [] rfl rfl ⟨by decide, by decide, by decide⟩ hl.1 dX4_isItem_155 rfl rfl ⟨Nat.le_of_ble_eq_true rfl, Nat.le_of_ble_eq_true rfl⟩ rfl rfl rfl (Nat.le_of_ble_eq_true rfl) ⟨Nat.zero_le _, Nat.zero_le _⟩ (fun H locs hP hD hS => ?_)
        have hP : va_P G vwCl [(jo, .inr (4, [.ref js, .ref jp, .ref ja, .ref jk, .int un, .ref jt, .int uy, .int uw, .ref jb, .int y23, .int y6])), (js, .inl (g 0, 388, .inl us)), (jp, .inl (g 0, 1552, .inl up)), (ja, .inl (g 0, 388, .inl ua)), (jk, .inl (g 0, 97, .inl uk)), (jt, .inl (g 0, 150, .inl ut)), (jb, .inl (g 0, 1000, .inl ub))] H := hP
        have hD : va_D A [(jo, .inr (4, [.ref js, .ref jp, .ref ja, .ref jk, .int un, .ref jt, .int uy, .int uw, .ref jb, .int y23, .int y6])), (js, .inl (g 0, 388, .inl us)), (jp, .inl (g 0, 1552, .inl up)), (ja, .inl (g 0, 388, .inl ua)), (jk, .inl (g 0, 97, .inl uk)), (jt, .inl (g 0, 150, .inl ut)), (jb, .inl (g 0, 1000, .inl ub))] := hD
        refine lv_if_eq (tgt := 165) hx hb dX4_isItem_158 (by decide) (fun c26 => ?_) (fun c26 => ?_)
        · have hq := q_if_t hq c26
          refine lv_iconst (v := 0) hx hb dX4_isItem_165 (by decide) ?_
          exact w_X4_isItem_166 X K hA jo js jp ja jk jt jb un uw up ua uk ub uy y23 y6 us ut v1 v2 x15 x20 0 _ hq _ _ hP hD hS ls (lv_sub hl [3, 4, 5, 1, 0] rfl)
        · have hq := q_if_f hq c26
          refine lv_iconst (v := 1) hx hb dX4_isItem_161 (by decide) ?_
          refine lv_goto (tgt := 166) hx hb dX4_isItem_162 (by decide) ?_
          exact w_X4_isItem_166 X K hA jo js jp ja jk jt jb un uw up ua uk ub uy y23 y6 us ut v1 v2 x15 x20 1 _ hq _ _ hP hD hS ls (lv_sub hl [3, 4, 5, 1, 0] rfl)
      · have hq := q_if_t hq c18
        refine lv_iconst (v := 0) hx hb dX4_isItem_126 (by decide) ?_
        obtain rfl := q_rt hq
        exact rw_zret hx hb hr nz_0 hk hP hD hS dX4_isItem_127
    · have hq := q_if_t hq c14
      refine lv_iconst (v := 0) hx hb dX4_isItem_104 (by decide) ?_
      obtain rfl := q_rt hq
      exact rw_zret hx hb hr nz_0 hk hP hD hS dX4_isItem_105
def F_X4_isItem_54 (uy : Int32) (uq : Int32) (uz : Int32) (us : Nat → Int32) (ut : Nat → Int32) (v1 : Int32) : Option (Int32 × Int32 × Int32 × (Nat → Int32)) := (F_X4_takes uy uq ut 44).bind fun o5 => if o5.1 = 0 then (some (0, o5.2, uz, us)) else ((F_X4_takes uy o5.2 ut 45).bind fun o10 => if o10.1 = 0 then (F_X4_isItem_85 uy o10.2 uz us ut v1 uz 1) else (F_X4_isItem_85 uy o10.2 uz us ut v1 uz (-1)))
set_option maxHeartbeats 4000000 in
set_option maxRecDepth 100000 in
theorem w_X4_isItem_54 {p : Program} {l : Launch} {e : Env} {s : State} {m : MethodId} {args : Array Value} {below : List Frame} {meth : Method} {c : Code} {G : va_G} {g : Nat → ClassId} (X : cx p s m args meth c cX4_isItem 11 (some .boolean) RX4 wsX4_isItem) (K : amb G g s) {A : Nat → Prop} (hA : ∀ q : Nat, s.heap.size ≤ q → A q) (jo js jp ja jk jt jb : Nat) (un : Int32) (uw : Int32) (up : Nat → Int32) (ua : Nat → Int32) (uk : Nat → Int32) (ub : Nat → Int32) (uy : Int32) (uq : Int32) (uz : Int32) (us : Nat → Int32) (ut : Nat → Int32) (v1 : Int32) (res : Int32 × Int32 × Int32 × (Nat → Int32)) (hq : F_X4_isItem_54 uy uq uz us ut v1 = some res) : ∀ (H : Heap) (locs : List Loc), va_P G vwCl [(jo, .inr (4, [.ref js, .ref jp, .ref ja, .ref jk, .int un, .ref jt, .int uy, .int uw, .ref jb, .int uq, .int uz])), (js, .inl (g 0, 388, .inl us)), (jp, .inl (g 0, 1552, .inl up)), (ja, .inl (g 0, 388, .inl ua)), (jk, .inl (g 0, 97, .inl uk)), (jt, .inl (g 0, 150, .inl ut)), (jb, .inl (g 0, 1000, .inl ub))] H → va_D A [(jo, .inr (4, [.ref js, .ref jp, .ref ja, .ref jk, .int un, .ref jt, .int uy, .int uw, .ref jb, .int uq, .int uz])), (js, .inl (g 0, 388, .inl us)), (jp, .inl (g 0, 1552, .inl up)), (ja, .inl (g 0, 388, .inl ua)), (jk, .inl (g 0, 97, .inl uk)), (jt, .inl (g 0, 150, .inl ut)), (jb, .inl (g 0, 1000, .inl ub))] → va_S A s.heap H locs → ∀ (ls : Array Slot), lv_has ls 11 [(0, .ref jo), (1, .int v1)] → W p l e (rmF 3 70) s m args below meth c H locs 0 0 (rwM G A below (some (.int res.1)) [(jo, .inr (4, [.ref js, .ref jp, .ref ja, .ref jk, .int un, .ref jt, .int uy, .int uw, .ref jb, .int res.2.1, .int res.2.2.1])), (js, .inl (g 0, 388, .inl res.2.2.2)), (jp, .inl (g 0, 1552, .inl up)), (ja, .inl (g 0, 388, .inl ua)), (jk, .inl (g 0, 97, .inl uk)), (jt, .inl (g 0, 150, .inl ut)), (jb, .inl (g 0, 1000, .inl ub))] args s) (F0 m 54 ls []) := by
  obtain ⟨hx, hb, hml, hr, hown, hts, hk⟩ := id X
  intro H locs hP hD hS ls hl
  unfold F_X4_isItem_54 at hq
  refine lv_aload_n hx hb dX4_isItem_54 rfl (lv_at hl 0 rfl) ?_
  refine va_get (D := G) (ci := 4) (v := .int uz) (C := RX4) (T := TX4) (N := 11) hx hb hts in_X4_isItem_X4 hown K.1 hP 0 rfl rfl 10 (by decide) (hts _ (List.mem_of_getElem? (i := 2) rfl)) (fun _ h9 => h9) rfl dX4_isItem_55 ?_
  refine lv_istore (lv' := [(4, .int uz), (0, .ref jo), (1, .int v1)]) hx hb dX4_isItem_58 hl (by decide) rfl (fun ls hl => ?_)
  refine lv_aload_n hx hb dX4_isItem_60 rfl (lv_at hl 1 rfl) ?_
  refine lv_bipush (v := 44) hx hb dX4_isItem_61 (by decide) ?_
  obtain ⟨⟨r2, y3⟩, hh4, hq⟩ := q_bd hq
  refine rwV (ci := 4) (wr := []) (As := [.int 44]) (rest := []) X K (k_X4_takes l G g jo js jp ja jk jt jb un uy uw uq uz us up ua uk ut ub 44 _ hh4) hd_X4_takes gX4_isItem_X4_takes hP hD hS hA [0, 1, 2, 3, 4, 5, 6] [] rfl rfl ⟨by decide, by decide, by decide⟩ hl.1 dX4_isItem_63 rfl rfl ⟨Nat.le_of_ble_eq_true rfl, Nat.le_of_ble_eq_true rfl⟩ rfl rfl rfl (Nat.le_of_ble_eq_true rfl) ⟨Nat.zero_le _, Nat.zero_le _⟩ (fun H locs hP hD hS => ?_)
  have hP : va_P G vwCl [(jo, .inr (4, [.ref js, .ref jp, .ref ja, .ref jk, .int un, .ref jt, .int uy, .int uw, .ref jb, .int y3, .int uz])), (js, .inl (g 0, 388, .inl us)), (jp, .inl (g 0, 1552, .inl up)), (ja, .inl (g 0, 388, .inl ua)), (jk, .inl (g 0, 97, .inl uk)), (jt, .inl (g 0, 150, .inl ut)), (jb, .inl (g 0, 1000, .inl ub))] H := hP
  have hD : va_D A [(jo, .inr (4, [.ref js, .ref jp, .ref ja, .ref jk, .int un, .ref jt, .int uy, .int uw, .ref jb, .int y3, .int uz])), (js, .inl (g 0, 388, .inl us)), (jp, .inl (g 0, 1552, .inl up)), (ja, .inl (g 0, 388, .inl ua)), (jk, .inl (g 0, 97, .inl uk)), (jt, .inl (g 0, 150, .inl ut)), (jb, .inl (g 0, 1000, .inl ub))] := hD
  refine lv_if_ne (tgt := 71) hx hb dX4_isItem_66 (by decide) (fun c6 => ?_) (fun c6 => ?_)
  · have hq := q_if_f hq c6
    refine lv_aload_n hx hb dX4_isItem_71 rfl (lv_at hl 1 rfl) ?_
    refine lv_bipush (v := 45) hx hb dX4_isItem_72 (by decide) ?_
    obtain ⟨⟨r7, y8⟩, hh9, hq⟩ := q_bd hq
    refine rwV (ci := 4) (wr := []) (As := [.int 45]) (rest := []) X K (k_X4_takes l G g jo js jp ja jk jt jb un uy uw y3 uz us up ua uk ut ub 45 _ hh9) hd_X4_takes gX4_isItem_X4_takes hP hD hS hA [0, 1, 2, 3, 4, 5, 6] [] rfl rfl ⟨by decide, by decide, by decide⟩ hl.1 dX4_isItem_74 rfl rfl ⟨Nat.le_of_ble_eq_true rfl, Nat.le_of_ble_eq_true rfl⟩ rfl rfl rfl (Nat.le_of_ble_eq_true rfl) ⟨Nat.zero_le _, Nat.zero_le _⟩ (fun H locs hP hD hS => ?_)
    have hP : va_P G vwCl [(jo, .inr (4, [.ref js, .ref jp, .ref ja, .ref jk, .int un, .ref jt, .int uy, .int uw, .ref jb, .int y8, .int uz])), (js, .inl (g 0, 388, .inl us)), (jp, .inl (g 0, 1552, .inl up)), (ja, .inl (g 0, 388, .inl ua)), (jk, .inl (g 0, 97, .inl uk)), (jt, .inl (g 0, 150, .inl ut)), (jb, .inl (g 0, 1000, .inl ub))] H := hP
    have hD : va_D A [(jo, .inr (4, [.ref js, .ref jp, .ref ja, .ref jk, .int un, .ref jt, .int uy, .int uw, .ref jb, .int y8, .int uz])), (js, .inl (g 0, 388, .inl us)), (jp, .inl (g 0, 1552, .inl up)), (ja, .inl (g 0, 388, .inl ua)), (jk, .inl (g 0, 97, .inl uk)), (jt, .inl (g 0, 150, .inl ut)), (jb, .inl (g 0, 1000, .inl ub))] := hD
    refine lv_if_eq (tgt := 84) hx hb dX4_isItem_77 (by decide) (fun c11 => ?_) (fun c11 => ?_)
    · have hq := q_if_t hq c11
      refine lv_iconst (v := 1) hx hb dX4_isItem_84 (by decide) ?_
      exact w_X4_isItem_85 X K hA jo js jp ja jk jt jb un uw up ua uk ub uy y8 uz us ut v1 uz 1 _ hq _ _ hP hD hS ls (lv_sub hl [1, 2, 0] rfl)
    · have hq := q_if_f hq c11
      refine lv_iconst (v := (-1)) hx hb dX4_isItem_80 (by decide) ?_
      refine lv_goto (tgt := 85) hx hb dX4_isItem_81 (by decide) ?_
      exact w_X4_isItem_85 X K hA jo js jp ja jk jt jb un uw up ua uk ub uy y8 uz us ut v1 uz (-1) _ hq _ _ hP hD hS ls (lv_sub hl [1, 2, 0] rfl)
  · have hq := q_if_t hq c6
    refine lv_iconst (v := 0) hx hb dX4_isItem_69 (by decide) ?_
    obtain rfl := q_rt hq
    exact rw_zret hx hb hr nz_0 hk hP hD hS dX4_isItem_70
def F_X4_isItem (uy : Int32) (uq : Int32) (uz : Int32) (us : Nat → Int32) (ut : Nat → Int32) (p1 : Int32) : Option (Int32 × Int32 × Int32 × (Nat → Int32)) := (F_X4_many us p1).bind fun r1 => if r1 = 16 then (some (0, uq, uz, us)) else ((F_X4_isNumber uy uq uz ut 3).bind fun o8 => if o8.1 = 0 then (some (0, o8.2.1, o8.2.2, us)) else (if r1 ≤ 0 then (F_X4_isItem_54 uy o8.2.1 o8.2.2 us ut p1) else ((F_X4_of us p1 (r1 - 1) 0).bind fun r11 => if r11 < o8.2.2 then (F_X4_isItem_54 uy o8.2.1 o8.2.2 us ut p1) else (some (0, uq, o8.2.2, us)))))
set_option maxHeartbeats 4000000 in
set_option maxRecDepth 100000 in
theorem k_X4_isItem (l : Launch) (G : va_G) (g : Nat → ClassId) (jo js jp ja jk jt jb : Nat) (un : Int32) (uy : Int32) (uw : Int32) (uq : Int32) (uz : Int32) (us : Nat → Int32) (up : Nat → Int32) (ua : Nat → Int32) (uk : Nat → Int32) (ut : Nat → Int32) (ub : Nat → Int32) (p1 : Int32) (res : Int32 × Int32 × Int32 × (Nat → Int32)) (hq : F_X4_isItem uy uq uz us ut p1 = some res) : rwC l yX4_isItem wsX4_isItem (rmF 3 70) G g [.ref jo, .int p1] [(jo, .inr (4, [.ref js, .ref jp, .ref ja, .ref jk, .int un, .ref jt, .int uy, .int uw, .ref jb, .int uq, .int uz])), (js, .inl (g 0, 388, .inl us)), (jp, .inl (g 0, 1552, .inl up)), (ja, .inl (g 0, 388, .inl ua)), (jk, .inl (g 0, 97, .inl uk)), (jt, .inl (g 0, 150, .inl ut)), (jb, .inl (g 0, 1000, .inl ub))] (some (.int res.1)) [(jo, .inr (4, [.ref js, .ref jp, .ref ja, .ref jk, .int un, .ref jt, .int uy, .int uw, .ref jb, .int res.2.1, .int res.2.2.1])), (js, .inl (g 0, 388, .inl res.2.2.2)), (jp, .inl (g 0, 1552, .inl up)), (ja, .inl (g 0, 388, .inl ua)), (jk, .inl (g 0, 97, .inl uk)), (jt, .inl (g 0, 150, .inl ut)), (jb, .inl (g 0, 1000, .inl ub))] := by
  refine rwC.of (cc := cX4_isItem) (maxL := 11) (ret := (some .boolean)) (by decide) rfl (Nat.le_of_ble_eq_true rfl) ?_
  intro p e s m below meth c ls A X K hA hP hD hS hl
  obtain ⟨hx, hb, hml, hr, hown, hts, hk⟩ := id X
  have hl : lv_has ls 11 [(0, .ref jo), (1, .int p1)] := hl
  unfold F_X4_isItem at hq
  refine lv_aload_n hx hb dX4_isItem_0 rfl (lv_at hl 0 rfl) ?_
  refine va_get (D := G) (ci := 4) (v := .int uq) (C := RX4) (T := TX4) (N := 11) hx hb hts in_X4_isItem_X4 hown K.1 hP 0 rfl rfl 9 (by decide) (hts _ (List.mem_of_getElem? (i := 1) rfl)) (fun _ h9 => h9) rfl dX4_isItem_1 ?_
  refine lv_istore_n (lv' := [(2, .int uq), (0, .ref jo), (1, .int p1)]) hx hb dX4_isItem_4 rfl hl (by decide) rfl (fun ls hl => ?_)
  refine lv_aload_n hx hb dX4_isItem_5 rfl (lv_at hl 1 rfl) ?_
  refine lv_iload_n hx hb dX4_isItem_6 rfl (lv_at hl 2 rfl) ?_
  obtain ⟨r1, hh2, hq⟩ := q_bd hq
  refine roV (ci := 4) (As := [.int p1]) (rest := []) X K (k_X4_many l G g jo js jp ja jk jt jb un uy uw uq uz us up ua uk ut ub p1 _ hh2) hd_X4_many gX4_isItem_X4_many hP hl.1 dX4_isItem_7 rfl rfl ⟨Nat.le_of_ble_eq_true rfl, Nat.le_of_ble_eq_true rfl⟩ rfl rfl rfl (Nat.le_of_ble_eq_true rfl) ⟨Nat.zero_le _, Nat.zero_le _⟩ ?_
  refine lv_istore_n (lv' := [(3, .int r1), (2, .int uq), (0, .ref jo), (1, .int p1)]) hx hb dX4_isItem_10 rfl hl (by decide) rfl (fun ls hl => ?_)
  refine lv_iload_n hx hb dX4_isItem_11 rfl (lv_at hl 0 rfl) ?_
  refine lv_bipush (v := 16) hx hb dX4_isItem_12 (by decide) ?_
  refine lv_icmp_eq (tgt := 25) hx hb dX4_isItem_14 (by decide) (fun c3 => ?_) (fun c3 => ?_)
  · have hq := q_if_t hq c3
    refine lv_iconst (v := 0) hx hb dX4_isItem_25 (by decide) ?_
    obtain rfl := q_rt hq
    exact rw_zret hx hb hr nz_0 hk hP hD hS dX4_isItem_26
  · have hq := q_if_f hq c3
    refine lv_aload_n hx hb dX4_isItem_17 rfl (lv_at hl 2 rfl) ?_
    refine lv_iconst (v := 3) hx hb dX4_isItem_18 (by decide) ?_
    obtain ⟨⟨r4, y5, y6⟩, hh7, hq⟩ := q_bd hq
    refine rwV (ci := 4) (wr := []) (As := [.int 3]) (rest := []) X K (k_X4_isNumber l G g jo js jp ja jk jt jb un uy uw uq uz us up ua uk ut ub 3 _ hh7) hd_X4_isNumber gX4_isItem_X4_isNumber hP hD hS hA [0, 1, 2, 3, 4, 5, 6] [] rfl rfl ⟨by decide, by decide, by decide⟩ hl.1 dX4_isItem_19 rfl rfl ⟨Nat.le_of_ble_eq_true rfl, Nat.le_of_ble_eq_true rfl⟩ rfl rfl rfl (Nat.le_of_ble_eq_true rfl) ⟨Nat.zero_le _, Nat.zero_le _⟩ (fun H locs hP hD hS => ?_)
    have hP : va_P G vwCl [(jo, .inr (4, [.ref js, .ref jp, .ref ja, .ref jk, .int un, .ref jt, .int uy, .int uw, .ref jb, .int y5, .int y6])), (js, .inl (g 0, 388, .inl us)), (jp, .inl (g 0, 1552, .inl up)), (ja, .inl (g 0, 388, .inl ua)), (jk, .inl (g 0, 97, .inl uk)), (jt, .inl (g 0, 150, .inl ut)), (jb, .inl (g 0, 1000, .inl ub))] H := hP
    have hD : va_D A [(jo, .inr (4, [.ref js, .ref jp, .ref ja, .ref jk, .int un, .ref jt, .int uy, .int uw, .ref jb, .int y5, .int y6])), (js, .inl (g 0, 388, .inl us)), (jp, .inl (g 0, 1552, .inl up)), (ja, .inl (g 0, 388, .inl ua)), (jk, .inl (g 0, 97, .inl uk)), (jt, .inl (g 0, 150, .inl ut)), (jb, .inl (g 0, 1000, .inl ub))] := hD
    refine lv_if_ne (tgt := 27) hx hb dX4_isItem_22 (by decide) (fun c9 => ?_) (fun c9 => ?_)
    · have hq := q_if_f hq c9
      refine lv_iload_n hx hb dX4_isItem_27 rfl (lv_at hl 0 rfl) ?_
      refine lv_if_le (tgt := 54) hx hb dX4_isItem_28 (by decide) (fun c10 => ?_) (fun c10 => ?_)
      · have hq := q_if_t hq c10
        exact w_X4_isItem_54 X K hA jo js jp ja jk jt jb un uw up ua uk ub uy y5 y6 us ut p1 _ hq _ _ hP hD hS ls (lv_sub hl [2, 3] rfl)
      · have hq := q_if_f hq c10
        refine lv_aload_n hx hb dX4_isItem_31 rfl (lv_at hl 2 rfl) ?_
        refine va_get (D := G) (ci := 4) (v := .int y6) (C := RX4) (T := TX4) (N := 11) hx hb hts in_X4_isItem_X4 hown K.1 hP 0 rfl rfl 10 (by decide) (hts _ (List.mem_of_getElem? (i := 2) rfl)) (fun _ h9 => h9) rfl dX4_isItem_32 ?_
        refine lv_aload_n hx hb dX4_isItem_35 rfl (lv_at hl 2 rfl) ?_
        refine lv_iload_n hx hb dX4_isItem_36 rfl (lv_at hl 3 rfl) ?_
        refine lv_iload_n hx hb dX4_isItem_37 rfl (lv_at hl 0 rfl) ?_
        refine lv_iconst (v := 1) hx hb dX4_isItem_38 (by decide) ?_
        refine lv_isub hx hb dX4_isItem_39 ?_
        refine lv_iconst (v := 0) hx hb dX4_isItem_40 (by decide) ?_
        obtain ⟨r11, hh12, hq⟩ := q_bd hq
        refine roV (ci := 4) (As := [.int p1, .int (r1 - 1), .int 0]) (rest := [.int y6]) X K (k_X4_of l G g jo js jp ja jk jt jb un uy uw y5 y6 us up ua uk ut ub p1 (r1 - 1) 0 _ hh12) hd_X4_of gX4_isItem_X4_of hP hl.1 dX4_isItem_41 rfl rfl ⟨Nat.le_of_ble_eq_true rfl, Nat.le_of_ble_eq_true rfl⟩ rfl rfl rfl (Nat.le_of_ble_eq_true rfl) ⟨Nat.zero_le _, Nat.zero_le _⟩ ?_
        refine lv_icmp_gt (tgt := 54) hx hb dX4_isItem_44 (by decide) (fun c13 => ?_) (fun c13 => ?_)
        · have hq := q_if_t hq c13
          exact w_X4_isItem_54 X K hA jo js jp ja jk jt jb un uw up ua uk ub uy y5 y6 us ut p1 _ hq _ _ hP hD hS ls (lv_sub hl [2, 3] rfl)
        · have hq := q_if_f hq c13
          refine lv_aload_n hx hb dX4_isItem_47 rfl (lv_at hl 2 rfl) ?_
          refine lv_iload_n hx hb dX4_isItem_48 rfl (lv_at hl 1 rfl) ?_
          refine va_put (D := G) (ci := 4) (v := .int uq) (ty := .int) (C := RX4) (T := TX4) (N := 11) hx hb hts in_X4_isItem_X4 tyX4 tyX4_ok nmX4 hown K.1 hP hD hS 0 rfl rfl 9 (by decide) (hts _ (List.mem_of_getElem? (i := 1) rfl)) (fun _ h9 => h9) rfl (by decide +kernel) rfl rfl (Nat.le_of_ble_eq_true rfl) dX4_isItem_49 (fun H locs hP hD hS => ?_)
          have hP : va_P G vwCl [(jo, .inr (4, [.ref js, .ref jp, .ref ja, .ref jk, .int un, .ref jt, .int uy, .int uw, .ref jb, .int uq, .int y6])), (js, .inl (g 0, 388, .inl us)), (jp, .inl (g 0, 1552, .inl up)), (ja, .inl (g 0, 388, .inl ua)), (jk, .inl (g 0, 97, .inl uk)), (jt, .inl (g 0, 150, .inl ut)), (jb, .inl (g 0, 1000, .inl ub))] H := hP
          have hD : va_D A [(jo, .inr (4, [.ref js, .ref jp, .ref ja, .ref jk, .int un, .ref jt, .int uy, .int uw, .ref jb, .int uq, .int y6])), (js, .inl (g 0, 388, .inl us)), (jp, .inl (g 0, 1552, .inl up)), (ja, .inl (g 0, 388, .inl ua)), (jk, .inl (g 0, 97, .inl uk)), (jt, .inl (g 0, 150, .inl ut)), (jb, .inl (g 0, 1000, .inl ub))] := hD
          refine lv_iconst (v := 0) hx hb dX4_isItem_52 (by decide) ?_
          obtain rfl := q_rt hq
          exact rw_zret hx hb hr nz_0 hk hP hD hS dX4_isItem_53
    · have hq := q_if_t hq c9
      refine lv_iconst (v := 0) hx hb dX4_isItem_25 (by decide) ?_
      obtain rfl := q_rt hq
      exact rw_zret hx hb hr nz_0 hk hP hD hS dX4_isItem_26
theorem hd_X4_ends : ynm yX4_ends 1 := by unfold ynm; decide +kernel
theorem hd_X4_fails : ynm yX4_fails 1 := by unfold ynm; decide +kernel
theorem hd_X4_hold : ynm yX4_hold 0 := by unfold ynm; decide +kernel
theorem hd_X4_isValue : ynm yX4_isValue 1 := by unfold ynm; decide +kernel
theorem hd_X4_keyAt : ynm yX4_keyAt 2 := by unfold ynm; decide +kernel
def F_X4_addKey (un : Int32) (uw : Int32) (us : Nat → Int32) (up : Nat → Int32) (ua : Nat → Int32) (p1 : Int32) (p2 : Int32) (p3 : Int32) (p4 : Int32) : Option (Int32 × Int32 × Int32 × (Nat → Int32) × (Nat → Int32) × (Nat → Int32)) := (F_X4_isCurve p1).bind fun r1 => if r1 = 0 then ((F_X4_fails uw 1).bind fun o54 => some (o54.1, un, o54.2, us, up, ua)) else ((F_X4_isFrame p2).bind fun r4 => if r4 = 0 then ((F_X4_fails uw 2).bind fun o10 => some (o10.1, un, o10.2, us, up, ua)) else ((F_X4_isValue p3).bind fun r11 => if r11 = 0 then ((F_X4_fails uw 2).bind fun o17 => some (o17.1, un, o17.2, us, up, ua)) else ((F_X4_in p4 0 5).bind fun r18 => if r18 = 0 then ((F_X4_fails uw 2).bind fun o50 => some (o50.1, un, o50.2, us, up, ua)) else ((F_X4_many us p1).bind fun r21 => if r21 = 16 then ((F_X4_fails uw 3).bind fun o27 => some (o27.1, un, o27.2, us, up, ua)) else ((F_X4_keyAt us p1 p2).bind fun r28 => if r28 = (-1) then ((F_X4_hold us ua).bind fun y31 => (F_X4_comes us p1 p2 p3 p4).bind fun o36 => (F_X4_ends un uw up y31 o36.1).bind fun o42 => some (o42.1, o42.2.1, o42.2.2.1, o36.2, o42.2.2.2, y31)) else ((F_X4_fails uw 3).bind fun o46 => some (o46.1, un, o46.2, us, up, ua)))))))
set_option maxHeartbeats 4000000 in
set_option maxRecDepth 100000 in
theorem k_X4_addKey (l : Launch) (G : va_G) (g : Nat → ClassId) (jo js jp ja jk jt jb : Nat) (un : Int32) (uy : Int32) (uw : Int32) (uq : Int32) (uz : Int32) (us : Nat → Int32) (up : Nat → Int32) (ua : Nat → Int32) (uk : Nat → Int32) (ut : Nat → Int32) (ub : Nat → Int32) (p1 : Int32) (p2 : Int32) (p3 : Int32) (p4 : Int32) (res : Int32 × Int32 × Int32 × (Nat → Int32) × (Nat → Int32) × (Nat → Int32)) (hq : F_X4_addKey un uw us up ua p1 p2 p3 p4 = some res) : rwC l yX4_addKey wsX4_addKey (rmF 3 70) G g [.ref jo, .int p1, .int p2, .int p3, .int p4] [(jo, .inr (4, [.ref js, .ref jp, .ref ja, .ref jk, .int un, .ref jt, .int uy, .int uw, .ref jb, .int uq, .int uz])), (js, .inl (g 0, 388, .inl us)), (jp, .inl (g 0, 1552, .inl up)), (ja, .inl (g 0, 388, .inl ua)), (jk, .inl (g 0, 97, .inl uk)), (jt, .inl (g 0, 150, .inl ut)), (jb, .inl (g 0, 1000, .inl ub))] (some (.int res.1)) [(jo, .inr (4, [.ref js, .ref jp, .ref ja, .ref jk, .int res.2.1, .ref jt, .int uy, .int res.2.2.1, .ref jb, .int uq, .int uz])), (js, .inl (g 0, 388, .inl res.2.2.2.1)), (jp, .inl (g 0, 1552, .inl res.2.2.2.2.1)), (ja, .inl (g 0, 388, .inl res.2.2.2.2.2)), (jk, .inl (g 0, 97, .inl uk)), (jt, .inl (g 0, 150, .inl ut)), (jb, .inl (g 0, 1000, .inl ub))] := by
  refine rwC.of (cc := cX4_addKey) (maxL := 5) (ret := (some .int)) (by decide) rfl (Nat.le_of_ble_eq_true rfl) ?_
  intro p e s m below meth c ls A X K hA hP hD hS hl
  obtain ⟨hx, hb, hml, hr, hown, hts, hk⟩ := id X
  have hl : lv_has ls 5 [(0, .ref jo), (1, .int p1), (2, .int p2), (3, .int p3), (4, .int p4)] := hl
  unfold F_X4_addKey at hq
  refine lv_iload_n hx hb dX4_addKey_0 rfl (lv_at hl 1 rfl) ?_
  obtain ⟨r1, hh2, hq⟩ := q_bd hq
  refine roS (As := [.int p1]) (rest := []) X K (k_X4_isCurve l G g p1 _ hh2) hd_X4_isCurve gX4_addKey_X4_isCurve (hP.sub [] rfl) hl.1 dX4_addKey_1 rfl rfl ⟨Nat.le_of_ble_eq_true rfl, Nat.le_of_ble_eq_true rfl⟩ rfl (Nat.le_of_ble_eq_true rfl) ⟨Nat.zero_le _, Nat.zero_le _⟩ ?_
  refine lv_if_ne (tgt := 13) hx hb dX4_addKey_4 (by decide) (fun c3 => ?_) (fun c3 => ?_)
  · have hq := q_if_f hq c3
    refine lv_iload_n hx hb dX4_addKey_13 rfl (lv_at hl 2 rfl) ?_
    obtain ⟨r4, hh5, hq⟩ := q_bd hq
    refine roS (As := [.int p2]) (rest := []) X K (k_X4_isFrame l G g p2 _ hh5) hd_X4_isFrame gX4_addKey_X4_isFrame (hP.sub [] rfl) hl.1 dX4_addKey_14 rfl rfl ⟨Nat.le_of_ble_eq_true rfl, Nat.le_of_ble_eq_true rfl⟩ rfl (Nat.le_of_ble_eq_true rfl) ⟨Nat.zero_le _, Nat.zero_le _⟩ ?_
    refine lv_if_eq (tgt := 37) hx hb dX4_addKey_17 (by decide) (fun c6 => ?_) (fun c6 => ?_)
    · have hq := q_if_t hq c6
      refine lv_aload_n hx hb dX4_addKey_37 rfl (lv_at hl 0 rfl) ?_
      refine lv_iconst (v := 2) hx hb dX4_addKey_38 (by decide) ?_
      obtain ⟨⟨r7, y8⟩, hh9, hq⟩ := q_bd hq
      refine rwV (ci := 4) (wr := []) (As := [.int 2]) (rest := []) X K (k_X4_fails l G g jo js jp ja jk jt jb un uy uw uq uz us up ua uk ut ub 2 _ hh9) hd_X4_fails gX4_addKey_X4_fails hP hD hS hA [0, 1, 2, 3, 4, 5, 6] [] rfl rfl ⟨by decide, by decide, by decide⟩ hl.1 dX4_addKey_39 rfl rfl ⟨Nat.le_of_ble_eq_true rfl, Nat.le_of_ble_eq_true rfl⟩ rfl rfl rfl (Nat.le_of_ble_eq_true rfl) ⟨Nat.zero_le _, Nat.zero_le _⟩ (fun H locs hP hD hS => ?_)
      have hP : va_P G vwCl [(jo, .inr (4, [.ref js, .ref jp, .ref ja, .ref jk, .int un, .ref jt, .int uy, .int y8, .ref jb, .int uq, .int uz])), (js, .inl (g 0, 388, .inl us)), (jp, .inl (g 0, 1552, .inl up)), (ja, .inl (g 0, 388, .inl ua)), (jk, .inl (g 0, 97, .inl uk)), (jt, .inl (g 0, 150, .inl ut)), (jb, .inl (g 0, 1000, .inl ub))] H := hP
      have hD : va_D A [(jo, .inr (4, [.ref js, .ref jp, .ref ja, .ref jk, .int un, .ref jt, .int uy, .int y8, .ref jb, .int uq, .int uz])), (js, .inl (g 0, 388, .inl us)), (jp, .inl (g 0, 1552, .inl up)), (ja, .inl (g 0, 388, .inl ua)), (jk, .inl (g 0, 97, .inl uk)), (jt, .inl (g 0, 150, .inl ut)), (jb, .inl (g 0, 1000, .inl ub))] := hD
      obtain rfl := q_rt hq
      exact rw_iret hx hb hr hk hP hD hS dX4_addKey_42
    · have hq := q_if_f hq c6
      refine lv_iload_n hx hb dX4_addKey_20 rfl (lv_at hl 3 rfl) ?_
      obtain ⟨r11, hh12, hq⟩ := q_bd hq
      refine roS (As := [.int p3]) (rest := []) X K (k_X4_isValue l G g p3 _ hh12) hd_X4_isValue gX4_addKey_X4_isValue (hP.sub [] rfl) hl.1 dX4_addKey_21 rfl rfl ⟨Nat.le_of_ble_eq_true rfl, Nat.le_of_ble_eq_true rfl⟩ rfl (Nat.le_of_ble_eq_true rfl) ⟨Nat.zero_le _, Nat.zero_le _⟩ ?_
      refine lv_if_eq (tgt := 37) hx hb dX4_addKey_24 (by decide) (fun c13 => ?_) (fun c13 => ?_)
      · have hq := q_if_t hq c13
        refine lv_aload_n hx hb dX4_addKey_37 rfl (lv_at hl 0 rfl) ?_
        refine lv_iconst (v := 2) hx hb dX4_addKey_38 (by decide) ?_
        obtain ⟨⟨r14, y15⟩, hh16, hq⟩ := q_bd hq
        refine rwV (ci := 4) (wr := []) (As := [.int 2]) (rest := []) X K (k_X4_fails l G g jo js jp ja jk jt jb un uy uw uq uz us up ua uk ut ub 2 _ hh16) hd_X4_fails gX4_addKey_X4_fails hP hD hS hA [0, 1, 2, 3, 4, 5, 6] [] rfl rfl ⟨by decide, by decide, by decide⟩ hl.1 dX4_addKey_39 rfl rfl ⟨Nat.le_of_ble_eq_true rfl, Nat.le_of_ble_eq_true rfl⟩ rfl rfl rfl (Nat.le_of_ble_eq_true rfl) ⟨Nat.zero_le _, Nat.zero_le _⟩ (fun H locs hP hD hS => ?_)
        have hP : va_P G vwCl [(jo, .inr (4, [.ref js, .ref jp, .ref ja, .ref jk, .int un, .ref jt, .int uy, .int y15, .ref jb, .int uq, .int uz])), (js, .inl (g 0, 388, .inl us)), (jp, .inl (g 0, 1552, .inl up)), (ja, .inl (g 0, 388, .inl ua)), (jk, .inl (g 0, 97, .inl uk)), (jt, .inl (g 0, 150, .inl ut)), (jb, .inl (g 0, 1000, .inl ub))] H := hP
        have hD : va_D A [(jo, .inr (4, [.ref js, .ref jp, .ref ja, .ref jk, .int un, .ref jt, .int uy, .int y15, .ref jb, .int uq, .int uz])), (js, .inl (g 0, 388, .inl us)), (jp, .inl (g 0, 1552, .inl up)), (ja, .inl (g 0, 388, .inl ua)), (jk, .inl (g 0, 97, .inl uk)), (jt, .inl (g 0, 150, .inl ut)), (jb, .inl (g 0, 1000, .inl ub))] := hD
        obtain rfl := q_rt hq
        exact rw_iret hx hb hr hk hP hD hS dX4_addKey_42
      · have hq := q_if_f hq c13
        refine lv_iload hx hb dX4_addKey_27 (lv_at hl 4 rfl) ?_
        refine lv_iconst (v := 0) hx hb dX4_addKey_29 (by decide) ?_
        refine lv_iconst (v := 5) hx hb dX4_addKey_30 (by decide) ?_
        obtain ⟨r18, hh19, hq⟩ := q_bd hq
        refine roS (As := [.int p4, .int 0, .int 5]) (rest := []) X K (k_X4_in l G g p4 0 5 _ hh19) hd_X4_in gX4_addKey_X4_in (hP.sub [] rfl) hl.1 dX4_addKey_31 rfl rfl ⟨Nat.le_of_ble_eq_true rfl, Nat.le_of_ble_eq_true rfl⟩ rfl (Nat.le_of_ble_eq_true rfl) ⟨Nat.zero_le _, Nat.zero_le _⟩ ?_
        refine lv_if_ne (tgt := 43) hx hb dX4_addKey_34 (by decide) (fun c20 => ?_) (fun c20 => ?_)
        · have hq := q_if_f hq c20
          refine lv_aload_n hx hb dX4_addKey_43 rfl (lv_at hl 0 rfl) ?_
          refine lv_iload_n hx hb dX4_addKey_44 rfl (lv_at hl 1 rfl) ?_
          obtain ⟨r21, hh22, hq⟩ := q_bd hq
          refine roV (ci := 4) (As := [.int p1]) (rest := []) X K (k_X4_many l G g jo js jp ja jk jt jb un uy uw uq uz us up ua uk ut ub p1 _ hh22) hd_X4_many gX4_addKey_X4_many hP hl.1 dX4_addKey_45 rfl rfl ⟨Nat.le_of_ble_eq_true rfl, Nat.le_of_ble_eq_true rfl⟩ rfl rfl rfl (Nat.le_of_ble_eq_true rfl) ⟨Nat.zero_le _, Nat.zero_le _⟩ ?_
          refine lv_bipush (v := 16) hx hb dX4_addKey_48 (by decide) ?_
          refine lv_icmp_eq (tgt := 63) hx hb dX4_addKey_50 (by decide) (fun c23 => ?_) (fun c23 => ?_)
          · have hq := q_if_t hq c23
            refine lv_aload_n hx hb dX4_addKey_63 rfl (lv_at hl 0 rfl) ?_
            refine lv_iconst (v := 3) hx hb dX4_addKey_64 (by decide) ?_
            obtain ⟨⟨r24, y25⟩, hh26, hq⟩ := q_bd hq
            refine rwV (ci := 4) (wr := []) (As := [.int 3]) (rest := []) X K (k_X4_fails l G g jo js jp ja jk jt jb un uy uw uq uz us up ua uk ut ub 3 _ hh26) hd_X4_fails gX4_addKey_X4_fails hP hD hS hA [0, 1, 2, 3, 4, 5, 6] [] rfl rfl ⟨by decide, by decide, by decide⟩ hl.1 dX4_addKey_65 rfl rfl ⟨Nat.le_of_ble_eq_true rfl, Nat.le_of_ble_eq_true rfl⟩ rfl rfl rfl (Nat.le_of_ble_eq_true rfl) ⟨Nat.zero_le _, Nat.zero_le _⟩ (fun H locs hP hD hS => ?_)
            have hP : va_P G vwCl [(jo, .inr (4, [.ref js, .ref jp, .ref ja, .ref jk, .int un, .ref jt, .int uy, .int y25, .ref jb, .int uq, .int uz])), (js, .inl (g 0, 388, .inl us)), (jp, .inl (g 0, 1552, .inl up)), (ja, .inl (g 0, 388, .inl ua)), (jk, .inl (g 0, 97, .inl uk)), (jt, .inl (g 0, 150, .inl ut)), (jb, .inl (g 0, 1000, .inl ub))] H := hP
            have hD : va_D A [(jo, .inr (4, [.ref js, .ref jp, .ref ja, .ref jk, .int un, .ref jt, .int uy, .int y25, .ref jb, .int uq, .int uz])), (js, .inl (g 0, 388, .inl us)), (jp, .inl (g 0, 1552, .inl up)), (ja, .inl (g 0, 388, .inl ua)), (jk, .inl (g 0, 97, .inl uk)), (jt, .inl (g 0, 150, .inl ut)), (jb, .inl (g 0, 1000, .inl ub))] := hD
            obtain rfl := q_rt hq
            exact rw_iret hx hb hr hk hP hD hS dX4_addKey_68
          · have hq := q_if_f hq c23
            refine lv_aload_n hx hb dX4_addKey_53 rfl (lv_at hl 0 rfl) ?_
            refine lv_iload_n hx hb dX4_addKey_54 rfl (lv_at hl 1 rfl) ?_
            refine lv_iload_n hx hb dX4_addKey_55 rfl (lv_at hl 2 rfl) ?_
            obtain ⟨r28, hh29, hq⟩ := q_bd hq
            refine roV (ci := 4) (As := [.int p1, .int p2]) (rest := []) X K (k_X4_keyAt l G g jo js jp ja jk jt jb un uy uw uq uz us up ua uk ut ub p1 p2 _ hh29) hd_X4_keyAt gX4_addKey_X4_keyAt hP hl.1 dX4_addKey_56 rfl rfl ⟨Nat.le_of_ble_eq_true rfl, Nat.le_of_ble_eq_true rfl⟩ rfl rfl rfl (Nat.le_of_ble_eq_true rfl) ⟨Nat.zero_le _, Nat.zero_le _⟩ ?_
            refine lv_iconst (v := (-1)) hx hb dX4_addKey_59 (by decide) ?_
            refine lv_icmp_eq (tgt := 69) hx hb dX4_addKey_60 (by decide) (fun c30 => ?_) (fun c30 => ?_)
            · have hq := q_if_t hq c30
              refine lv_aload_n hx hb dX4_addKey_69 rfl (lv_at hl 0 rfl) ?_
              obtain ⟨y31, hh32, hq⟩ := q_bd hq
              refine rwV (ci := 4) (wr := []) (As := []) (rest := []) X K (k_X4_hold l G g jo js jp ja jk jt jb un uy uw uq uz us up ua uk ut ub _ hh32) hd_X4_hold gX4_addKey_X4_hold hP hD hS hA [0, 1, 2, 3, 4, 5, 6] [] rfl rfl ⟨by decide, by decide, by decide⟩ hl.1 dX4_addKey_70 rfl rfl ⟨Nat.le_of_ble_eq_true rfl, Nat.le_of_ble_eq_true rfl⟩ rfl rfl rfl (Nat.le_of_ble_eq_true rfl) ⟨Nat.zero_le _, Nat.zero_le _⟩ (fun H locs hP hD hS => ?_)
              have hP : va_P G vwCl [(jo, .inr (4, [.ref js, .ref jp, .ref ja, .ref jk, .int un, .ref jt, .int uy, .int uw, .ref jb, .int uq, .int uz])), (js, .inl (g 0, 388, .inl us)), (jp, .inl (g 0, 1552, .inl up)), (ja, .inl (g 0, 388, .inl y31)), (jk, .inl (g 0, 97, .inl uk)), (jt, .inl (g 0, 150, .inl ut)), (jb, .inl (g 0, 1000, .inl ub))] H := hP
              have hD : va_D A [(jo, .inr (4, [.ref js, .ref jp, .ref ja, .ref jk, .int un, .ref jt, .int uy, .int uw, .ref jb, .int uq, .int uz])), (js, .inl (g 0, 388, .inl us)), (jp, .inl (g 0, 1552, .inl up)), (ja, .inl (g 0, 388, .inl y31)), (jk, .inl (g 0, 97, .inl uk)), (jt, .inl (g 0, 150, .inl ut)), (jb, .inl (g 0, 1000, .inl ub))] := hD
              refine lv_aload_n hx hb dX4_addKey_73 rfl (lv_at hl 0 rfl) ?_
              refine lv_aload_n hx hb dX4_addKey_74 rfl (lv_at hl 0 rfl) ?_
              refine lv_iload_n hx hb dX4_addKey_75 rfl (lv_at hl 1 rfl) ?_
              refine lv_iload_n hx hb dX4_addKey_76 rfl (lv_at hl 2 rfl) ?_
              refine lv_iload_n hx hb dX4_addKey_77 rfl (lv_at hl 3 rfl) ?_
              refine lv_iload hx hb dX4_addKey_78 (lv_at hl 4 rfl) ?_
              obtain ⟨⟨r33, y34⟩, hh35, hq⟩ := q_bd hq
              refine rwV (ci := 4) (wr := []) (As := [.int p1, .int p2, .int p3, .int p4]) (rest := [.ref jo]) X K (k_X4_comes l G g jo js jp ja jk jt jb un uy uw uq uz us up y31 uk ut ub p1 p2 p3 p4 _ hh35) hd_X4_comes gX4_addKey_X4_comes hP hD hS hA [0, 1, 2, 3, 4, 5, 6] [] rfl rfl ⟨by decide, by decide, by decide⟩ hl.1 dX4_addKey_80 rfl rfl ⟨Nat.le_of_ble_eq_true rfl, Nat.le_of_ble_eq_true rfl⟩ rfl rfl rfl (Nat.le_of_ble_eq_true rfl) ⟨Nat.zero_le _, Nat.zero_le _⟩ (fun H locs hP hD hS => ?_)
              have hP : va_P G vwCl [(jo, .inr (4, [.ref js, .ref jp, .ref ja, .ref jk, .int un, .ref jt, .int uy, .int uw, .ref jb, .int uq, .int uz])), (js, .inl (g 0, 388, .inl y34)), (jp, .inl (g 0, 1552, .inl up)), (ja, .inl (g 0, 388, .inl y31)), (jk, .inl (g 0, 97, .inl uk)), (jt, .inl (g 0, 150, .inl ut)), (jb, .inl (g 0, 1000, .inl ub))] H := hP
              have hD : va_D A [(jo, .inr (4, [.ref js, .ref jp, .ref ja, .ref jk, .int un, .ref jt, .int uy, .int uw, .ref jb, .int uq, .int uz])), (js, .inl (g 0, 388, .inl y34)), (jp, .inl (g 0, 1552, .inl up)), (ja, .inl (g 0, 388, .inl y31)), (jk, .inl (g 0, 97, .inl uk)), (jt, .inl (g 0, 150, .inl ut)), (jb, .inl (g 0, 1000, .inl ub))] := hD
              obtain ⟨⟨r37, y38, y39, y40⟩, hh41, hq⟩ := q_bd hq
              refine rwV (ci := 4) (wr := []) (As := [.int r33]) (rest := []) X K (k_X4_ends l G g jo js jp ja jk jt jb un uy uw uq uz y34 up y31 uk ut ub r33 _ hh41) hd_X4_ends gX4_addKey_X4_ends hP hD hS hA [0, 1, 2, 3, 4, 5, 6] [] rfl rfl ⟨by decide, by decide, by decide⟩ hl.1 dX4_addKey_83 rfl rfl ⟨Nat.le_of_ble_eq_true rfl, Nat.le_of_ble_eq_true rfl⟩ rfl rfl rfl (Nat.le_of_ble_eq_true rfl) ⟨Nat.zero_le _, Nat.zero_le _⟩ (fun H locs hP hD hS => ?_)
              have hP : va_P G vwCl [(jo, .inr (4, [.ref js, .ref jp, .ref ja, .ref jk, .int y38, .ref jt, .int uy, .int y39, .ref jb, .int uq, .int uz])), (js, .inl (g 0, 388, .inl y34)), (jp, .inl (g 0, 1552, .inl y40)), (ja, .inl (g 0, 388, .inl y31)), (jk, .inl (g 0, 97, .inl uk)), (jt, .inl (g 0, 150, .inl ut)), (jb, .inl (g 0, 1000, .inl ub))] H := hP
              have hD : va_D A [(jo, .inr (4, [.ref js, .ref jp, .ref ja, .ref jk, .int y38, .ref jt, .int uy, .int y39, .ref jb, .int uq, .int uz])), (js, .inl (g 0, 388, .inl y34)), (jp, .inl (g 0, 1552, .inl y40)), (ja, .inl (g 0, 388, .inl y31)), (jk, .inl (g 0, 97, .inl uk)), (jt, .inl (g 0, 150, .inl ut)), (jb, .inl (g 0, 1000, .inl ub))] := hD
              obtain rfl := q_rt hq
              exact rw_iret hx hb hr hk hP hD hS dX4_addKey_86
            · have hq := q_if_f hq c30
              refine lv_aload_n hx hb dX4_addKey_63 rfl (lv_at hl 0 rfl) ?_
              refine lv_iconst (v := 3) hx hb dX4_addKey_64 (by decide) ?_
              obtain ⟨⟨r43, y44⟩, hh45, hq⟩ := q_bd hq
              refine rwV (ci := 4) (wr := []) (As := [.int 3]) (rest := []) X K (k_X4_fails l G g jo js jp ja jk jt jb un uy uw uq uz us up ua uk ut ub 3 _ hh45) hd_X4_fails gX4_addKey_X4_fails hP hD hS hA [0, 1, 2, 3, 4, 5, 6] [] rfl rfl ⟨by decide, by decide, by decide⟩ hl.1 dX4_addKey_65 rfl rfl ⟨Nat.le_of_ble_eq_true rfl, Nat.le_of_ble_eq_true rfl⟩ rfl rfl rfl (Nat.le_of_ble_eq_true rfl) ⟨Nat.zero_le _, Nat.zero_le _⟩ (fun H locs hP hD hS => ?_)
              have hP : va_P G vwCl [(jo, .inr (4, [.ref js, .ref jp, .ref ja, .ref jk, .int un, .ref jt, .int uy, .int y44, .ref jb, .int uq, .int uz])), (js, .inl (g 0, 388, .inl us)), (jp, .inl (g 0, 1552, .inl up)), (ja, .inl (g 0, 388, .inl ua)), (jk, .inl (g 0, 97, .inl uk)), (jt, .inl (g 0, 150, .inl ut)), (jb, .inl (g 0, 1000, .inl ub))] H := hP
              have hD : va_D A [(jo, .inr (4, [.ref js, .ref jp, .ref ja, .ref jk, .int un, .ref jt, .int uy, .int y44, .ref jb, .int uq, .int uz])), (js, .inl (g 0, 388, .inl us)), (jp, .inl (g 0, 1552, .inl up)), (ja, .inl (g 0, 388, .inl ua)), (jk, .inl (g 0, 97, .inl uk)), (jt, .inl (g 0, 150, .inl ut)), (jb, .inl (g 0, 1000, .inl ub))] := hD
              obtain rfl := q_rt hq
              exact rw_iret hx hb hr hk hP hD hS dX4_addKey_68
        · have hq := q_if_t hq c20
          refine lv_aload_n hx hb dX4_addKey_37 rfl (lv_at hl 0 rfl) ?_
          refine lv_iconst (v := 2) hx hb dX4_addKey_38 (by decide) ?_
          obtain ⟨⟨r47, y48⟩, hh49, hq⟩ := q_bd hq
          refine rwV (ci := 4) (wr := []) (As := [.int 2]) (rest := []) X K (k_X4_fails l G g jo js jp ja jk jt jb un uy uw uq uz us up ua uk ut ub 2 _ hh49) hd_X4_fails gX4_addKey_X4_fails hP hD hS hA [0, 1, 2, 3, 4, 5, 6] [] rfl rfl ⟨by decide, by decide, by decide⟩ hl.1 dX4_addKey_39 rfl rfl ⟨Nat.le_of_ble_eq_true rfl, Nat.le_of_ble_eq_true rfl⟩ rfl rfl rfl (Nat.le_of_ble_eq_true rfl) ⟨Nat.zero_le _, Nat.zero_le _⟩ (fun H locs hP hD hS => ?_)
          have hP : va_P G vwCl [(jo, .inr (4, [.ref js, .ref jp, .ref ja, .ref jk, .int un, .ref jt, .int uy, .int y48, .ref jb, .int uq, .int uz])), (js, .inl (g 0, 388, .inl us)), (jp, .inl (g 0, 1552, .inl up)), (ja, .inl (g 0, 388, .inl ua)), (jk, .inl (g 0, 97, .inl uk)), (jt, .inl (g 0, 150, .inl ut)), (jb, .inl (g 0, 1000, .inl ub))] H := hP
          have hD : va_D A [(jo, .inr (4, [.ref js, .ref jp, .ref ja, .ref jk, .int un, .ref jt, .int uy, .int y48, .ref jb, .int uq, .int uz])), (js, .inl (g 0, 388, .inl us)), (jp, .inl (g 0, 1552, .inl up)), (ja, .inl (g 0, 388, .inl ua)), (jk, .inl (g 0, 97, .inl uk)), (jt, .inl (g 0, 150, .inl ut)), (jb, .inl (g 0, 1000, .inl ub))] := hD
          obtain rfl := q_rt hq
          exact rw_iret hx hb hr hk hP hD hS dX4_addKey_42
  · have hq := q_if_t hq c3
    refine lv_aload_n hx hb dX4_addKey_7 rfl (lv_at hl 0 rfl) ?_
    refine lv_iconst (v := 1) hx hb dX4_addKey_8 (by decide) ?_
    obtain ⟨⟨r51, y52⟩, hh53, hq⟩ := q_bd hq
    refine rwV (ci := 4) (wr := []) (As := [.int 1]) (rest := []) X K (k_X4_fails l G g jo js jp ja jk jt jb un uy uw uq uz us up ua uk ut ub 1 _ hh53) hd_X4_fails gX4_addKey_X4_fails hP hD hS hA [0, 1, 2, 3, 4, 5, 6] [] rfl rfl ⟨by decide, by decide, by decide⟩ hl.1 dX4_addKey_9 rfl rfl ⟨Nat.le_of_ble_eq_true rfl, Nat.le_of_ble_eq_true rfl⟩ rfl rfl rfl (Nat.le_of_ble_eq_true rfl) ⟨Nat.zero_le _, Nat.zero_le _⟩ (fun H locs hP hD hS => ?_)
    have hP : va_P G vwCl [(jo, .inr (4, [.ref js, .ref jp, .ref ja, .ref jk, .int un, .ref jt, .int uy, .int y52, .ref jb, .int uq, .int uz])), (js, .inl (g 0, 388, .inl us)), (jp, .inl (g 0, 1552, .inl up)), (ja, .inl (g 0, 388, .inl ua)), (jk, .inl (g 0, 97, .inl uk)), (jt, .inl (g 0, 150, .inl ut)), (jb, .inl (g 0, 1000, .inl ub))] H := hP
    have hD : va_D A [(jo, .inr (4, [.ref js, .ref jp, .ref ja, .ref jk, .int un, .ref jt, .int uy, .int y52, .ref jb, .int uq, .int uz])), (js, .inl (g 0, 388, .inl us)), (jp, .inl (g 0, 1552, .inl up)), (ja, .inl (g 0, 388, .inl ua)), (jk, .inl (g 0, 97, .inl uk)), (jt, .inl (g 0, 150, .inl ut)), (jb, .inl (g 0, 1000, .inl ub))] := hD
    obtain rfl := q_rt hq
    exact rw_iret hx hb hr hk hP hD hS dX4_addKey_12
theorem hd_X4_isKey : ynm yX4_isKey 2 := by unfold ynm; decide +kernel
def F_X4_removeKey (un : Int32) (uw : Int32) (us : Nat → Int32) (up : Nat → Int32) (ua : Nat → Int32) (p1 : Int32) (p2 : Int32) : Option (Int32 × Int32 × Int32 × (Nat → Int32) × (Nat → Int32) × (Nat → Int32)) := (F_X4_isKey us p1 p2).bind fun r1 => if r1 = 0 then ((F_X4_fails uw 1).bind fun o26 => some (o26.1, un, o26.2, us, up, ua)) else ((F_X4_of us p1 p2 5).bind fun r4 => if r4 = 1 then ((F_X4_fails uw 2).bind fun o22 => some (o22.1, un, o22.2, us, up, ua)) else ((F_X4_hold us ua).bind fun y7 => (F_X4_goes us p1 p2).bind fun y9 => (F_X4_many y9 p1).bind fun r11 => (F_X4_ends un uw up y7 r11).bind fun o18 => some (o18.1, o18.2.1, o18.2.2.1, y9, o18.2.2.2, y7)))
set_option maxHeartbeats 4000000 in
set_option maxRecDepth 100000 in
theorem k_X4_removeKey (l : Launch) (G : va_G) (g : Nat → ClassId) (jo js jp ja jk jt jb : Nat) (un : Int32) (uy : Int32) (uw : Int32) (uq : Int32) (uz : Int32) (us : Nat → Int32) (up : Nat → Int32) (ua : Nat → Int32) (uk : Nat → Int32) (ut : Nat → Int32) (ub : Nat → Int32) (p1 : Int32) (p2 : Int32) (res : Int32 × Int32 × Int32 × (Nat → Int32) × (Nat → Int32) × (Nat → Int32)) (hq : F_X4_removeKey un uw us up ua p1 p2 = some res) : rwC l yX4_removeKey wsX4_removeKey (rmF 3 64) G g [.ref jo, .int p1, .int p2] [(jo, .inr (4, [.ref js, .ref jp, .ref ja, .ref jk, .int un, .ref jt, .int uy, .int uw, .ref jb, .int uq, .int uz])), (js, .inl (g 0, 388, .inl us)), (jp, .inl (g 0, 1552, .inl up)), (ja, .inl (g 0, 388, .inl ua)), (jk, .inl (g 0, 97, .inl uk)), (jt, .inl (g 0, 150, .inl ut)), (jb, .inl (g 0, 1000, .inl ub))] (some (.int res.1)) [(jo, .inr (4, [.ref js, .ref jp, .ref ja, .ref jk, .int res.2.1, .ref jt, .int uy, .int res.2.2.1, .ref jb, .int uq, .int uz])), (js, .inl (g 0, 388, .inl res.2.2.2.1)), (jp, .inl (g 0, 1552, .inl res.2.2.2.2.1)), (ja, .inl (g 0, 388, .inl res.2.2.2.2.2)), (jk, .inl (g 0, 97, .inl uk)), (jt, .inl (g 0, 150, .inl ut)), (jb, .inl (g 0, 1000, .inl ub))] := by
  refine rwC.of (cc := cX4_removeKey) (maxL := 3) (ret := (some .int)) (by decide) rfl (Nat.le_of_ble_eq_true rfl) ?_
  intro p e s m below meth c ls A X K hA hP hD hS hl
  obtain ⟨hx, hb, hml, hr, hown, hts, hk⟩ := id X
  have hl : lv_has ls 3 [(0, .ref jo), (1, .int p1), (2, .int p2)] := hl
  unfold F_X4_removeKey at hq
  refine lv_aload_n hx hb dX4_removeKey_0 rfl (lv_at hl 0 rfl) ?_
  refine lv_iload_n hx hb dX4_removeKey_1 rfl (lv_at hl 1 rfl) ?_
  refine lv_iload_n hx hb dX4_removeKey_2 rfl (lv_at hl 2 rfl) ?_
  obtain ⟨r1, hh2, hq⟩ := q_bd hq
  refine roV (ci := 4) (As := [.int p1, .int p2]) (rest := []) X K (k_X4_isKey l G g jo js jp ja jk jt jb un uy uw uq uz us up ua uk ut ub p1 p2 _ hh2) hd_X4_isKey gX4_removeKey_X4_isKey hP hl.1 dX4_removeKey_3 rfl rfl ⟨Nat.le_of_ble_eq_true rfl, Nat.le_of_ble_eq_true rfl⟩ rfl rfl rfl (Nat.le_of_ble_eq_true rfl) ⟨Nat.zero_le _, Nat.zero_le _⟩ ?_
  refine lv_if_ne (tgt := 15) hx hb dX4_removeKey_6 (by decide) (fun c3 => ?_) (fun c3 => ?_)
  · have hq := q_if_f hq c3
    refine lv_aload_n hx hb dX4_removeKey_15 rfl (lv_at hl 0 rfl) ?_
    refine lv_iload_n hx hb dX4_removeKey_16 rfl (lv_at hl 1 rfl) ?_
    refine lv_iload_n hx hb dX4_removeKey_17 rfl (lv_at hl 2 rfl) ?_
    refine lv_iconst (v := 5) hx hb dX4_removeKey_18 (by decide) ?_
    obtain ⟨r4, hh5, hq⟩ := q_bd hq
    refine roV (ci := 4) (As := [.int p1, .int p2, .int 5]) (rest := []) X K (k_X4_of l G g jo js jp ja jk jt jb un uy uw uq uz us up ua uk ut ub p1 p2 5 _ hh5) hd_X4_of gX4_removeKey_X4_of hP hl.1 dX4_removeKey_19 rfl rfl ⟨Nat.le_of_ble_eq_true rfl, Nat.le_of_ble_eq_true rfl⟩ rfl rfl rfl (Nat.le_of_ble_eq_true rfl) ⟨Nat.zero_le _, Nat.zero_le _⟩ ?_
    refine lv_iconst (v := 1) hx hb dX4_removeKey_22 (by decide) ?_
    refine lv_icmp_ne (tgt := 32) hx hb dX4_removeKey_23 (by decide) (fun c6 => ?_) (fun c6 => ?_)
    · have hq := q_if_f hq c6
      refine lv_aload_n hx hb dX4_removeKey_32 rfl (lv_at hl 0 rfl) ?_
      obtain ⟨y7, hh8, hq⟩ := q_bd hq
      refine rwV (ci := 4) (wr := []) (As := []) (rest := []) X K (k_X4_hold l G g jo js jp ja jk jt jb un uy uw uq uz us up ua uk ut ub _ hh8) hd_X4_hold gX4_removeKey_X4_hold hP hD hS hA [0, 1, 2, 3, 4, 5, 6] [] rfl rfl ⟨by decide, by decide, by decide⟩ hl.1 dX4_removeKey_33 rfl rfl ⟨Nat.le_of_ble_eq_true rfl, Nat.le_of_ble_eq_true rfl⟩ rfl rfl rfl (Nat.le_of_ble_eq_true rfl) ⟨Nat.zero_le _, Nat.zero_le _⟩ (fun H locs hP hD hS => ?_)
      have hP : va_P G vwCl [(jo, .inr (4, [.ref js, .ref jp, .ref ja, .ref jk, .int un, .ref jt, .int uy, .int uw, .ref jb, .int uq, .int uz])), (js, .inl (g 0, 388, .inl us)), (jp, .inl (g 0, 1552, .inl up)), (ja, .inl (g 0, 388, .inl y7)), (jk, .inl (g 0, 97, .inl uk)), (jt, .inl (g 0, 150, .inl ut)), (jb, .inl (g 0, 1000, .inl ub))] H := hP
      have hD : va_D A [(jo, .inr (4, [.ref js, .ref jp, .ref ja, .ref jk, .int un, .ref jt, .int uy, .int uw, .ref jb, .int uq, .int uz])), (js, .inl (g 0, 388, .inl us)), (jp, .inl (g 0, 1552, .inl up)), (ja, .inl (g 0, 388, .inl y7)), (jk, .inl (g 0, 97, .inl uk)), (jt, .inl (g 0, 150, .inl ut)), (jb, .inl (g 0, 1000, .inl ub))] := hD
      refine lv_aload_n hx hb dX4_removeKey_36 rfl (lv_at hl 0 rfl) ?_
      refine lv_iload_n hx hb dX4_removeKey_37 rfl (lv_at hl 1 rfl) ?_
      refine lv_iload_n hx hb dX4_removeKey_38 rfl (lv_at hl 2 rfl) ?_
      obtain ⟨y9, hh10, hq⟩ := q_bd hq
      refine rwV (ci := 4) (wr := []) (As := [.int p1, .int p2]) (rest := []) X K (k_X4_goes l G g jo js jp ja jk jt jb un uy uw uq uz us up y7 uk ut ub p1 p2 _ hh10) hd_X4_goes gX4_removeKey_X4_goes hP hD hS hA [0, 1, 2, 3, 4, 5, 6] [] rfl rfl ⟨by decide, by decide, by decide⟩ hl.1 dX4_removeKey_39 rfl rfl ⟨Nat.le_of_ble_eq_true rfl, Nat.le_of_ble_eq_true rfl⟩ rfl rfl rfl (Nat.le_of_ble_eq_true rfl) ⟨Nat.zero_le _, Nat.zero_le _⟩ (fun H locs hP hD hS => ?_)
      have hP : va_P G vwCl [(jo, .inr (4, [.ref js, .ref jp, .ref ja, .ref jk, .int un, .ref jt, .int uy, .int uw, .ref jb, .int uq, .int uz])), (js, .inl (g 0, 388, .inl y9)), (jp, .inl (g 0, 1552, .inl up)), (ja, .inl (g 0, 388, .inl y7)), (jk, .inl (g 0, 97, .inl uk)), (jt, .inl (g 0, 150, .inl ut)), (jb, .inl (g 0, 1000, .inl ub))] H := hP
      have hD : va_D A [(jo, .inr (4, [.ref js, .ref jp, .ref ja, .ref jk, .int un, .ref jt, .int uy, .int uw, .ref jb, .int uq, .int uz])), (js, .inl (g 0, 388, .inl y9)), (jp, .inl (g 0, 1552, .inl up)), (ja, .inl (g 0, 388, .inl y7)), (jk, .inl (g 0, 97, .inl uk)), (jt, .inl (g 0, 150, .inl ut)), (jb, .inl (g 0, 1000, .inl ub))] := hD
      refine lv_aload_n hx hb dX4_removeKey_42 rfl (lv_at hl 0 rfl) ?_
      refine lv_aload_n hx hb dX4_removeKey_43 rfl (lv_at hl 0 rfl) ?_
      refine lv_iload_n hx hb dX4_removeKey_44 rfl (lv_at hl 1 rfl) ?_
      obtain ⟨r11, hh12, hq⟩ := q_bd hq
      refine roV (ci := 4) (As := [.int p1]) (rest := [.ref jo]) X K (k_X4_many l G g jo js jp ja jk jt jb un uy uw uq uz y9 up y7 uk ut ub p1 _ hh12) hd_X4_many gX4_removeKey_X4_many hP hl.1 dX4_removeKey_45 rfl rfl ⟨Nat.le_of_ble_eq_true rfl, Nat.le_of_ble_eq_true rfl⟩ rfl rfl rfl (Nat.le_of_ble_eq_true rfl) ⟨Nat.zero_le _, Nat.zero_le _⟩ ?_
      obtain ⟨⟨r13, y14, y15, y16⟩, hh17, hq⟩ := q_bd hq
      refine rwV (ci := 4) (wr := []) (As := [.int r11]) (rest := []) X K (k_X4_ends l G g jo js jp ja jk jt jb un uy uw uq uz y9 up y7 uk ut ub r11 _ hh17) hd_X4_ends gX4_removeKey_X4_ends hP hD hS hA [0, 1, 2, 3, 4, 5, 6] [] rfl rfl ⟨by decide, by decide, by decide⟩ hl.1 dX4_removeKey_48 rfl rfl ⟨Nat.le_of_ble_eq_true rfl, Nat.le_of_ble_eq_true rfl⟩ rfl rfl rfl (Nat.le_of_ble_eq_true rfl) ⟨Nat.zero_le _, Nat.zero_le _⟩ (fun H locs hP hD hS => ?_)
      have hP : va_P G vwCl [(jo, .inr (4, [.ref js, .ref jp, .ref ja, .ref jk, .int y14, .ref jt, .int uy, .int y15, .ref jb, .int uq, .int uz])), (js, .inl (g 0, 388, .inl y9)), (jp, .inl (g 0, 1552, .inl y16)), (ja, .inl (g 0, 388, .inl y7)), (jk, .inl (g 0, 97, .inl uk)), (jt, .inl (g 0, 150, .inl ut)), (jb, .inl (g 0, 1000, .inl ub))] H := hP
      have hD : va_D A [(jo, .inr (4, [.ref js, .ref jp, .ref ja, .ref jk, .int y14, .ref jt, .int uy, .int y15, .ref jb, .int uq, .int uz])), (js, .inl (g 0, 388, .inl y9)), (jp, .inl (g 0, 1552, .inl y16)), (ja, .inl (g 0, 388, .inl y7)), (jk, .inl (g 0, 97, .inl uk)), (jt, .inl (g 0, 150, .inl ut)), (jb, .inl (g 0, 1000, .inl ub))] := hD
      obtain rfl := q_rt hq
      exact rw_iret hx hb hr hk hP hD hS dX4_removeKey_51
    · have hq := q_if_t hq c6
      refine lv_aload_n hx hb dX4_removeKey_26 rfl (lv_at hl 0 rfl) ?_
      refine lv_iconst (v := 2) hx hb dX4_removeKey_27 (by decide) ?_
      obtain ⟨⟨r19, y20⟩, hh21, hq⟩ := q_bd hq
      refine rwV (ci := 4) (wr := []) (As := [.int 2]) (rest := []) X K (k_X4_fails l G g jo js jp ja jk jt jb un uy uw uq uz us up ua uk ut ub 2 _ hh21) hd_X4_fails gX4_removeKey_X4_fails hP hD hS hA [0, 1, 2, 3, 4, 5, 6] [] rfl rfl ⟨by decide, by decide, by decide⟩ hl.1 dX4_removeKey_28 rfl rfl ⟨Nat.le_of_ble_eq_true rfl, Nat.le_of_ble_eq_true rfl⟩ rfl rfl rfl (Nat.le_of_ble_eq_true rfl) ⟨Nat.zero_le _, Nat.zero_le _⟩ (fun H locs hP hD hS => ?_)
      have hP : va_P G vwCl [(jo, .inr (4, [.ref js, .ref jp, .ref ja, .ref jk, .int un, .ref jt, .int uy, .int y20, .ref jb, .int uq, .int uz])), (js, .inl (g 0, 388, .inl us)), (jp, .inl (g 0, 1552, .inl up)), (ja, .inl (g 0, 388, .inl ua)), (jk, .inl (g 0, 97, .inl uk)), (jt, .inl (g 0, 150, .inl ut)), (jb, .inl (g 0, 1000, .inl ub))] H := hP
      have hD : va_D A [(jo, .inr (4, [.ref js, .ref jp, .ref ja, .ref jk, .int un, .ref jt, .int uy, .int y20, .ref jb, .int uq, .int uz])), (js, .inl (g 0, 388, .inl us)), (jp, .inl (g 0, 1552, .inl up)), (ja, .inl (g 0, 388, .inl ua)), (jk, .inl (g 0, 97, .inl uk)), (jt, .inl (g 0, 150, .inl ut)), (jb, .inl (g 0, 1000, .inl ub))] := hD
      obtain rfl := q_rt hq
      exact rw_iret hx hb hr hk hP hD hS dX4_removeKey_31
  · have hq := q_if_t hq c3
    refine lv_aload_n hx hb dX4_removeKey_9 rfl (lv_at hl 0 rfl) ?_
    refine lv_iconst (v := 1) hx hb dX4_removeKey_10 (by decide) ?_
    obtain ⟨⟨r23, y24⟩, hh25, hq⟩ := q_bd hq
    refine rwV (ci := 4) (wr := []) (As := [.int 1]) (rest := []) X K (k_X4_fails l G g jo js jp ja jk jt jb un uy uw uq uz us up ua uk ut ub 1 _ hh25) hd_X4_fails gX4_removeKey_X4_fails hP hD hS hA [0, 1, 2, 3, 4, 5, 6] [] rfl rfl ⟨by decide, by decide, by decide⟩ hl.1 dX4_removeKey_11 rfl rfl ⟨Nat.le_of_ble_eq_true rfl, Nat.le_of_ble_eq_true rfl⟩ rfl rfl rfl (Nat.le_of_ble_eq_true rfl) ⟨Nat.zero_le _, Nat.zero_le _⟩ (fun H locs hP hD hS => ?_)
    have hP : va_P G vwCl [(jo, .inr (4, [.ref js, .ref jp, .ref ja, .ref jk, .int un, .ref jt, .int uy, .int y24, .ref jb, .int uq, .int uz])), (js, .inl (g 0, 388, .inl us)), (jp, .inl (g 0, 1552, .inl up)), (ja, .inl (g 0, 388, .inl ua)), (jk, .inl (g 0, 97, .inl uk)), (jt, .inl (g 0, 150, .inl ut)), (jb, .inl (g 0, 1000, .inl ub))] H := hP
    have hD : va_D A [(jo, .inr (4, [.ref js, .ref jp, .ref ja, .ref jk, .int un, .ref jt, .int uy, .int y24, .ref jb, .int uq, .int uz])), (js, .inl (g 0, 388, .inl us)), (jp, .inl (g 0, 1552, .inl up)), (ja, .inl (g 0, 388, .inl ua)), (jk, .inl (g 0, 97, .inl uk)), (jt, .inl (g 0, 150, .inl ut)), (jb, .inl (g 0, 1000, .inl ub))] := hD
    obtain rfl := q_rt hq
    exact rw_iret hx hb hr hk hP hD hS dX4_removeKey_14
theorem in_X4_setKey_X4 : ∀ w ∈ wsX40, w ∈ wsX4_setKey := fun _ h => List.mem_cons_of_mem _ (List.mem_append_right _ h)
def F_X4_setKey (un : Int32) (uw : Int32) (us : Nat → Int32) (up : Nat → Int32) (ua : Nat → Int32) (p1 : Int32) (p2 : Int32) (p3 : Int32) (p4 : Int32) : Option (Int32 × Int32 × Int32 × (Nat → Int32) × (Nat → Int32) × (Nat → Int32)) := (F_X4_isKey us p1 p2).bind fun r1 => if r1 = 0 then ((F_X4_fails uw 1).bind fun o46 => some (o46.1, un, o46.2, us, up, ua)) else ((F_X4_isValue p3).bind fun r4 => if r4 = 0 then ((F_X4_fails uw 2).bind fun o10 => some (o10.1, un, o10.2, us, up, ua)) else ((F_X4_in p4 0 5).bind fun r11 => if r11 = 0 then ((F_X4_fails uw 2).bind fun o42 => some (o42.1, un, o42.2, us, up, ua)) else ((F_X4_of us p1 p2 5).bind fun r14 => if r14 = 1 then ((F_X4_fails uw 3).bind fun o38 => some (o38.1, un, o38.2, us, up, ua)) else ((F_X4_hold us ua).bind fun y17 => (F_X4_of us p1 p2 1).bind fun r19 => (F_X4_spot p1 p2).bind fun r21 => vgd (ix (r21 + 1) 388) <| vlet (upd us (r21 + 1).toNatClampNeg p3) fun f24 => (F_X4_spot p1 p2).bind fun r25 => vgd (ix (r25 + 2) 388) <| vlet (upd f24 (r25 + 2).toNatClampNeg p4) fun f28 => (F_X4_ends un uw up y17 r19).bind fun o34 => some (o34.1, o34.2.1, o34.2.2.1, f28, o34.2.2.2, y17)))))
set_option maxHeartbeats 4000000 in
set_option maxRecDepth 100000 in
theorem k_X4_setKey (l : Launch) (G : va_G) (g : Nat → ClassId) (jo js jp ja jk jt jb : Nat) (un : Int32) (uy : Int32) (uw : Int32) (uq : Int32) (uz : Int32) (us : Nat → Int32) (up : Nat → Int32) (ua : Nat → Int32) (uk : Nat → Int32) (ut : Nat → Int32) (ub : Nat → Int32) (p1 : Int32) (p2 : Int32) (p3 : Int32) (p4 : Int32) (res : Int32 × Int32 × Int32 × (Nat → Int32) × (Nat → Int32) × (Nat → Int32)) (hq : F_X4_setKey un uw us up ua p1 p2 p3 p4 = some res) : rwC l yX4_setKey wsX4_setKey (rmF 3 64) G g [.ref jo, .int p1, .int p2, .int p3, .int p4] [(jo, .inr (4, [.ref js, .ref jp, .ref ja, .ref jk, .int un, .ref jt, .int uy, .int uw, .ref jb, .int uq, .int uz])), (js, .inl (g 0, 388, .inl us)), (jp, .inl (g 0, 1552, .inl up)), (ja, .inl (g 0, 388, .inl ua)), (jk, .inl (g 0, 97, .inl uk)), (jt, .inl (g 0, 150, .inl ut)), (jb, .inl (g 0, 1000, .inl ub))] (some (.int res.1)) [(jo, .inr (4, [.ref js, .ref jp, .ref ja, .ref jk, .int res.2.1, .ref jt, .int uy, .int res.2.2.1, .ref jb, .int uq, .int uz])), (js, .inl (g 0, 388, .inl res.2.2.2.1)), (jp, .inl (g 0, 1552, .inl res.2.2.2.2.1)), (ja, .inl (g 0, 388, .inl res.2.2.2.2.2)), (jk, .inl (g 0, 97, .inl uk)), (jt, .inl (g 0, 150, .inl ut)), (jb, .inl (g 0, 1000, .inl ub))] := by
  refine rwC.of (cc := cX4_setKey) (maxL := 6) (ret := (some .int)) (by decide) rfl (Nat.le_of_ble_eq_true rfl) ?_
  intro p e s m below meth c ls A X K hA hP hD hS hl
  obtain ⟨hx, hb, hml, hr, hown, hts, hk⟩ := id X
  have hl : lv_has ls 6 [(0, .ref jo), (1, .int p1), (2, .int p2), (3, .int p3), (4, .int p4)] := hl
  unfold F_X4_setKey at hq
  refine lv_aload_n hx hb dX4_setKey_0 rfl (lv_at hl 0 rfl) ?_
  refine lv_iload_n hx hb dX4_setKey_1 rfl (lv_at hl 1 rfl) ?_
  refine lv_iload_n hx hb dX4_setKey_2 rfl (lv_at hl 2 rfl) ?_
  obtain ⟨r1, hh2, hq⟩ := q_bd hq
  refine roV (ci := 4) (As := [.int p1, .int p2]) (rest := []) X K (k_X4_isKey l G g jo js jp ja jk jt jb un uy uw uq uz us up ua uk ut ub p1 p2 _ hh2) hd_X4_isKey gX4_setKey_X4_isKey hP hl.1 dX4_setKey_3 rfl rfl ⟨Nat.le_of_ble_eq_true rfl, Nat.le_of_ble_eq_true rfl⟩ rfl rfl rfl (Nat.le_of_ble_eq_true rfl) ⟨Nat.zero_le _, Nat.zero_le _⟩ ?_
  refine lv_if_ne (tgt := 15) hx hb dX4_setKey_6 (by decide) (fun c3 => ?_) (fun c3 => ?_)
  · have hq := q_if_f hq c3
    refine lv_iload_n hx hb dX4_setKey_15 rfl (lv_at hl 3 rfl) ?_
    obtain ⟨r4, hh5, hq⟩ := q_bd hq
    refine roS (As := [.int p3]) (rest := []) X K (k_X4_isValue l G g p3 _ hh5) hd_X4_isValue gX4_setKey_X4_isValue (hP.sub [] rfl) hl.1 dX4_setKey_16 rfl rfl ⟨Nat.le_of_ble_eq_true rfl, Nat.le_of_ble_eq_true rfl⟩ rfl (Nat.le_of_ble_eq_true rfl) ⟨Nat.zero_le _, Nat.zero_le _⟩ ?_
    refine lv_if_eq (tgt := 32) hx hb dX4_setKey_19 (by decide) (fun c6 => ?_) (fun c6 => ?_)
    · have hq := q_if_t hq c6
      refine lv_aload_n hx hb dX4_setKey_32 rfl (lv_at hl 0 rfl) ?_
      refine lv_iconst (v := 2) hx hb dX4_setKey_33 (by decide) ?_
      obtain ⟨⟨r7, y8⟩, hh9, hq⟩ := q_bd hq
      refine rwV (ci := 4) (wr := []) (As := [.int 2]) (rest := []) X K (k_X4_fails l G g jo js jp ja jk jt jb un uy uw uq uz us up ua uk ut ub 2 _ hh9) hd_X4_fails gX4_setKey_X4_fails hP hD hS hA [0, 1, 2, 3, 4, 5, 6] [] rfl rfl ⟨by decide, by decide, by decide⟩ hl.1 dX4_setKey_34 rfl rfl ⟨Nat.le_of_ble_eq_true rfl, Nat.le_of_ble_eq_true rfl⟩ rfl rfl rfl (Nat.le_of_ble_eq_true rfl) ⟨Nat.zero_le _, Nat.zero_le _⟩ (fun H locs hP hD hS => ?_)
      have hP : va_P G vwCl [(jo, .inr (4, [.ref js, .ref jp, .ref ja, .ref jk, .int un, .ref jt, .int uy, .int y8, .ref jb, .int uq, .int uz])), (js, .inl (g 0, 388, .inl us)), (jp, .inl (g 0, 1552, .inl up)), (ja, .inl (g 0, 388, .inl ua)), (jk, .inl (g 0, 97, .inl uk)), (jt, .inl (g 0, 150, .inl ut)), (jb, .inl (g 0, 1000, .inl ub))] H := hP
      have hD : va_D A [(jo, .inr (4, [.ref js, .ref jp, .ref ja, .ref jk, .int un, .ref jt, .int uy, .int y8, .ref jb, .int uq, .int uz])), (js, .inl (g 0, 388, .inl us)), (jp, .inl (g 0, 1552, .inl up)), (ja, .inl (g 0, 388, .inl ua)), (jk, .inl (g 0, 97, .inl uk)), (jt, .inl (g 0, 150, .inl ut)), (jb, .inl (g 0, 1000, .inl ub))] := hD
      obtain rfl := q_rt hq
      exact rw_iret hx hb hr hk hP hD hS dX4_setKey_37
    · have hq := q_if_f hq c6
      refine lv_iload hx hb dX4_setKey_22 (lv_at hl 4 rfl) ?_
      refine lv_iconst (v := 0) hx hb dX4_setKey_24 (by decide) ?_
      refine lv_iconst (v := 5) hx hb dX4_setKey_25 (by decide) ?_
      obtain ⟨r11, hh12, hq⟩ := q_bd hq
      refine roS (As := [.int p4, .int 0, .int 5]) (rest := []) X K (k_X4_in l G g p4 0 5 _ hh12) hd_X4_in gX4_setKey_X4_in (hP.sub [] rfl) hl.1 dX4_setKey_26 rfl rfl ⟨Nat.le_of_ble_eq_true rfl, Nat.le_of_ble_eq_true rfl⟩ rfl (Nat.le_of_ble_eq_true rfl) ⟨Nat.zero_le _, Nat.zero_le _⟩ ?_
      refine lv_if_ne (tgt := 38) hx hb dX4_setKey_29 (by decide) (fun c13 => ?_) (fun c13 => ?_)
      · have hq := q_if_f hq c13
        refine lv_aload_n hx hb dX4_setKey_38 rfl (lv_at hl 0 rfl) ?_
        refine lv_iload_n hx hb dX4_setKey_39 rfl (lv_at hl 1 rfl) ?_
        refine lv_iload_n hx hb dX4_setKey_40 rfl (lv_at hl 2 rfl) ?_
        refine lv_iconst (v := 5) hx hb dX4_setKey_41 (by decide) ?_
        obtain ⟨r14, hh15, hq⟩ := q_bd hq
        refine roV (ci := 4) (As := [.int p1, .int p2, .int 5]) (rest := []) X K (k_X4_of l G g jo js jp ja jk jt jb un uy uw uq uz us up ua uk ut ub p1 p2 5 _ hh15) hd_X4_of gX4_setKey_X4_of hP hl.1 dX4_setKey_42 rfl rfl ⟨Nat.le_of_ble_eq_true rfl, Nat.le_of_ble_eq_true rfl⟩ rfl rfl rfl (Nat.le_of_ble_eq_true rfl) ⟨Nat.zero_le _, Nat.zero_le _⟩ ?_
        refine lv_iconst (v := 1) hx hb dX4_setKey_45 (by decide) ?_
        refine lv_icmp_ne (tgt := 55) hx hb dX4_setKey_46 (by decide) (fun c16 => ?_) (fun c16 => ?_)
        · have hq := q_if_f hq c16
          refine lv_aload_n hx hb dX4_setKey_55 rfl (lv_at hl 0 rfl) ?_
          obtain ⟨y17, hh18, hq⟩ := q_bd hq
          refine rwV (ci := 4) (wr := []) (As := []) (rest := []) X K (k_X4_hold l G g jo js jp ja jk jt jb un uy uw uq uz us up ua uk ut ub _ hh18) hd_X4_hold gX4_setKey_X4_hold hP hD hS hA [0, 1, 2, 3, 4, 5, 6] [] rfl rfl ⟨by decide, by decide, by decide⟩ hl.1 dX4_setKey_56 rfl rfl ⟨Nat.le_of_ble_eq_true rfl, Nat.le_of_ble_eq_true rfl⟩ rfl rfl rfl (Nat.le_of_ble_eq_true rfl) ⟨Nat.zero_le _, Nat.zero_le _⟩ (fun H locs hP hD hS => ?_)
          have hP : va_P G vwCl [(jo, .inr (4, [.ref js, .ref jp, .ref ja, .ref jk, .int un, .ref jt, .int uy, .int uw, .ref jb, .int uq, .int uz])), (js, .inl (g 0, 388, .inl us)), (jp, .inl (g 0, 1552, .inl up)), (ja, .inl (g 0, 388, .inl y17)), (jk, .inl (g 0, 97, .inl uk)), (jt, .inl (g 0, 150, .inl ut)), (jb, .inl (g 0, 1000, .inl ub))] H := hP
          have hD : va_D A [(jo, .inr (4, [.ref js, .ref jp, .ref ja, .ref jk, .int un, .ref jt, .int uy, .int uw, .ref jb, .int uq, .int uz])), (js, .inl (g 0, 388, .inl us)), (jp, .inl (g 0, 1552, .inl up)), (ja, .inl (g 0, 388, .inl y17)), (jk, .inl (g 0, 97, .inl uk)), (jt, .inl (g 0, 150, .inl ut)), (jb, .inl (g 0, 1000, .inl ub))] := hD
          refine lv_aload_n hx hb dX4_setKey_59 rfl (lv_at hl 0 rfl) ?_
          refine lv_iload_n hx hb dX4_setKey_60 rfl (lv_at hl 1 rfl) ?_
          refine lv_iload_n hx hb dX4_setKey_61 rfl (lv_at hl 2 rfl) ?_
          refine lv_iconst (v := 1) hx hb dX4_setKey_62 (by decide) ?_
          obtain ⟨r19, hh20, hq⟩ := q_bd hq
          refine roV (ci := 4) (As := [.int p1, .int p2, .int 1]) (rest := []) X K (k_X4_of l G g jo js jp ja jk jt jb un uy uw uq uz us up y17 uk ut ub p1 p2 1 _ hh20) hd_X4_of gX4_setKey_X4_of hP hl.1 dX4_setKey_63 rfl rfl ⟨Nat.le_of_ble_eq_true rfl, Nat.le_of_ble_eq_true rfl⟩ rfl rfl rfl (Nat.le_of_ble_eq_true rfl) ⟨Nat.zero_le _, Nat.zero_le _⟩ ?_
          refine lv_istore (lv' := [(5, .int r19), (0, .ref jo), (1, .int p1), (2, .int p2), (3, .int p3), (4, .int p4)]) hx hb dX4_setKey_66 hl (by decide) rfl (fun ls hl => ?_)
          refine lv_aload_n hx hb dX4_setKey_68 rfl (lv_at hl 1 rfl) ?_
          refine va_get (D := G) (ci := 4) (v := .ref js) (C := RX4) (T := TX4) (N := 11) hx hb hts in_X4_setKey_X4 hown K.1 hP 0 rfl rfl 0 (by decide) (hts _ (List.mem_of_getElem? (i := 1) rfl)) (fun _ h9 => h9) rfl dX4_setKey_69 ?_
          refine lv_iload_n hx hb dX4_setKey_72 rfl (lv_at hl 2 rfl) ?_
          refine lv_iload_n hx hb dX4_setKey_73 rfl (lv_at hl 3 rfl) ?_
          obtain ⟨r21, hh22, hq⟩ := q_bd hq
          refine roS (As := [.int p1, .int p2]) (rest := [.ref js]) X K (k_X4_spot l G g p1 p2 _ hh22) hd_X4_spot gX4_setKey_X4_spot (hP.sub [] rfl) hl.1 dX4_setKey_74 rfl rfl ⟨Nat.le_of_ble_eq_true rfl, Nat.le_of_ble_eq_true rfl⟩ rfl (Nat.le_of_ble_eq_true rfl) ⟨Nat.zero_le _, Nat.zero_le _⟩ ?_
          refine lv_iconst (v := 1) hx hb dX4_setKey_77 (by decide) ?_
          refine lv_iadd hx hb dX4_setKey_78 ?_
          refine lv_iload_n hx hb dX4_setKey_79 rfl (lv_at hl 4 rfl) ?_
          obtain ⟨hh23, hq⟩ := q_gd hq
          refine va_iast hx hb K.1 hP hD hS 1 0 rfl rfl (vp_in_iff.mpr hh23) dX4_setKey_80 (fun H locs hP hD hS => ?_)
          obtain ⟨f24, ef24⟩ : ∃ y, y = upd us (r21 + 1).toNatClampNeg p3 := ⟨_, rfl⟩
          have hq := q_let hq ef24
          have hP : va_P G vwCl [(jo, .inr (4, [.ref js, .ref jp, .ref ja, .ref jk, .int un, .ref jt, .int uy, .int uw, .ref jb, .int uq, .int uz])), (js, .inl (g 0, 388, .inl f24)), (jp, .inl (g 0, 1552, .inl up)), (ja, .inl (g 0, 388, .inl y17)), (jk, .inl (g 0, 97, .inl uk)), (jt, .inl (g 0, 150, .inl ut)), (jb, .inl (g 0, 1000, .inl ub))] H := by rw [ef24]; exact hP
          have hD : va_D A [(jo, .inr (4, [.ref js, .ref jp, .ref ja, .ref jk, .int un, .ref jt, .int uy, .int uw, .ref jb, .int uq, .int uz])), (js, .inl (g 0, 388, .inl f24)), (jp, .inl (g 0, 1552, .inl up)), (ja, .inl (g 0, 388, .inl y17)), (jk, .inl (g 0, 97, .inl uk)), (jt, .inl (g 0, 150, .inl ut)), (jb, .inl (g 0, 1000, .inl ub))] := by rw [ef24]; exact hD
          refine lv_aload_n hx hb dX4_setKey_81 rfl (lv_at hl 1 rfl) ?_
          refine va_get (D := G) (ci := 4) (v := .ref js) (C := RX4) (T := TX4) (N := 11) hx hb hts in_X4_setKey_X4 hown K.1 hP 0 rfl rfl 0 (by decide) (hts _ (List.mem_of_getElem? (i := 1) rfl)) (fun _ h9 => h9) rfl dX4_setKey_82 ?_
          refine lv_iload_n hx hb dX4_setKey_85 rfl (lv_at hl 2 rfl) ?_
          refine lv_iload_n hx hb dX4_setKey_86 rfl (lv_at hl 3 rfl) ?_
          obtain ⟨r25, hh26, hq⟩ := q_bd hq
          refine roS (As := [.int p1, .int p2]) (rest := [.ref js]) X K (k_X4_spot l G g p1 p2 _ hh26) hd_X4_spot gX4_setKey_X4_spot (hP.sub [] rfl) hl.1 dX4_setKey_87 rfl rfl ⟨Nat.le_of_ble_eq_true rfl, Nat.le_of_ble_eq_true rfl⟩ rfl (Nat.le_of_ble_eq_true rfl) ⟨Nat.zero_le _, Nat.zero_le _⟩ ?_
          refine lv_iconst (v := 2) hx hb dX4_setKey_90 (by decide) ?_
          refine lv_iadd hx hb dX4_setKey_91 ?_
          refine lv_iload hx hb dX4_setKey_92 (lv_at hl 5 rfl) ?_
          obtain ⟨hh27, hq⟩ := q_gd hq
          refine va_iast hx hb K.1 hP hD hS 1 0 rfl rfl (vp_in_iff.mpr hh27) dX4_setKey_94 (fun H locs hP hD hS => ?_)
          obtain ⟨f28, ef28⟩ : ∃ y, y = upd f24 (r25 + 2).toNatClampNeg p4 := ⟨_, rfl⟩
          have hq := q_let hq ef28
          have hP : va_P G vwCl [(jo, .inr (4, [.ref js, .ref jp, .ref ja, .ref jk, .int un, .ref jt, .int uy, .int uw, .ref jb, .int uq, .int uz])), (js, .inl (g 0, 388, .inl f28)), (jp, .inl (g 0, 1552, .inl up)), (ja, .inl (g 0, 388, .inl y17)), (jk, .inl (g 0, 97, .inl uk)), (jt, .inl (g 0, 150, .inl ut)), (jb, .inl (g 0, 1000, .inl ub))] H := by rw [ef28]; exact hP
          have hD : va_D A [(jo, .inr (4, [.ref js, .ref jp, .ref ja, .ref jk, .int un, .ref jt, .int uy, .int uw, .ref jb, .int uq, .int uz])), (js, .inl (g 0, 388, .inl f28)), (jp, .inl (g 0, 1552, .inl up)), (ja, .inl (g 0, 388, .inl y17)), (jk, .inl (g 0, 97, .inl uk)), (jt, .inl (g 0, 150, .inl ut)), (jb, .inl (g 0, 1000, .inl ub))] := by rw [ef28]; exact hD
          refine lv_aload_n hx hb dX4_setKey_95 rfl (lv_at hl 1 rfl) ?_
          refine lv_iload hx hb dX4_setKey_96 (lv_at hl 0 rfl) ?_
          obtain ⟨⟨r29, y30, y31, y32⟩, hh33, hq⟩ := q_bd hq
          refine rwV (ci := 4) (wr := []) (As := [.int r19]) (rest := []) X K (k_X4_ends l G g jo js jp ja jk jt jb un uy uw uq uz f28 up y17 uk ut ub r19 _ hh33) hd_X4_ends gX4_setKey_X4_ends hP hD hS hA [0, 1, 2, 3, 4, 5, 6] [] rfl rfl ⟨by decide, by decide, by decide⟩ hl.1 dX4_setKey_98 rfl rfl ⟨Nat.le_of_ble_eq_true rfl, Nat.le_of_ble_eq_true rfl⟩ rfl rfl rfl (Nat.le_of_ble_eq_true rfl) ⟨Nat.zero_le _, Nat.zero_le _⟩ (fun H locs hP hD hS => ?_)
          have hP : va_P G vwCl [(jo, .inr (4, [.ref js, .ref jp, .ref ja, .ref jk, .int y30, .ref jt, .int uy, .int y31, .ref jb, .int uq, .int uz])), (js, .inl (g 0, 388, .inl f28)), (jp, .inl (g 0, 1552, .inl y32)), (ja, .inl (g 0, 388, .inl y17)), (jk, .inl (g 0, 97, .inl uk)), (jt, .inl (g 0, 150, .inl ut)), (jb, .inl (g 0, 1000, .inl ub))] H := hP
          have hD : va_D A [(jo, .inr (4, [.ref js, .ref jp, .ref ja, .ref jk, .int y30, .ref jt, .int uy, .int y31, .ref jb, .int uq, .int uz])), (js, .inl (g 0, 388, .inl f28)), (jp, .inl (g 0, 1552, .inl y32)), (ja, .inl (g 0, 388, .inl y17)), (jk, .inl (g 0, 97, .inl uk)), (jt, .inl (g 0, 150, .inl ut)), (jb, .inl (g 0, 1000, .inl ub))] := hD
          obtain rfl := q_rt hq
          exact rw_iret hx hb hr hk hP hD hS dX4_setKey_101
        · have hq := q_if_t hq c16
          refine lv_aload_n hx hb dX4_setKey_49 rfl (lv_at hl 0 rfl) ?_
          refine lv_iconst (v := 3) hx hb dX4_setKey_50 (by decide) ?_
          obtain ⟨⟨r35, y36⟩, hh37, hq⟩ := q_bd hq
          refine rwV (ci := 4) (wr := []) (As := [.int 3]) (rest := []) X K (k_X4_fails l G g jo js jp ja jk jt jb un uy uw uq uz us up ua uk ut ub 3 _ hh37) hd_X4_fails gX4_setKey_X4_fails hP hD hS hA [0, 1, 2, 3, 4, 5, 6] [] rfl rfl ⟨by decide, by decide, by decide⟩ hl.1 dX4_setKey_51 rfl rfl ⟨Nat.le_of_ble_eq_true rfl, Nat.le_of_ble_eq_true rfl⟩ rfl rfl rfl (Nat.le_of_ble_eq_true rfl) ⟨Nat.zero_le _, Nat.zero_le _⟩ (fun H locs hP hD hS => ?_)
          have hP : va_P G vwCl [(jo, .inr (4, [.ref js, .ref jp, .ref ja, .ref jk, .int un, .ref jt, .int uy, .int y36, .ref jb, .int uq, .int uz])), (js, .inl (g 0, 388, .inl us)), (jp, .inl (g 0, 1552, .inl up)), (ja, .inl (g 0, 388, .inl ua)), (jk, .inl (g 0, 97, .inl uk)), (jt, .inl (g 0, 150, .inl ut)), (jb, .inl (g 0, 1000, .inl ub))] H := hP
          have hD : va_D A [(jo, .inr (4, [.ref js, .ref jp, .ref ja, .ref jk, .int un, .ref jt, .int uy, .int y36, .ref jb, .int uq, .int uz])), (js, .inl (g 0, 388, .inl us)), (jp, .inl (g 0, 1552, .inl up)), (ja, .inl (g 0, 388, .inl ua)), (jk, .inl (g 0, 97, .inl uk)), (jt, .inl (g 0, 150, .inl ut)), (jb, .inl (g 0, 1000, .inl ub))] := hD
          obtain rfl := q_rt hq
          exact rw_iret hx hb hr hk hP hD hS dX4_setKey_54
      · have hq := q_if_t hq c13
        refine lv_aload_n hx hb dX4_setKey_32 rfl (lv_at hl 0 rfl) ?_
        refine lv_iconst (v := 2) hx hb dX4_setKey_33 (by decide) ?_
        obtain ⟨⟨r39, y40⟩, hh41, hq⟩ := q_bd hq
        refine rwV (ci := 4) (wr := []) (As := [.int 2]) (rest := []) X K (k_X4_fails l G g jo js jp ja jk jt jb un uy uw uq uz us up ua uk ut ub 2 _ hh41) hd_X4_fails gX4_setKey_X4_fails hP hD hS hA [0, 1, 2, 3, 4, 5, 6] [] rfl rfl ⟨by decide, by decide, by decide⟩ hl.1 dX4_setKey_34 rfl rfl ⟨Nat.le_of_ble_eq_true rfl, Nat.le_of_ble_eq_true rfl⟩ rfl rfl rfl (Nat.le_of_ble_eq_true rfl) ⟨Nat.zero_le _, Nat.zero_le _⟩ (fun H locs hP hD hS => ?_)
        have hP : va_P G vwCl [(jo, .inr (4, [.ref js, .ref jp, .ref ja, .ref jk, .int un, .ref jt, .int uy, .int y40, .ref jb, .int uq, .int uz])), (js, .inl (g 0, 388, .inl us)), (jp, .inl (g 0, 1552, .inl up)), (ja, .inl (g 0, 388, .inl ua)), (jk, .inl (g 0, 97, .inl uk)), (jt, .inl (g 0, 150, .inl ut)), (jb, .inl (g 0, 1000, .inl ub))] H := hP
        have hD : va_D A [(jo, .inr (4, [.ref js, .ref jp, .ref ja, .ref jk, .int un, .ref jt, .int uy, .int y40, .ref jb, .int uq, .int uz])), (js, .inl (g 0, 388, .inl us)), (jp, .inl (g 0, 1552, .inl up)), (ja, .inl (g 0, 388, .inl ua)), (jk, .inl (g 0, 97, .inl uk)), (jt, .inl (g 0, 150, .inl ut)), (jb, .inl (g 0, 1000, .inl ub))] := hD
        obtain rfl := q_rt hq
        exact rw_iret hx hb hr hk hP hD hS dX4_setKey_37
  · have hq := q_if_t hq c3
    refine lv_aload_n hx hb dX4_setKey_9 rfl (lv_at hl 0 rfl) ?_
    refine lv_iconst (v := 1) hx hb dX4_setKey_10 (by decide) ?_
    obtain ⟨⟨r43, y44⟩, hh45, hq⟩ := q_bd hq
    refine rwV (ci := 4) (wr := []) (As := [.int 1]) (rest := []) X K (k_X4_fails l G g jo js jp ja jk jt jb un uy uw uq uz us up ua uk ut ub 1 _ hh45) hd_X4_fails gX4_setKey_X4_fails hP hD hS hA [0, 1, 2, 3, 4, 5, 6] [] rfl rfl ⟨by decide, by decide, by decide⟩ hl.1 dX4_setKey_11 rfl rfl ⟨Nat.le_of_ble_eq_true rfl, Nat.le_of_ble_eq_true rfl⟩ rfl rfl rfl (Nat.le_of_ble_eq_true rfl) ⟨Nat.zero_le _, Nat.zero_le _⟩ (fun H locs hP hD hS => ?_)
    have hP : va_P G vwCl [(jo, .inr (4, [.ref js, .ref jp, .ref ja, .ref jk, .int un, .ref jt, .int uy, .int y44, .ref jb, .int uq, .int uz])), (js, .inl (g 0, 388, .inl us)), (jp, .inl (g 0, 1552, .inl up)), (ja, .inl (g 0, 388, .inl ua)), (jk, .inl (g 0, 97, .inl uk)), (jt, .inl (g 0, 150, .inl ut)), (jb, .inl (g 0, 1000, .inl ub))] H := hP
    have hD : va_D A [(jo, .inr (4, [.ref js, .ref jp, .ref ja, .ref jk, .int un, .ref jt, .int uy, .int y44, .ref jb, .int uq, .int uz])), (js, .inl (g 0, 388, .inl us)), (jp, .inl (g 0, 1552, .inl up)), (ja, .inl (g 0, 388, .inl ua)), (jk, .inl (g 0, 97, .inl uk)), (jt, .inl (g 0, 150, .inl ut)), (jb, .inl (g 0, 1000, .inl ub))] := hD
    obtain rfl := q_rt hq
    exact rw_iret hx hb hr hk hP hD hS dX4_setKey_14
theorem in_X4_moveKey_X4 : ∀ w ∈ wsX40, w ∈ wsX4_moveKey := fun _ h => List.mem_cons_of_mem _ (List.mem_append_right _ h)
def F_X4_moveKey_65 (un : Int32) (uw : Int32) (us : Nat → Int32) (up : Nat → Int32) (ua : Nat → Int32) (v1 : Int32) (v2 : Int32) (v3 : Int32) : Option (Int32 × Int32 × Int32 × (Nat → Int32) × (Nat → Int32) × (Nat → Int32)) := (F_X4_hold us ua).bind fun y4 => (F_X4_of us v1 v2 3).bind fun r6 => (F_X4_of us v1 v2 4).bind fun r8 => (F_X4_of us v1 v2 1).bind fun r10 => (F_X4_of us v1 v2 2).bind fun r12 => (F_X4_goes us v1 v2).bind fun y14 => (F_X4_comes y14 v1 v3 r10 r12).bind fun o19 => (F_X4_spot v1 o19.1).bind fun r20 => vgd (ix (r20 + 3) 388) <| vlet (upd o19.2 (r20 + 3).toNatClampNeg r6) fun f23 => (F_X4_spot v1 o19.1).bind fun r24 => vgd (ix (r24 + 4) 388) <| vlet (upd f23 (r24 + 4).toNatClampNeg r8) fun f27 => (F_X4_ends un uw up y4 o19.1).bind fun o33 => some (o33.1, o33.2.1, o33.2.2.1, f27, o33.2.2.2, y4)
set_option maxHeartbeats 4000000 in
set_option maxRecDepth 100000 in
theorem w_X4_moveKey_65 {p : Program} {l : Launch} {e : Env} {s : State} {m : MethodId} {args : Array Value} {below : List Frame} {meth : Method} {c : Code} {G : va_G} {g : Nat → ClassId} (X : cx p s m args meth c cX4_moveKey 10 (some .int) RX4 wsX4_moveKey) (K : amb G g s) {A : Nat → Prop} (hA : ∀ q : Nat, s.heap.size ≤ q → A q) (jo js jp ja jk jt jb : Nat) (uy : Int32) (uq : Int32) (uz : Int32) (uk : Nat → Int32) (ut : Nat → Int32) (ub : Nat → Int32) (un : Int32) (uw : Int32) (us : Nat → Int32) (up : Nat → Int32) (ua : Nat → Int32) (v1 : Int32) (v2 : Int32) (v3 : Int32) (res : Int32 × Int32 × Int32 × (Nat → Int32) × (Nat → Int32) × (Nat → Int32)) (hq : F_X4_moveKey_65 un uw us up ua v1 v2 v3 = some res) : ∀ (H : Heap) (locs : List Loc), va_P G vwCl [(jo, .inr (4, [.ref js, .ref jp, .ref ja, .ref jk, .int un, .ref jt, .int uy, .int uw, .ref jb, .int uq, .int uz])), (js, .inl (g 0, 388, .inl us)), (jp, .inl (g 0, 1552, .inl up)), (ja, .inl (g 0, 388, .inl ua)), (jk, .inl (g 0, 97, .inl uk)), (jt, .inl (g 0, 150, .inl ut)), (jb, .inl (g 0, 1000, .inl ub))] H → va_D A [(jo, .inr (4, [.ref js, .ref jp, .ref ja, .ref jk, .int un, .ref jt, .int uy, .int uw, .ref jb, .int uq, .int uz])), (js, .inl (g 0, 388, .inl us)), (jp, .inl (g 0, 1552, .inl up)), (ja, .inl (g 0, 388, .inl ua)), (jk, .inl (g 0, 97, .inl uk)), (jt, .inl (g 0, 150, .inl ut)), (jb, .inl (g 0, 1000, .inl ub))] → va_S A s.heap H locs → ∀ (ls : Array Slot), lv_has ls 10 [(0, .ref jo), (1, .int v1), (2, .int v2), (3, .int v3)] → W p l e (rmF 3 70) s m args below meth c H locs 0 0 (rwM G A below (some (.int res.1)) [(jo, .inr (4, [.ref js, .ref jp, .ref ja, .ref jk, .int res.2.1, .ref jt, .int uy, .int res.2.2.1, .ref jb, .int uq, .int uz])), (js, .inl (g 0, 388, .inl res.2.2.2.1)), (jp, .inl (g 0, 1552, .inl res.2.2.2.2.1)), (ja, .inl (g 0, 388, .inl res.2.2.2.2.2)), (jk, .inl (g 0, 97, .inl uk)), (jt, .inl (g 0, 150, .inl ut)), (jb, .inl (g 0, 1000, .inl ub))] args s) (F0 m 65 ls []) := by
  obtain ⟨hx, hb, hml, hr, hown, hts, hk⟩ := id X
  intro H locs hP hD hS ls hl
  unfold F_X4_moveKey_65 at hq
  refine lv_aload_n hx hb dX4_moveKey_65 rfl (lv_at hl 0 rfl) ?_
  obtain ⟨y4, hh5, hq⟩ := q_bd hq
  refine rwV (ci := 4) (wr := []) (As := []) (rest := []) X K (k_X4_hold l G g jo js jp ja jk jt jb un uy uw uq uz us up ua uk ut ub _ hh5) hd_X4_hold gX4_moveKey_X4_hold hP hD hS hA [0, 1, 2, 3, 4, 5, 6] [] rfl rfl ⟨by decide, by decide, by decide⟩ hl.1 dX4_moveKey_66 rfl rfl ⟨Nat.le_of_ble_eq_true rfl, Nat.le_of_ble_eq_true rfl⟩ rfl rfl rfl (Nat.le_of_ble_eq_true rfl) ⟨Nat.zero_le _, Nat.zero_le _⟩ (fun H locs hP hD hS => ?_)
  have hP : va_P G vwCl [(jo, .inr (4, [.ref js, .ref jp, .ref ja, .ref jk, .int un, .ref jt, .int uy, .int uw, .ref jb, .int uq, .int uz])), (js, .inl (g 0, 388, .inl us)), (jp, .inl (g 0, 1552, .inl up)), (ja, .inl (g 0, 388, .inl y4)), (jk, .inl (g 0, 97, .inl uk)), (jt, .inl (g 0, 150, .inl ut)), (jb, .inl (g 0, 1000, .inl ub))] H := hP
  have hD : va_D A [(jo, .inr (4, [.ref js, .ref jp, .ref ja, .ref jk, .int un, .ref jt, .int uy, .int uw, .ref jb, .int uq, .int uz])), (js, .inl (g 0, 388, .inl us)), (jp, .inl (g 0, 1552, .inl up)), (ja, .inl (g 0, 388, .inl y4)), (jk, .inl (g 0, 97, .inl uk)), (jt, .inl (g 0, 150, .inl ut)), (jb, .inl (g 0, 1000, .inl ub))] := hD
  refine lv_aload_n hx hb dX4_moveKey_69 rfl (lv_at hl 0 rfl) ?_
  refine lv_iload_n hx hb dX4_moveKey_70 rfl (lv_at hl 1 rfl) ?_
  refine lv_iload_n hx hb dX4_moveKey_71 rfl (lv_at hl 2 rfl) ?_
  refine lv_iconst (v := 3) hx hb dX4_moveKey_72 (by decide) ?_
  obtain ⟨r6, hh7, hq⟩ := q_bd hq
  refine roV (ci := 4) (As := [.int v1, .int v2, .int 3]) (rest := []) X K (k_X4_of l G g jo js jp ja jk jt jb un uy uw uq uz us up y4 uk ut ub v1 v2 3 _ hh7) hd_X4_of gX4_moveKey_X4_of hP hl.1 dX4_moveKey_73 rfl rfl ⟨Nat.le_of_ble_eq_true rfl, Nat.le_of_ble_eq_true rfl⟩ rfl rfl rfl (Nat.le_of_ble_eq_true rfl) ⟨Nat.zero_le _, Nat.zero_le _⟩ ?_
  refine lv_istore (lv' := [(5, .int r6), (0, .ref jo), (1, .int v1), (2, .int v2), (3, .int v3)]) hx hb dX4_moveKey_76 hl (by decide) rfl (fun ls hl => ?_)
  refine lv_aload_n hx hb dX4_moveKey_78 rfl (lv_at hl 1 rfl) ?_
  refine lv_iload_n hx hb dX4_moveKey_79 rfl (lv_at hl 2 rfl) ?_
  refine lv_iload_n hx hb dX4_moveKey_80 rfl (lv_at hl 3 rfl) ?_
  refine lv_iconst (v := 4) hx hb dX4_moveKey_81 (by decide) ?_
  obtain ⟨r8, hh9, hq⟩ := q_bd hq
  refine roV (ci := 4) (As := [.int v1, .int v2, .int 4]) (rest := []) X K (k_X4_of l G g jo js jp ja jk jt jb un uy uw uq uz us up y4 uk ut ub v1 v2 4 _ hh9) hd_X4_of gX4_moveKey_X4_of hP hl.1 dX4_moveKey_82 rfl rfl ⟨Nat.le_of_ble_eq_true rfl, Nat.le_of_ble_eq_true rfl⟩ rfl rfl rfl (Nat.le_of_ble_eq_true rfl) ⟨Nat.zero_le _, Nat.zero_le _⟩ ?_
  refine lv_istore (lv' := [(6, .int r8), (5, .int r6), (0, .ref jo), (1, .int v1), (2, .int v2), (3, .int v3)]) hx hb dX4_moveKey_85 hl (by decide) rfl (fun ls hl => ?_)
  refine lv_aload_n hx hb dX4_moveKey_87 rfl (lv_at hl 2 rfl) ?_
  refine lv_iload_n hx hb dX4_moveKey_88 rfl (lv_at hl 3 rfl) ?_
  refine lv_iload_n hx hb dX4_moveKey_89 rfl (lv_at hl 4 rfl) ?_
  refine lv_iconst (v := 1) hx hb dX4_moveKey_90 (by decide) ?_
  obtain ⟨r10, hh11, hq⟩ := q_bd hq
  refine roV (ci := 4) (As := [.int v1, .int v2, .int 1]) (rest := []) X K (k_X4_of l G g jo js jp ja jk jt jb un uy uw uq uz us up y4 uk ut ub v1 v2 1 _ hh11) hd_X4_of gX4_moveKey_X4_of hP hl.1 dX4_moveKey_91 rfl rfl ⟨Nat.le_of_ble_eq_true rfl, Nat.le_of_ble_eq_true rfl⟩ rfl rfl rfl (Nat.le_of_ble_eq_true rfl) ⟨Nat.zero_le _, Nat.zero_le _⟩ ?_
  refine lv_istore (lv' := [(7, .int r10), (6, .int r8), (5, .int r6), (0, .ref jo), (1, .int v1), (2, .int v2), (3, .int v3)]) hx hb dX4_moveKey_94 hl (by decide) rfl (fun ls hl => ?_)
  refine lv_aload_n hx hb dX4_moveKey_96 rfl (lv_at hl 3 rfl) ?_
  refine lv_iload_n hx hb dX4_moveKey_97 rfl (lv_at hl 4 rfl) ?_
  refine lv_iload_n hx hb dX4_moveKey_98 rfl (lv_at hl 5 rfl) ?_
  refine lv_iconst (v := 2) hx hb dX4_moveKey_99 (by decide) ?_
  obtain ⟨r12, hh13, hq⟩ := q_bd hq
  refine roV (ci := 4) (As := [.int v1, .int v2, .int 2]) (rest := []) X K (k_X4_of l G g jo js jp ja jk jt jb un uy uw uq uz us up y4 uk ut ub v1 v2 2 _ hh13) hd_X4_of gX4_moveKey_X4_of hP hl.1 dX4_moveKey_100 rfl rfl ⟨Nat.le_of_ble_eq_true rfl, Nat.le_of_ble_eq_true rfl⟩ rfl rfl rfl (Nat.le_of_ble_eq_true rfl) ⟨Nat.zero_le _, Nat.zero_le _⟩ ?_
  refine lv_istore (lv' := [(8, .int r12), (7, .int r10), (6, .int r8), (5, .int r6), (0, .ref jo), (1, .int v1), (2, .int v2), (3, .int v3)]) hx hb dX4_moveKey_103 hl (by decide) rfl (fun ls hl => ?_)
  refine lv_aload_n hx hb dX4_moveKey_105 rfl (lv_at hl 4 rfl) ?_
  refine lv_iload_n hx hb dX4_moveKey_106 rfl (lv_at hl 5 rfl) ?_
  refine lv_iload_n hx hb dX4_moveKey_107 rfl (lv_at hl 6 rfl) ?_
  obtain ⟨y14, hh15, hq⟩ := q_bd hq
  refine rwV (ci := 4) (wr := []) (As := [.int v1, .int v2]) (rest := []) X K (k_X4_goes l G g jo js jp ja jk jt jb un uy uw uq uz us up y4 uk ut ub v1 v2 _ hh15) hd_X4_goes gX4_moveKey_X4_goes hP hD hS hA [0, 1, 2, 3, 4, 5, 6] [] rfl rfl ⟨by decide, by decide, by decide⟩ hl.1 dX4_moveKey_108 rfl rfl ⟨Nat.le_of_ble_eq_true rfl, Nat.le_of_ble_eq_true rfl⟩ rfl rfl rfl (Nat.le_of_ble_eq_true rfl) ⟨Nat.zero_le _, Nat.zero_le _⟩ (fun H locs hP hD hS => ?_)
  have hP : va_P G vwCl [(jo, .inr (4, [.ref js, .ref jp, .ref ja, .ref jk, .int un, .ref jt, .int uy, .int uw, .ref jb, .int uq, .int uz])), (js, .inl (g 0, 388, .inl y14)), (jp, .inl (g 0, 1552, .inl up)), (ja, .inl (g 0, 388, .inl y4)), (jk, .inl (g 0, 97, .inl uk)), (jt, .inl (g 0, 150, .inl ut)), (jb, .inl (g 0, 1000, .inl ub))] H := hP
  have hD : va_D A [(jo, .inr (4, [.ref js, .ref jp, .ref ja, .ref jk, .int un, .ref jt, .int uy, .int uw, .ref jb, .int uq, .int uz])), (js, .inl (g 0, 388, .inl y14)), (jp, .inl (g 0, 1552, .inl up)), (ja, .inl (g 0, 388, .inl y4)), (jk, .inl (g 0, 97, .inl uk)), (jt, .inl (g 0, 150, .inl ut)), (jb, .inl (g 0, 1000, .inl ub))] := hD
  refine lv_aload_n hx hb dX4_moveKey_111 rfl (lv_at hl 4 rfl) ?_
  refine lv_iload_n hx hb dX4_moveKey_112 rfl (lv_at hl 5 rfl) ?_
  refine lv_iload_n hx hb dX4_moveKey_113 rfl (lv_at hl 7 rfl) ?_
  refine lv_iload hx hb dX4_moveKey_114 (lv_at hl 1 rfl) ?_
  refine lv_iload hx hb dX4_moveKey_116 (lv_at hl 0 rfl) ?_
  obtain ⟨⟨r16, y17⟩, hh18, hq⟩ := q_bd hq
  refine rwV (ci := 4) (wr := []) (As := [.int v1, .int v3, .int r10, .int r12]) (rest := []) X K (k_X4_comes l G g jo js jp ja jk jt jb un uy uw uq uz y14 up y4 uk ut ub v1 v3 r10 r12 _ hh18) hd_X4_comes gX4_moveKey_X4_comes hP hD hS hA [0, 1, 2, 3, 4, 5, 6] [] rfl rfl ⟨by decide, by decide, by decide⟩ hl.1 dX4_moveKey_118 rfl rfl ⟨Nat.le_of_ble_eq_true rfl, Nat.le_of_ble_eq_true rfl⟩ rfl rfl rfl (Nat.le_of_ble_eq_true rfl) ⟨Nat.zero_le _, Nat.zero_le _⟩ (fun H locs hP hD hS => ?_)
  have hP : va_P G vwCl [(jo, .inr (4, [.ref js, .ref jp, .ref ja, .ref jk, .int un, .ref jt, .int uy, .int uw, .ref jb, .int uq, .int uz])), (js, .inl (g 0, 388, .inl y17)), (jp, .inl (g 0, 1552, .inl up)), (ja, .inl (g 0, 388, .inl y4)), (jk, .inl (g 0, 97, .inl uk)), (jt, .inl (g 0, 150, .inl ut)), (jb, .inl (g 0, 1000, .inl ub))] H := hP
  have hD : va_D A [(jo, .inr (4, [.ref js, .ref jp, .ref ja, .ref jk, .int un, .ref jt, .int uy, .int uw, .ref jb, .int uq, .int uz])), (js, .inl (g 0, 388, .inl y17)), (jp, .inl (g 0, 1552, .inl up)), (ja, .inl (g 0, 388, .inl y4)), (jk, .inl (g 0, 97, .inl uk)), (jt, .inl (g 0, 150, .inl ut)), (jb, .inl (g 0, 1000, .inl ub))] := hD
  refine lv_istore (lv' := [(9, .int r16), (8, .int r12), (7, .int r10), (6, .int r8), (5, .int r6), (0, .ref jo), (1, .int v1), (2, .int v2), (3, .int v3)]) hx hb dX4_moveKey_121 hl (by decide) rfl (fun ls hl => ?_)
  refine lv_aload_n hx hb dX4_moveKey_123 rfl (lv_at hl 5 rfl) ?_
  refine va_get (D := G) (ci := 4) (v := .ref js) (C := RX4) (T := TX4) (N := 11) hx hb hts in_X4_moveKey_X4 hown K.1 hP 0 rfl rfl 0 (by decide) (hts _ (List.mem_of_getElem? (i := 1) rfl)) (fun _ h9 => h9) rfl dX4_moveKey_124 ?_
  refine lv_iload_n hx hb dX4_moveKey_127 rfl (lv_at hl 6 rfl) ?_
  refine lv_iload hx hb dX4_moveKey_128 (lv_at hl 0 rfl) ?_
  obtain ⟨r20, hh21, hq⟩ := q_bd hq
  refine roS (As := [.int v1, .int r16]) (rest := [.ref js]) X K (k_X4_spot l G g v1 r16 _ hh21) hd_X4_spot gX4_moveKey_X4_spot (hP.sub [] rfl) hl.1 dX4_moveKey_130 rfl rfl ⟨Nat.le_of_ble_eq_true rfl, Nat.le_of_ble_eq_true rfl⟩ rfl (Nat.le_of_ble_eq_true rfl) ⟨Nat.zero_le _, Nat.zero_le _⟩ ?_
  refine lv_iconst (v := 3) hx hb dX4_moveKey_133 (by decide) ?_
  refine lv_iadd hx hb dX4_moveKey_134 ?_
  refine lv_iload hx hb dX4_moveKey_135 (lv_at hl 4 rfl) ?_
  obtain ⟨hh22, hq⟩ := q_gd hq
  refine va_iast hx hb K.1 hP hD hS 1 0 rfl rfl (vp_in_iff.mpr hh22) dX4_moveKey_137 (fun H locs hP hD hS => ?_)
  obtain ⟨f23, ef23⟩ : ∃ y, y = upd y17 (r20 + 3).toNatClampNeg r6 := ⟨_, rfl⟩
  have hq := q_let hq ef23
  have hP : va_P G vwCl [(jo, .inr (4, [.ref js, .ref jp, .ref ja, .ref jk, .int un, .ref jt, .int uy, .int uw, .ref jb, .int uq, .int uz])), (js, .inl (g 0, 388, .inl f23)), (jp, .inl (g 0, 1552, .inl up)), (ja, .inl (g 0, 388, .inl y4)), (jk, .inl (g 0, 97, .inl uk)), (jt, .inl (g 0, 150, .inl ut)), (jb, .inl (g 0, 1000, .inl ub))] H := by rw [ef23]; exact hP
  have hD : va_D A [(jo, .inr (4, [.ref js, .ref jp, .ref ja, .ref jk, .int un, .ref jt, .int uy, .int uw, .ref jb, .int uq, .int uz])), (js, .inl (g 0, 388, .inl f23)), (jp, .inl (g 0, 1552, .inl up)), (ja, .inl (g 0, 388, .inl y4)), (jk, .inl (g 0, 97, .inl uk)), (jt, .inl (g 0, 150, .inl ut)), (jb, .inl (g 0, 1000, .inl ub))] := by rw [ef23]; exact hD
  refine lv_aload_n hx hb dX4_moveKey_138 rfl (lv_at hl 5 rfl) ?_
  refine va_get (D := G) (ci := 4) (v := .ref js) (C := RX4) (T := TX4) (N := 11) hx hb hts in_X4_moveKey_X4 hown K.1 hP 0 rfl rfl 0 (by decide) (hts _ (List.mem_of_getElem? (i := 1) rfl)) (fun _ h9 => h9) rfl dX4_moveKey_139 ?_
  refine lv_iload_n hx hb dX4_moveKey_142 rfl (lv_at hl 6 rfl) ?_
  refine lv_iload hx hb dX4_moveKey_143 (lv_at hl 0 rfl) ?_
  obtain ⟨r24, hh25, hq⟩ := q_bd hq
  refine roS (As := [.int v1, .int r16]) (rest := [.ref js]) X K (k_X4_spot l G g v1 r16 _ hh25) hd_X4_spot gX4_moveKey_X4_spot (hP.sub [] rfl) hl.1 dX4_moveKey_145 rfl rfl ⟨Nat.le_of_ble_eq_true rfl, Nat.le_of_ble_eq_true rfl⟩ rfl (Nat.le_of_ble_eq_true rfl) ⟨Nat.zero_le _, Nat.zero_le _⟩ ?_
  refine lv_iconst (v := 4) hx hb dX4_moveKey_148 (by decide) ?_
  refine lv_iadd hx hb dX4_moveKey_149 ?_
  refine lv_iload hx hb dX4_moveKey_150 (lv_at hl 3 rfl) ?_
  obtain ⟨hh26, hq⟩ := q_gd hq
  refine va_iast hx hb K.1 hP hD hS 1 0 rfl rfl (vp_in_iff.mpr hh26) dX4_moveKey_152 (fun H locs hP hD hS => ?_)
  obtain ⟨f27, ef27⟩ : ∃ y, y = upd f23 (r24 + 4).toNatClampNeg r8 := ⟨_, rfl⟩
  have hq := q_let hq ef27
  have hP : va_P G vwCl [(jo, .inr (4, [.ref js, .ref jp, .ref ja, .ref jk, .int un, .ref jt, .int uy, .int uw, .ref jb, .int uq, .int uz])), (js, .inl (g 0, 388, .inl f27)), (jp, .inl (g 0, 1552, .inl up)), (ja, .inl (g 0, 388, .inl y4)), (jk, .inl (g 0, 97, .inl uk)), (jt, .inl (g 0, 150, .inl ut)), (jb, .inl (g 0, 1000, .inl ub))] H := by rw [ef27]; exact hP
  have hD : va_D A [(jo, .inr (4, [.ref js, .ref jp, .ref ja, .ref jk, .int un, .ref jt, .int uy, .int uw, .ref jb, .int uq, .int uz])), (js, .inl (g 0, 388, .inl f27)), (jp, .inl (g 0, 1552, .inl up)), (ja, .inl (g 0, 388, .inl y4)), (jk, .inl (g 0, 97, .inl uk)), (jt, .inl (g 0, 150, .inl ut)), (jb, .inl (g 0, 1000, .inl ub))] := by rw [ef27]; exact hD
  refine lv_aload_n hx hb dX4_moveKey_153 rfl (lv_at hl 5 rfl) ?_
  refine lv_iload hx hb dX4_moveKey_154 (lv_at hl 0 rfl) ?_
  obtain ⟨⟨r28, y29, y30, y31⟩, hh32, hq⟩ := q_bd hq
  refine rwV (ci := 4) (wr := []) (As := [.int r16]) (rest := []) X K (k_X4_ends l G g jo js jp ja jk jt jb un uy uw uq uz f27 up y4 uk ut ub r16 _ hh32) hd_X4_ends gX4_moveKey_X4_ends hP hD hS hA [0, 1, 2, 3, 4, 5, 6] [] rfl rfl ⟨by decide, by decide, by decide⟩ hl.1 dX4_moveKey_156 rfl rfl ⟨Nat.le_of_ble_eq_true rfl, Nat.le_of_ble_eq_true rfl⟩ rfl rfl rfl (Nat.le_of_ble_eq_true rfl) ⟨Nat.zero_le _, Nat.zero_le _⟩ (fun H locs hP hD hS => ?_)
  have hP : va_P G vwCl [(jo, .inr (4, [.ref js, .ref jp, .ref ja, .ref jk, .int y29, .ref jt, .int uy, .int y30, .ref jb, .int uq, .int uz])), (js, .inl (g 0, 388, .inl f27)), (jp, .inl (g 0, 1552, .inl y31)), (ja, .inl (g 0, 388, .inl y4)), (jk, .inl (g 0, 97, .inl uk)), (jt, .inl (g 0, 150, .inl ut)), (jb, .inl (g 0, 1000, .inl ub))] H := hP
  have hD : va_D A [(jo, .inr (4, [.ref js, .ref jp, .ref ja, .ref jk, .int y29, .ref jt, .int uy, .int y30, .ref jb, .int uq, .int uz])), (js, .inl (g 0, 388, .inl f27)), (jp, .inl (g 0, 1552, .inl y31)), (ja, .inl (g 0, 388, .inl y4)), (jk, .inl (g 0, 97, .inl uk)), (jt, .inl (g 0, 150, .inl ut)), (jb, .inl (g 0, 1000, .inl ub))] := hD
  obtain rfl := q_rt hq
  exact rw_iret hx hb hr hk hP hD hS dX4_moveKey_159
def F_X4_moveKey (un : Int32) (uw : Int32) (us : Nat → Int32) (up : Nat → Int32) (ua : Nat → Int32) (p1 : Int32) (p2 : Int32) (p3 : Int32) : Option (Int32 × Int32 × Int32 × (Nat → Int32) × (Nat → Int32) × (Nat → Int32)) := (F_X4_isKey us p1 p2).bind fun r1 => if r1 = 0 then ((F_X4_fails uw 1).bind fun o29 => some (o29.1, un, o29.2, us, up, ua)) else ((F_X4_isFrame p3).bind fun r4 => if r4 = 0 then ((F_X4_fails uw 2).bind fun o25 => some (o25.1, un, o25.2, us, up, ua)) else ((F_X4_keyAt us p1 p3).bind fun r7 => (F_X4_of us p1 p2 5).bind fun r9 => if r9 = 1 then ((F_X4_fails uw 3).bind fun o15 => some (o15.1, un, o15.2, us, up, ua)) else (if r7 = (-1) then (F_X4_moveKey_65 un uw us up ua p1 p2 p3) else (if r7 = p2 then (F_X4_moveKey_65 un uw us up ua p1 p2 p3) else ((F_X4_fails uw 3).bind fun o21 => some (o21.1, un, o21.2, us, up, ua))))))
set_option maxHeartbeats 4000000 in
set_option maxRecDepth 100000 in
theorem k_X4_moveKey (l : Launch) (G : va_G) (g : Nat → ClassId) (jo js jp ja jk jt jb : Nat) (un : Int32) (uy : Int32) (uw : Int32) (uq : Int32) (uz : Int32) (us : Nat → Int32) (up : Nat → Int32) (ua : Nat → Int32) (uk : Nat → Int32) (ut : Nat → Int32) (ub : Nat → Int32) (p1 : Int32) (p2 : Int32) (p3 : Int32) (res : Int32 × Int32 × Int32 × (Nat → Int32) × (Nat → Int32) × (Nat → Int32)) (hq : F_X4_moveKey un uw us up ua p1 p2 p3 = some res) : rwC l yX4_moveKey wsX4_moveKey (rmF 3 70) G g [.ref jo, .int p1, .int p2, .int p3] [(jo, .inr (4, [.ref js, .ref jp, .ref ja, .ref jk, .int un, .ref jt, .int uy, .int uw, .ref jb, .int uq, .int uz])), (js, .inl (g 0, 388, .inl us)), (jp, .inl (g 0, 1552, .inl up)), (ja, .inl (g 0, 388, .inl ua)), (jk, .inl (g 0, 97, .inl uk)), (jt, .inl (g 0, 150, .inl ut)), (jb, .inl (g 0, 1000, .inl ub))] (some (.int res.1)) [(jo, .inr (4, [.ref js, .ref jp, .ref ja, .ref jk, .int res.2.1, .ref jt, .int uy, .int res.2.2.1, .ref jb, .int uq, .int uz])), (js, .inl (g 0, 388, .inl res.2.2.2.1)), (jp, .inl (g 0, 1552, .inl res.2.2.2.2.1)), (ja, .inl (g 0, 388, .inl res.2.2.2.2.2)), (jk, .inl (g 0, 97, .inl uk)), (jt, .inl (g 0, 150, .inl ut)), (jb, .inl (g 0, 1000, .inl ub))] := by
  refine rwC.of (cc := cX4_moveKey) (maxL := 10) (ret := (some .int)) (by decide) rfl (Nat.le_of_ble_eq_true rfl) ?_
  intro p e s m below meth c ls A X K hA hP hD hS hl
  obtain ⟨hx, hb, hml, hr, hown, hts, hk⟩ := id X
  have hl : lv_has ls 10 [(0, .ref jo), (1, .int p1), (2, .int p2), (3, .int p3)] := hl
  unfold F_X4_moveKey at hq
  refine lv_aload_n hx hb dX4_moveKey_0 rfl (lv_at hl 0 rfl) ?_
  refine lv_iload_n hx hb dX4_moveKey_1 rfl (lv_at hl 1 rfl) ?_
  refine lv_iload_n hx hb dX4_moveKey_2 rfl (lv_at hl 2 rfl) ?_
  obtain ⟨r1, hh2, hq⟩ := q_bd hq
  refine roV (ci := 4) (As := [.int p1, .int p2]) (rest := []) X K (k_X4_isKey l G g jo js jp ja jk jt jb un uy uw uq uz us up ua uk ut ub p1 p2 _ hh2) hd_X4_isKey gX4_moveKey_X4_isKey hP hl.1 dX4_moveKey_3 rfl rfl ⟨Nat.le_of_ble_eq_true rfl, Nat.le_of_ble_eq_true rfl⟩ rfl rfl rfl (Nat.le_of_ble_eq_true rfl) ⟨Nat.zero_le _, Nat.zero_le _⟩ ?_
  refine lv_if_ne (tgt := 15) hx hb dX4_moveKey_6 (by decide) (fun c3 => ?_) (fun c3 => ?_)
  · have hq := q_if_f hq c3
    refine lv_iload_n hx hb dX4_moveKey_15 rfl (lv_at hl 3 rfl) ?_
    obtain ⟨r4, hh5, hq⟩ := q_bd hq
    refine roS (As := [.int p3]) (rest := []) X K (k_X4_isFrame l G g p3 _ hh5) hd_X4_isFrame gX4_moveKey_X4_isFrame (hP.sub [] rfl) hl.1 dX4_moveKey_16 rfl rfl ⟨Nat.le_of_ble_eq_true rfl, Nat.le_of_ble_eq_true rfl⟩ rfl (Nat.le_of_ble_eq_true rfl) ⟨Nat.zero_le _, Nat.zero_le _⟩ ?_
    refine lv_if_ne (tgt := 28) hx hb dX4_moveKey_19 (by decide) (fun c6 => ?_) (fun c6 => ?_)
    · have hq := q_if_f hq c6
      refine lv_aload_n hx hb dX4_moveKey_28 rfl (lv_at hl 0 rfl) ?_
      refine lv_iload_n hx hb dX4_moveKey_29 rfl (lv_at hl 1 rfl) ?_
      refine lv_iload_n hx hb dX4_moveKey_30 rfl (lv_at hl 3 rfl) ?_
      obtain ⟨r7, hh8, hq⟩ := q_bd hq
      refine roV (ci := 4) (As := [.int p1, .int p3]) (rest := []) X K (k_X4_keyAt l G g jo js jp ja jk jt jb un uy uw uq uz us up ua uk ut ub p1 p3 _ hh8) hd_X4_keyAt gX4_moveKey_X4_keyAt hP hl.1 dX4_moveKey_31 rfl rfl ⟨Nat.le_of_ble_eq_true rfl, Nat.le_of_ble_eq_true rfl⟩ rfl rfl rfl (Nat.le_of_ble_eq_true rfl) ⟨Nat.zero_le _, Nat.zero_le _⟩ ?_
      refine lv_istore (lv' := [(4, .int r7), (0, .ref jo), (1, .int p1), (2, .int p2), (3, .int p3)]) hx hb dX4_moveKey_34 hl (by decide) rfl (fun ls hl => ?_)
      refine lv_aload_n hx hb dX4_moveKey_36 rfl (lv_at hl 1 rfl) ?_
      refine lv_iload_n hx hb dX4_moveKey_37 rfl (lv_at hl 2 rfl) ?_
      refine lv_iload_n hx hb dX4_moveKey_38 rfl (lv_at hl 3 rfl) ?_
      refine lv_iconst (v := 5) hx hb dX4_moveKey_39 (by decide) ?_
      obtain ⟨r9, hh10, hq⟩ := q_bd hq
      refine roV (ci := 4) (As := [.int p1, .int p2, .int 5]) (rest := []) X K (k_X4_of l G g jo js jp ja jk jt jb un uy uw uq uz us up ua uk ut ub p1 p2 5 _ hh10) hd_X4_of gX4_moveKey_X4_of hP hl.1 dX4_moveKey_40 rfl rfl ⟨Nat.le_of_ble_eq_true rfl, Nat.le_of_ble_eq_true rfl⟩ rfl rfl rfl (Nat.le_of_ble_eq_true rfl) ⟨Nat.zero_le _, Nat.zero_le _⟩ ?_
      refine lv_iconst (v := 1) hx hb dX4_moveKey_43 (by decide) ?_
      refine lv_icmp_eq (tgt := 59) hx hb dX4_moveKey_44 (by decide) (fun c11 => ?_) (fun c11 => ?_)
      · have hq := q_if_t hq c11
        refine lv_aload_n hx hb dX4_moveKey_59 rfl (lv_at hl 1 rfl) ?_
        refine lv_iconst (v := 3) hx hb dX4_moveKey_60 (by decide) ?_
        obtain ⟨⟨r12, y13⟩, hh14, hq⟩ := q_bd hq
        refine rwV (ci := 4) (wr := []) (As := [.int 3]) (rest := []) X K (k_X4_fails l G g jo js jp ja jk jt jb un uy uw uq uz us up ua uk ut ub 3 _ hh14) hd_X4_fails gX4_moveKey_X4_fails hP hD hS hA [0, 1, 2, 3, 4, 5, 6] [] rfl rfl ⟨by decide, by decide, by decide⟩ hl.1 dX4_moveKey_61 rfl rfl ⟨Nat.le_of_ble_eq_true rfl, Nat.le_of_ble_eq_true rfl⟩ rfl rfl rfl (Nat.le_of_ble_eq_true rfl) ⟨Nat.zero_le _, Nat.zero_le _⟩ (fun H locs hP hD hS => ?_)
        have hP : va_P G vwCl [(jo, .inr (4, [.ref js, .ref jp, .ref ja, .ref jk, .int un, .ref jt, .int uy, .int y13, .ref jb, .int uq, .int uz])), (js, .inl (g 0, 388, .inl us)), (jp, .inl (g 0, 1552, .inl up)), (ja, .inl (g 0, 388, .inl ua)), (jk, .inl (g 0, 97, .inl uk)), (jt, .inl (g 0, 150, .inl ut)), (jb, .inl (g 0, 1000, .inl ub))] H := hP
        have hD : va_D A [(jo, .inr (4, [.ref js, .ref jp, .ref ja, .ref jk, .int un, .ref jt, .int uy, .int y13, .ref jb, .int uq, .int uz])), (js, .inl (g 0, 388, .inl us)), (jp, .inl (g 0, 1552, .inl up)), (ja, .inl (g 0, 388, .inl ua)), (jk, .inl (g 0, 97, .inl uk)), (jt, .inl (g 0, 150, .inl ut)), (jb, .inl (g 0, 1000, .inl ub))] := hD
        obtain rfl := q_rt hq
        exact rw_iret hx hb hr hk hP hD hS dX4_moveKey_64
      · have hq := q_if_f hq c11
        refine lv_iload hx hb dX4_moveKey_47 (lv_at hl 0 rfl) ?_
        refine lv_iconst (v := (-1)) hx hb dX4_moveKey_49 (by decide) ?_
        refine lv_icmp_eq (tgt := 65) hx hb dX4_moveKey_50 (by decide) (fun c16 => ?_) (fun c16 => ?_)
        · have hq := q_if_t hq c16
          exact w_X4_moveKey_65 X K hA jo js jp ja jk jt jb uy uq uz uk ut ub un uw us up ua p1 p2 p3 _ hq _ _ hP hD hS ls (lv_sub hl [1, 2, 3, 4] rfl)
        · have hq := q_if_f hq c16
          refine lv_iload hx hb dX4_moveKey_53 (lv_at hl 0 rfl) ?_
          refine lv_iload_n hx hb dX4_moveKey_55 rfl (lv_at hl 3 rfl) ?_
          refine lv_icmp_eq (tgt := 65) hx hb dX4_moveKey_56 (by decide) (fun c17 => ?_) (fun c17 => ?_)
          · have hq := q_if_t hq c17
            exact w_X4_moveKey_65 X K hA jo js jp ja jk jt jb uy uq uz uk ut ub un uw us up ua p1 p2 p3 _ hq _ _ hP hD hS ls (lv_sub hl [1, 2, 3, 4] rfl)
          · have hq := q_if_f hq c17
            refine lv_aload_n hx hb dX4_moveKey_59 rfl (lv_at hl 1 rfl) ?_
            refine lv_iconst (v := 3) hx hb dX4_moveKey_60 (by decide) ?_
            obtain ⟨⟨r18, y19⟩, hh20, hq⟩ := q_bd hq
            refine rwV (ci := 4) (wr := []) (As := [.int 3]) (rest := []) X K (k_X4_fails l G g jo js jp ja jk jt jb un uy uw uq uz us up ua uk ut ub 3 _ hh20) hd_X4_fails gX4_moveKey_X4_fails hP hD hS hA [0, 1, 2, 3, 4, 5, 6] [] rfl rfl ⟨by decide, by decide, by decide⟩ hl.1 dX4_moveKey_61 rfl rfl ⟨Nat.le_of_ble_eq_true rfl, Nat.le_of_ble_eq_true rfl⟩ rfl rfl rfl (Nat.le_of_ble_eq_true rfl) ⟨Nat.zero_le _, Nat.zero_le _⟩ (fun H locs hP hD hS => ?_)
            have hP : va_P G vwCl [(jo, .inr (4, [.ref js, .ref jp, .ref ja, .ref jk, .int un, .ref jt, .int uy, .int y19, .ref jb, .int uq, .int uz])), (js, .inl (g 0, 388, .inl us)), (jp, .inl (g 0, 1552, .inl up)), (ja, .inl (g 0, 388, .inl ua)), (jk, .inl (g 0, 97, .inl uk)), (jt, .inl (g 0, 150, .inl ut)), (jb, .inl (g 0, 1000, .inl ub))] H := hP
            have hD : va_D A [(jo, .inr (4, [.ref js, .ref jp, .ref ja, .ref jk, .int un, .ref jt, .int uy, .int y19, .ref jb, .int uq, .int uz])), (js, .inl (g 0, 388, .inl us)), (jp, .inl (g 0, 1552, .inl up)), (ja, .inl (g 0, 388, .inl ua)), (jk, .inl (g 0, 97, .inl uk)), (jt, .inl (g 0, 150, .inl ut)), (jb, .inl (g 0, 1000, .inl ub))] := hD
            obtain rfl := q_rt hq
            exact rw_iret hx hb hr hk hP hD hS dX4_moveKey_64
    · have hq := q_if_t hq c6
      refine lv_aload_n hx hb dX4_moveKey_22 rfl (lv_at hl 0 rfl) ?_
      refine lv_iconst (v := 2) hx hb dX4_moveKey_23 (by decide) ?_
      obtain ⟨⟨r22, y23⟩, hh24, hq⟩ := q_bd hq
      refine rwV (ci := 4) (wr := []) (As := [.int 2]) (rest := []) X K (k_X4_fails l G g jo js jp ja jk jt jb un uy uw uq uz us up ua uk ut ub 2 _ hh24) hd_X4_fails gX4_moveKey_X4_fails hP hD hS hA [0, 1, 2, 3, 4, 5, 6] [] rfl rfl ⟨by decide, by decide, by decide⟩ hl.1 dX4_moveKey_24 rfl rfl ⟨Nat.le_of_ble_eq_true rfl, Nat.le_of_ble_eq_true rfl⟩ rfl rfl rfl (Nat.le_of_ble_eq_true rfl) ⟨Nat.zero_le _, Nat.zero_le _⟩ (fun H locs hP hD hS => ?_)
      have hP : va_P G vwCl [(jo, .inr (4, [.ref js, .ref jp, .ref ja, .ref jk, .int un, .ref jt, .int uy, .int y23, .ref jb, .int uq, .int uz])), (js, .inl (g 0, 388, .inl us)), (jp, .inl (g 0, 1552, .inl up)), (ja, .inl (g 0, 388, .inl ua)), (jk, .inl (g 0, 97, .inl uk)), (jt, .inl (g 0, 150, .inl ut)), (jb, .inl (g 0, 1000, .inl ub))] H := hP
      have hD : va_D A [(jo, .inr (4, [.ref js, .ref jp, .ref ja, .ref jk, .int un, .ref jt, .int uy, .int y23, .ref jb, .int uq, .int uz])), (js, .inl (g 0, 388, .inl us)), (jp, .inl (g 0, 1552, .inl up)), (ja, .inl (g 0, 388, .inl ua)), (jk, .inl (g 0, 97, .inl uk)), (jt, .inl (g 0, 150, .inl ut)), (jb, .inl (g 0, 1000, .inl ub))] := hD
      obtain rfl := q_rt hq
      exact rw_iret hx hb hr hk hP hD hS dX4_moveKey_27
  · have hq := q_if_t hq c3
    refine lv_aload_n hx hb dX4_moveKey_9 rfl (lv_at hl 0 rfl) ?_
    refine lv_iconst (v := 1) hx hb dX4_moveKey_10 (by decide) ?_
    obtain ⟨⟨r26, y27⟩, hh28, hq⟩ := q_bd hq
    refine rwV (ci := 4) (wr := []) (As := [.int 1]) (rest := []) X K (k_X4_fails l G g jo js jp ja jk jt jb un uy uw uq uz us up ua uk ut ub 1 _ hh28) hd_X4_fails gX4_moveKey_X4_fails hP hD hS hA [0, 1, 2, 3, 4, 5, 6] [] rfl rfl ⟨by decide, by decide, by decide⟩ hl.1 dX4_moveKey_11 rfl rfl ⟨Nat.le_of_ble_eq_true rfl, Nat.le_of_ble_eq_true rfl⟩ rfl rfl rfl (Nat.le_of_ble_eq_true rfl) ⟨Nat.zero_le _, Nat.zero_le _⟩ (fun H locs hP hD hS => ?_)
    have hP : va_P G vwCl [(jo, .inr (4, [.ref js, .ref jp, .ref ja, .ref jk, .int un, .ref jt, .int uy, .int y27, .ref jb, .int uq, .int uz])), (js, .inl (g 0, 388, .inl us)), (jp, .inl (g 0, 1552, .inl up)), (ja, .inl (g 0, 388, .inl ua)), (jk, .inl (g 0, 97, .inl uk)), (jt, .inl (g 0, 150, .inl ut)), (jb, .inl (g 0, 1000, .inl ub))] H := hP
    have hD : va_D A [(jo, .inr (4, [.ref js, .ref jp, .ref ja, .ref jk, .int un, .ref jt, .int uy, .int y27, .ref jb, .int uq, .int uz])), (js, .inl (g 0, 388, .inl us)), (jp, .inl (g 0, 1552, .inl up)), (ja, .inl (g 0, 388, .inl ua)), (jk, .inl (g 0, 97, .inl uk)), (jt, .inl (g 0, 150, .inl ut)), (jb, .inl (g 0, 1000, .inl ub))] := hD
    obtain rfl := q_rt hq
    exact rw_iret hx hb hr hk hP hD hS dX4_moveKey_14
theorem in_X4_setTangent_X4 : ∀ w ∈ wsX40, w ∈ wsX4_setTangent := fun _ h => List.mem_cons_of_mem _ (List.mem_append_right _ h)
def F_X4_setTangent (un : Int32) (uw : Int32) (us : Nat → Int32) (up : Nat → Int32) (ua : Nat → Int32) (p1 : Int32) (p2 : Int32) (p3 : Int32) (p4 : Int32) : Option (Int32 × Int32 × Int32 × (Nat → Int32) × (Nat → Int32) × (Nat → Int32)) := (F_X4_isKey us p1 p2).bind fun r1 => if r1 = 0 then ((F_X4_fails uw 1).bind fun o46 => some (o46.1, un, o46.2, us, up, ua)) else ((F_X4_in p3 0 2).bind fun r4 => if r4 = 0 then ((F_X4_fails uw 2).bind fun o10 => some (o10.1, un, o10.2, us, up, ua)) else ((F_X4_in p4 (-99999) 99999).bind fun r11 => if r11 = 0 then ((F_X4_fails uw 2).bind fun o42 => some (o42.1, un, o42.2, us, up, ua)) else ((F_X4_of us p1 p2 5).bind fun r14 => if r14 = 1 then ((F_X4_fails uw 3).bind fun o38 => some (o38.1, un, o38.2, us, up, ua)) else ((F_X4_hold us ua).bind fun y17 => (F_X4_tangent us p1 p2).bind fun r19 => (F_X4_spot p1 p2).bind fun r21 => vgd (ix (r21 + 3) 388) <| vlet (upd us (r21 + 3).toNatClampNeg p3) fun f24 => (F_X4_spot p1 p2).bind fun r25 => vgd (ix (r25 + 4) 388) <| vlet (upd f24 (r25 + 4).toNatClampNeg p4) fun f28 => (F_X4_ends un uw up y17 r19).bind fun o34 => some (o34.1, o34.2.1, o34.2.2.1, f28, o34.2.2.2, y17)))))
set_option maxHeartbeats 4000000 in
set_option maxRecDepth 100000 in
theorem k_X4_setTangent (l : Launch) (G : va_G) (g : Nat → ClassId) (jo js jp ja jk jt jb : Nat) (un : Int32) (uy : Int32) (uw : Int32) (uq : Int32) (uz : Int32) (us : Nat → Int32) (up : Nat → Int32) (ua : Nat → Int32) (uk : Nat → Int32) (ut : Nat → Int32) (ub : Nat → Int32) (p1 : Int32) (p2 : Int32) (p3 : Int32) (p4 : Int32) (res : Int32 × Int32 × Int32 × (Nat → Int32) × (Nat → Int32) × (Nat → Int32)) (hq : F_X4_setTangent un uw us up ua p1 p2 p3 p4 = some res) : rwC l yX4_setTangent wsX4_setTangent (rmF 3 71) G g [.ref jo, .int p1, .int p2, .int p3, .int p4] [(jo, .inr (4, [.ref js, .ref jp, .ref ja, .ref jk, .int un, .ref jt, .int uy, .int uw, .ref jb, .int uq, .int uz])), (js, .inl (g 0, 388, .inl us)), (jp, .inl (g 0, 1552, .inl up)), (ja, .inl (g 0, 388, .inl ua)), (jk, .inl (g 0, 97, .inl uk)), (jt, .inl (g 0, 150, .inl ut)), (jb, .inl (g 0, 1000, .inl ub))] (some (.int res.1)) [(jo, .inr (4, [.ref js, .ref jp, .ref ja, .ref jk, .int res.2.1, .ref jt, .int uy, .int res.2.2.1, .ref jb, .int uq, .int uz])), (js, .inl (g 0, 388, .inl res.2.2.2.1)), (jp, .inl (g 0, 1552, .inl res.2.2.2.2.1)), (ja, .inl (g 0, 388, .inl res.2.2.2.2.2)), (jk, .inl (g 0, 97, .inl uk)), (jt, .inl (g 0, 150, .inl ut)), (jb, .inl (g 0, 1000, .inl ub))] := by
  refine rwC.of (cc := cX4_setTangent) (maxL := 6) (ret := (some .int)) (by decide) rfl (Nat.le_of_ble_eq_true rfl) ?_
  intro p e s m below meth c ls A X K hA hP hD hS hl
  obtain ⟨hx, hb, hml, hr, hown, hts, hk⟩ := id X
  have hl : lv_has ls 6 [(0, .ref jo), (1, .int p1), (2, .int p2), (3, .int p3), (4, .int p4)] := hl
  unfold F_X4_setTangent at hq
  refine lv_aload_n hx hb dX4_setTangent_0 rfl (lv_at hl 0 rfl) ?_
  refine lv_iload_n hx hb dX4_setTangent_1 rfl (lv_at hl 1 rfl) ?_
  refine lv_iload_n hx hb dX4_setTangent_2 rfl (lv_at hl 2 rfl) ?_
  obtain ⟨r1, hh2, hq⟩ := q_bd hq
  refine roV (ci := 4) (As := [.int p1, .int p2]) (rest := []) X K (k_X4_isKey l G g jo js jp ja jk jt jb un uy uw uq uz us up ua uk ut ub p1 p2 _ hh2) hd_X4_isKey gX4_setTangent_X4_isKey hP hl.1 dX4_setTangent_3 rfl rfl ⟨Nat.le_of_ble_eq_true rfl, Nat.le_of_ble_eq_true rfl⟩ rfl rfl rfl (Nat.le_of_ble_eq_true rfl) ⟨Nat.zero_le _, Nat.zero_le _⟩ ?_
  refine lv_if_ne (tgt := 15) hx hb dX4_setTangent_6 (by decide) (fun c3 => ?_) (fun c3 => ?_)
  · have hq := q_if_f hq c3
    refine lv_iload_n hx hb dX4_setTangent_15 rfl (lv_at hl 3 rfl) ?_
    refine lv_iconst (v := 0) hx hb dX4_setTangent_16 (by decide) ?_
    refine lv_iconst (v := 2) hx hb dX4_setTangent_17 (by decide) ?_
    obtain ⟨r4, hh5, hq⟩ := q_bd hq
    refine roS (As := [.int p3, .int 0, .int 2]) (rest := []) X K (k_X4_in l G g p3 0 2 _ hh5) hd_X4_in gX4_setTangent_X4_in (hP.sub [] rfl) hl.1 dX4_setTangent_18 rfl rfl ⟨Nat.le_of_ble_eq_true rfl, Nat.le_of_ble_eq_true rfl⟩ rfl (Nat.le_of_ble_eq_true rfl) ⟨Nat.zero_le _, Nat.zero_le _⟩ ?_
    refine lv_if_eq (tgt := 36) hx hb dX4_setTangent_21 (by decide) (fun c6 => ?_) (fun c6 => ?_)
    · have hq := q_if_t hq c6
      refine lv_aload_n hx hb dX4_setTangent_36 rfl (lv_at hl 0 rfl) ?_
      refine lv_iconst (v := 2) hx hb dX4_setTangent_37 (by decide) ?_
      obtain ⟨⟨r7, y8⟩, hh9, hq⟩ := q_bd hq
      refine rwV (ci := 4) (wr := []) (As := [.int 2]) (rest := []) X K (k_X4_fails l G g jo js jp ja jk jt jb un uy uw uq uz us up ua uk ut ub 2 _ hh9) hd_X4_fails gX4_setTangent_X4_fails hP hD hS hA [0, 1, 2, 3, 4, 5, 6] [] rfl rfl ⟨by decide, by decide, by decide⟩ hl.1 dX4_setTangent_38 rfl rfl ⟨Nat.le_of_ble_eq_true rfl, Nat.le_of_ble_eq_true rfl⟩ rfl rfl rfl (Nat.le_of_ble_eq_true rfl) ⟨Nat.zero_le _, Nat.zero_le _⟩ (fun H locs hP hD hS => ?_)
      have hP : va_P G vwCl [(jo, .inr (4, [.ref js, .ref jp, .ref ja, .ref jk, .int un, .ref jt, .int uy, .int y8, .ref jb, .int uq, .int uz])), (js, .inl (g 0, 388, .inl us)), (jp, .inl (g 0, 1552, .inl up)), (ja, .inl (g 0, 388, .inl ua)), (jk, .inl (g 0, 97, .inl uk)), (jt, .inl (g 0, 150, .inl ut)), (jb, .inl (g 0, 1000, .inl ub))] H := hP
      have hD : va_D A [(jo, .inr (4, [.ref js, .ref jp, .ref ja, .ref jk, .int un, .ref jt, .int uy, .int y8, .ref jb, .int uq, .int uz])), (js, .inl (g 0, 388, .inl us)), (jp, .inl (g 0, 1552, .inl up)), (ja, .inl (g 0, 388, .inl ua)), (jk, .inl (g 0, 97, .inl uk)), (jt, .inl (g 0, 150, .inl ut)), (jb, .inl (g 0, 1000, .inl ub))] := hD
      obtain rfl := q_rt hq
      exact rw_iret hx hb hr hk hP hD hS dX4_setTangent_41
    · have hq := q_if_f hq c6
      refine lv_iload hx hb dX4_setTangent_24 (lv_at hl 4 rfl) ?_
      refine lv_ldc (v := (-99999)) hx hb hown (hts _ (List.mem_of_getElem? (i := 1) rfl)) dX4_setTangent_26 ?_
      refine lv_ldc (v := 99999) hx hb hown (hts _ (List.mem_of_getElem? (i := 2) rfl)) dX4_setTangent_28 ?_
      obtain ⟨r11, hh12, hq⟩ := q_bd hq
      refine roS (As := [.int p4, .int (-99999), .int 99999]) (rest := []) X K (k_X4_in l G g p4 (-99999) 99999 _ hh12) hd_X4_in gX4_setTangent_X4_in (hP.sub [] rfl) hl.1 dX4_setTangent_30 rfl rfl ⟨Nat.le_of_ble_eq_true rfl, Nat.le_of_ble_eq_true rfl⟩ rfl (Nat.le_of_ble_eq_true rfl) ⟨Nat.zero_le _, Nat.zero_le _⟩ ?_
      refine lv_if_ne (tgt := 42) hx hb dX4_setTangent_33 (by decide) (fun c13 => ?_) (fun c13 => ?_)
      · have hq := q_if_f hq c13
        refine lv_aload_n hx hb dX4_setTangent_42 rfl (lv_at hl 0 rfl) ?_
        refine lv_iload_n hx hb dX4_setTangent_43 rfl (lv_at hl 1 rfl) ?_
        refine lv_iload_n hx hb dX4_setTangent_44 rfl (lv_at hl 2 rfl) ?_
        refine lv_iconst (v := 5) hx hb dX4_setTangent_45 (by decide) ?_
        obtain ⟨r14, hh15, hq⟩ := q_bd hq
        refine roV (ci := 4) (As := [.int p1, .int p2, .int 5]) (rest := []) X K (k_X4_of l G g jo js jp ja jk jt jb un uy uw uq uz us up ua uk ut ub p1 p2 5 _ hh15) hd_X4_of gX4_setTangent_X4_of hP hl.1 dX4_setTangent_46 rfl rfl ⟨Nat.le_of_ble_eq_true rfl, Nat.le_of_ble_eq_true rfl⟩ rfl rfl rfl (Nat.le_of_ble_eq_true rfl) ⟨Nat.zero_le _, Nat.zero_le _⟩ ?_
        refine lv_iconst (v := 1) hx hb dX4_setTangent_49 (by decide) ?_
        refine lv_icmp_ne (tgt := 59) hx hb dX4_setTangent_50 (by decide) (fun c16 => ?_) (fun c16 => ?_)
        · have hq := q_if_f hq c16
          refine lv_aload_n hx hb dX4_setTangent_59 rfl (lv_at hl 0 rfl) ?_
          obtain ⟨y17, hh18, hq⟩ := q_bd hq
          refine rwV (ci := 4) (wr := []) (As := []) (rest := []) X K (k_X4_hold l G g jo js jp ja jk jt jb un uy uw uq uz us up ua uk ut ub _ hh18) hd_X4_hold gX4_setTangent_X4_hold hP hD hS hA [0, 1, 2, 3, 4, 5, 6] [] rfl rfl ⟨by decide, by decide, by decide⟩ hl.1 dX4_setTangent_60 rfl rfl ⟨Nat.le_of_ble_eq_true rfl, Nat.le_of_ble_eq_true rfl⟩ rfl rfl rfl (Nat.le_of_ble_eq_true rfl) ⟨Nat.zero_le _, Nat.zero_le _⟩ (fun H locs hP hD hS => ?_)
          have hP : va_P G vwCl [(jo, .inr (4, [.ref js, .ref jp, .ref ja, .ref jk, .int un, .ref jt, .int uy, .int uw, .ref jb, .int uq, .int uz])), (js, .inl (g 0, 388, .inl us)), (jp, .inl (g 0, 1552, .inl up)), (ja, .inl (g 0, 388, .inl y17)), (jk, .inl (g 0, 97, .inl uk)), (jt, .inl (g 0, 150, .inl ut)), (jb, .inl (g 0, 1000, .inl ub))] H := hP
          have hD : va_D A [(jo, .inr (4, [.ref js, .ref jp, .ref ja, .ref jk, .int un, .ref jt, .int uy, .int uw, .ref jb, .int uq, .int uz])), (js, .inl (g 0, 388, .inl us)), (jp, .inl (g 0, 1552, .inl up)), (ja, .inl (g 0, 388, .inl y17)), (jk, .inl (g 0, 97, .inl uk)), (jt, .inl (g 0, 150, .inl ut)), (jb, .inl (g 0, 1000, .inl ub))] := hD
          refine lv_aload_n hx hb dX4_setTangent_63 rfl (lv_at hl 0 rfl) ?_
          refine lv_iload_n hx hb dX4_setTangent_64 rfl (lv_at hl 1 rfl) ?_
          refine lv_iload_n hx hb dX4_setTangent_65 rfl (lv_at hl 2 rfl) ?_
          obtain ⟨r19, hh20, hq⟩ := q_bd hq
          refine roV (ci := 4) (As := [.int p1, .int p2]) (rest := []) X K (k_X4_tangent l G g jo js jp ja jk jt jb un uy uw uq uz us up y17 uk ut ub p1 p2 _ hh20) hd_X4_tangent gX4_setTangent_X4_tangent hP hl.1 dX4_setTangent_66 rfl rfl ⟨Nat.le_of_ble_eq_true rfl, Nat.le_of_ble_eq_true rfl⟩ rfl rfl rfl (Nat.le_of_ble_eq_true rfl) ⟨Nat.zero_le _, Nat.zero_le _⟩ ?_
          refine lv_istore (lv' := [(5, .int r19), (0, .ref jo), (1, .int p1), (2, .int p2), (3, .int p3), (4, .int p4)]) hx hb dX4_setTangent_69 hl (by decide) rfl (fun ls hl => ?_)
          refine lv_aload_n hx hb dX4_setTangent_71 rfl (lv_at hl 1 rfl) ?_
          refine va_get (D := G) (ci := 4) (v := .ref js) (C := RX4) (T := TX4) (N := 11) hx hb hts in_X4_setTangent_X4 hown K.1 hP 0 rfl rfl 0 (by decide) (hts _ (List.mem_of_getElem? (i := 3) rfl)) (fun _ h9 => h9) rfl dX4_setTangent_72 ?_
          refine lv_iload_n hx hb dX4_setTangent_75 rfl (lv_at hl 2 rfl) ?_
          refine lv_iload_n hx hb dX4_setTangent_76 rfl (lv_at hl 3 rfl) ?_
          obtain ⟨r21, hh22, hq⟩ := q_bd hq
          refine roS (As := [.int p1, .int p2]) (rest := [.ref js]) X K (k_X4_spot l G g p1 p2 _ hh22) hd_X4_spot gX4_setTangent_X4_spot (hP.sub [] rfl) hl.1 dX4_setTangent_77 rfl rfl ⟨Nat.le_of_ble_eq_true rfl, Nat.le_of_ble_eq_true rfl⟩ rfl (Nat.le_of_ble_eq_true rfl) ⟨Nat.zero_le _, Nat.zero_le _⟩ ?_
          refine lv_iconst (v := 3) hx hb dX4_setTangent_80 (by decide) ?_
          refine lv_iadd hx hb dX4_setTangent_81 ?_
          refine lv_iload_n hx hb dX4_setTangent_82 rfl (lv_at hl 4 rfl) ?_
          obtain ⟨hh23, hq⟩ := q_gd hq
          refine va_iast hx hb K.1 hP hD hS 1 0 rfl rfl (vp_in_iff.mpr hh23) dX4_setTangent_83 (fun H locs hP hD hS => ?_)
          obtain ⟨f24, ef24⟩ : ∃ y, y = upd us (r21 + 3).toNatClampNeg p3 := ⟨_, rfl⟩
          have hq := q_let hq ef24
          have hP : va_P G vwCl [(jo, .inr (4, [.ref js, .ref jp, .ref ja, .ref jk, .int un, .ref jt, .int uy, .int uw, .ref jb, .int uq, .int uz])), (js, .inl (g 0, 388, .inl f24)), (jp, .inl (g 0, 1552, .inl up)), (ja, .inl (g 0, 388, .inl y17)), (jk, .inl (g 0, 97, .inl uk)), (jt, .inl (g 0, 150, .inl ut)), (jb, .inl (g 0, 1000, .inl ub))] H := by rw [ef24]; exact hP
          have hD : va_D A [(jo, .inr (4, [.ref js, .ref jp, .ref ja, .ref jk, .int un, .ref jt, .int uy, .int uw, .ref jb, .int uq, .int uz])), (js, .inl (g 0, 388, .inl f24)), (jp, .inl (g 0, 1552, .inl up)), (ja, .inl (g 0, 388, .inl y17)), (jk, .inl (g 0, 97, .inl uk)), (jt, .inl (g 0, 150, .inl ut)), (jb, .inl (g 0, 1000, .inl ub))] := by rw [ef24]; exact hD
          refine lv_aload_n hx hb dX4_setTangent_84 rfl (lv_at hl 1 rfl) ?_
          refine va_get (D := G) (ci := 4) (v := .ref js) (C := RX4) (T := TX4) (N := 11) hx hb hts in_X4_setTangent_X4 hown K.1 hP 0 rfl rfl 0 (by decide) (hts _ (List.mem_of_getElem? (i := 3) rfl)) (fun _ h9 => h9) rfl dX4_setTangent_85 ?_
          refine lv_iload_n hx hb dX4_setTangent_88 rfl (lv_at hl 2 rfl) ?_
          refine lv_iload_n hx hb dX4_setTangent_89 rfl (lv_at hl 3 rfl) ?_
          obtain ⟨r25, hh26, hq⟩ := q_bd hq
          refine roS (As := [.int p1, .int p2]) (rest := [.ref js]) X K (k_X4_spot l G g p1 p2 _ hh26) hd_X4_spot gX4_setTangent_X4_spot (hP.sub [] rfl) hl.1 dX4_setTangent_90 rfl rfl ⟨Nat.le_of_ble_eq_true rfl, Nat.le_of_ble_eq_true rfl⟩ rfl (Nat.le_of_ble_eq_true rfl) ⟨Nat.zero_le _, Nat.zero_le _⟩ ?_
          refine lv_iconst (v := 4) hx hb dX4_setTangent_93 (by decide) ?_
          refine lv_iadd hx hb dX4_setTangent_94 ?_
          refine lv_iload hx hb dX4_setTangent_95 (lv_at hl 5 rfl) ?_
          obtain ⟨hh27, hq⟩ := q_gd hq
          refine va_iast hx hb K.1 hP hD hS 1 0 rfl rfl (vp_in_iff.mpr hh27) dX4_setTangent_97 (fun H locs hP hD hS => ?_)
          obtain ⟨f28, ef28⟩ : ∃ y, y = upd f24 (r25 + 4).toNatClampNeg p4 := ⟨_, rfl⟩
          have hq := q_let hq ef28
          have hP : va_P G vwCl [(jo, .inr (4, [.ref js, .ref jp, .ref ja, .ref jk, .int un, .ref jt, .int uy, .int uw, .ref jb, .int uq, .int uz])), (js, .inl (g 0, 388, .inl f28)), (jp, .inl (g 0, 1552, .inl up)), (ja, .inl (g 0, 388, .inl y17)), (jk, .inl (g 0, 97, .inl uk)), (jt, .inl (g 0, 150, .inl ut)), (jb, .inl (g 0, 1000, .inl ub))] H := by rw [ef28]; exact hP
          have hD : va_D A [(jo, .inr (4, [.ref js, .ref jp, .ref ja, .ref jk, .int un, .ref jt, .int uy, .int uw, .ref jb, .int uq, .int uz])), (js, .inl (g 0, 388, .inl f28)), (jp, .inl (g 0, 1552, .inl up)), (ja, .inl (g 0, 388, .inl y17)), (jk, .inl (g 0, 97, .inl uk)), (jt, .inl (g 0, 150, .inl ut)), (jb, .inl (g 0, 1000, .inl ub))] := by rw [ef28]; exact hD
          refine lv_aload_n hx hb dX4_setTangent_98 rfl (lv_at hl 1 rfl) ?_
          refine lv_iload hx hb dX4_setTangent_99 (lv_at hl 0 rfl) ?_
          obtain ⟨⟨r29, y30, y31, y32⟩, hh33, hq⟩ := q_bd hq
          refine rwV (ci := 4) (wr := []) (As := [.int r19]) (rest := []) X K (k_X4_ends l G g jo js jp ja jk jt jb un uy uw uq uz f28 up y17 uk ut ub r19 _ hh33) hd_X4_ends gX4_setTangent_X4_ends hP hD hS hA [0, 1, 2, 3, 4, 5, 6] [] rfl rfl ⟨by decide, by decide, by decide⟩ hl.1 dX4_setTangent_101 rfl rfl ⟨Nat.le_of_ble_eq_true rfl, Nat.le_of_ble_eq_true rfl⟩ rfl rfl rfl (Nat.le_of_ble_eq_true rfl) ⟨Nat.zero_le _, Nat.zero_le _⟩ (fun H locs hP hD hS => ?_)
          have hP : va_P G vwCl [(jo, .inr (4, [.ref js, .ref jp, .ref ja, .ref jk, .int y30, .ref jt, .int uy, .int y31, .ref jb, .int uq, .int uz])), (js, .inl (g 0, 388, .inl f28)), (jp, .inl (g 0, 1552, .inl y32)), (ja, .inl (g 0, 388, .inl y17)), (jk, .inl (g 0, 97, .inl uk)), (jt, .inl (g 0, 150, .inl ut)), (jb, .inl (g 0, 1000, .inl ub))] H := hP
          have hD : va_D A [(jo, .inr (4, [.ref js, .ref jp, .ref ja, .ref jk, .int y30, .ref jt, .int uy, .int y31, .ref jb, .int uq, .int uz])), (js, .inl (g 0, 388, .inl f28)), (jp, .inl (g 0, 1552, .inl y32)), (ja, .inl (g 0, 388, .inl y17)), (jk, .inl (g 0, 97, .inl uk)), (jt, .inl (g 0, 150, .inl ut)), (jb, .inl (g 0, 1000, .inl ub))] := hD
          obtain rfl := q_rt hq
          exact rw_iret hx hb hr hk hP hD hS dX4_setTangent_104
        · have hq := q_if_t hq c16
          refine lv_aload_n hx hb dX4_setTangent_53 rfl (lv_at hl 0 rfl) ?_
          refine lv_iconst (v := 3) hx hb dX4_setTangent_54 (by decide) ?_
          obtain ⟨⟨r35, y36⟩, hh37, hq⟩ := q_bd hq
          refine rwV (ci := 4) (wr := []) (As := [.int 3]) (rest := []) X K (k_X4_fails l G g jo js jp ja jk jt jb un uy uw uq uz us up ua uk ut ub 3 _ hh37) hd_X4_fails gX4_setTangent_X4_fails hP hD hS hA [0, 1, 2, 3, 4, 5, 6] [] rfl rfl ⟨by decide, by decide, by decide⟩ hl.1 dX4_setTangent_55 rfl rfl ⟨Nat.le_of_ble_eq_true rfl, Nat.le_of_ble_eq_true rfl⟩ rfl rfl rfl (Nat.le_of_ble_eq_true rfl) ⟨Nat.zero_le _, Nat.zero_le _⟩ (fun H locs hP hD hS => ?_)
          have hP : va_P G vwCl [(jo, .inr (4, [.ref js, .ref jp, .ref ja, .ref jk, .int un, .ref jt, .int uy, .int y36, .ref jb, .int uq, .int uz])), (js, .inl (g 0, 388, .inl us)), (jp, .inl (g 0, 1552, .inl up)), (ja, .inl (g 0, 388, .inl ua)), (jk, .inl (g 0, 97, .inl uk)), (jt, .inl (g 0, 150, .inl ut)), (jb, .inl (g 0, 1000, .inl ub))] H := hP
          have hD : va_D A [(jo, .inr (4, [.ref js, .ref jp, .ref ja, .ref jk, .int un, .ref jt, .int uy, .int y36, .ref jb, .int uq, .int uz])), (js, .inl (g 0, 388, .inl us)), (jp, .inl (g 0, 1552, .inl up)), (ja, .inl (g 0, 388, .inl ua)), (jk, .inl (g 0, 97, .inl uk)), (jt, .inl (g 0, 150, .inl ut)), (jb, .inl (g 0, 1000, .inl ub))] := hD
          obtain rfl := q_rt hq
          exact rw_iret hx hb hr hk hP hD hS dX4_setTangent_58
      · have hq := q_if_t hq c13
        refine lv_aload_n hx hb dX4_setTangent_36 rfl (lv_at hl 0 rfl) ?_
        refine lv_iconst (v := 2) hx hb dX4_setTangent_37 (by decide) ?_
        obtain ⟨⟨r39, y40⟩, hh41, hq⟩ := q_bd hq
        refine rwV (ci := 4) (wr := []) (As := [.int 2]) (rest := []) X K (k_X4_fails l G g jo js jp ja jk jt jb un uy uw uq uz us up ua uk ut ub 2 _ hh41) hd_X4_fails gX4_setTangent_X4_fails hP hD hS hA [0, 1, 2, 3, 4, 5, 6] [] rfl rfl ⟨by decide, by decide, by decide⟩ hl.1 dX4_setTangent_38 rfl rfl ⟨Nat.le_of_ble_eq_true rfl, Nat.le_of_ble_eq_true rfl⟩ rfl rfl rfl (Nat.le_of_ble_eq_true rfl) ⟨Nat.zero_le _, Nat.zero_le _⟩ (fun H locs hP hD hS => ?_)
        have hP : va_P G vwCl [(jo, .inr (4, [.ref js, .ref jp, .ref ja, .ref jk, .int un, .ref jt, .int uy, .int y40, .ref jb, .int uq, .int uz])), (js, .inl (g 0, 388, .inl us)), (jp, .inl (g 0, 1552, .inl up)), (ja, .inl (g 0, 388, .inl ua)), (jk, .inl (g 0, 97, .inl uk)), (jt, .inl (g 0, 150, .inl ut)), (jb, .inl (g 0, 1000, .inl ub))] H := hP
        have hD : va_D A [(jo, .inr (4, [.ref js, .ref jp, .ref ja, .ref jk, .int un, .ref jt, .int uy, .int y40, .ref jb, .int uq, .int uz])), (js, .inl (g 0, 388, .inl us)), (jp, .inl (g 0, 1552, .inl up)), (ja, .inl (g 0, 388, .inl ua)), (jk, .inl (g 0, 97, .inl uk)), (jt, .inl (g 0, 150, .inl ut)), (jb, .inl (g 0, 1000, .inl ub))] := hD
        obtain rfl := q_rt hq
        exact rw_iret hx hb hr hk hP hD hS dX4_setTangent_41
  · have hq := q_if_t hq c3
    refine lv_aload_n hx hb dX4_setTangent_9 rfl (lv_at hl 0 rfl) ?_
    refine lv_iconst (v := 1) hx hb dX4_setTangent_10 (by decide) ?_
    obtain ⟨⟨r43, y44⟩, hh45, hq⟩ := q_bd hq
    refine rwV (ci := 4) (wr := []) (As := [.int 1]) (rest := []) X K (k_X4_fails l G g jo js jp ja jk jt jb un uy uw uq uz us up ua uk ut ub 1 _ hh45) hd_X4_fails gX4_setTangent_X4_fails hP hD hS hA [0, 1, 2, 3, 4, 5, 6] [] rfl rfl ⟨by decide, by decide, by decide⟩ hl.1 dX4_setTangent_11 rfl rfl ⟨Nat.le_of_ble_eq_true rfl, Nat.le_of_ble_eq_true rfl⟩ rfl rfl rfl (Nat.le_of_ble_eq_true rfl) ⟨Nat.zero_le _, Nat.zero_le _⟩ (fun H locs hP hD hS => ?_)
    have hP : va_P G vwCl [(jo, .inr (4, [.ref js, .ref jp, .ref ja, .ref jk, .int un, .ref jt, .int uy, .int y44, .ref jb, .int uq, .int uz])), (js, .inl (g 0, 388, .inl us)), (jp, .inl (g 0, 1552, .inl up)), (ja, .inl (g 0, 388, .inl ua)), (jk, .inl (g 0, 97, .inl uk)), (jt, .inl (g 0, 150, .inl ut)), (jb, .inl (g 0, 1000, .inl ub))] H := hP
    have hD : va_D A [(jo, .inr (4, [.ref js, .ref jp, .ref ja, .ref jk, .int un, .ref jt, .int uy, .int y44, .ref jb, .int uq, .int uz])), (js, .inl (g 0, 388, .inl us)), (jp, .inl (g 0, 1552, .inl up)), (ja, .inl (g 0, 388, .inl ua)), (jk, .inl (g 0, 97, .inl uk)), (jt, .inl (g 0, 150, .inl ut)), (jb, .inl (g 0, 1000, .inl ub))] := hD
    obtain rfl := q_rt hq
    exact rw_iret hx hb hr hk hP hD hS dX4_setTangent_14
theorem in_X4_lock_X4 : ∀ w ∈ wsX40, w ∈ wsX4_lock := fun _ h => List.mem_cons_of_mem _ (List.mem_append_right _ h)
def F_X4_lock (un : Int32) (uw : Int32) (us : Nat → Int32) (up : Nat → Int32) (ua : Nat → Int32) (p1 : Int32) (p2 : Int32) (p3 : Int32) : Option (Int32 × Int32 × Int32 × (Nat → Int32) × (Nat → Int32) × (Nat → Int32)) := (F_X4_isKey us p1 p2).bind fun r1 => if r1 = 0 then ((F_X4_fails uw 1).bind fun o30 => some (o30.1, un, o30.2, us, up, ua)) else ((F_X4_hold us ua).bind fun y4 => (F_X4_of us p1 p2 5).bind fun r6 => (F_X4_spot p1 p2).bind fun r8 => if p3 = 0 then (vgd (ix (r8 + 5) 388) <| vlet (upd us (r8 + 5).toNatClampNeg 0) fun f12 => (F_X4_ends un uw up y4 r6).bind fun o18 => some (o18.1, o18.2.1, o18.2.2.1, f12, o18.2.2.2, y4)) else (vgd (ix (r8 + 5) 388) <| vlet (upd us (r8 + 5).toNatClampNeg 1) fun f20 => (F_X4_ends un uw up y4 r6).bind fun o26 => some (o26.1, o26.2.1, o26.2.2.1, f20, o26.2.2.2, y4)))
set_option maxHeartbeats 4000000 in
set_option maxRecDepth 100000 in
theorem k_X4_lock (l : Launch) (G : va_G) (g : Nat → ClassId) (jo js jp ja jk jt jb : Nat) (un : Int32) (uy : Int32) (uw : Int32) (uq : Int32) (uz : Int32) (us : Nat → Int32) (up : Nat → Int32) (ua : Nat → Int32) (uk : Nat → Int32) (ut : Nat → Int32) (ub : Nat → Int32) (p1 : Int32) (p2 : Int32) (p3 : Int32) (res : Int32 × Int32 × Int32 × (Nat → Int32) × (Nat → Int32) × (Nat → Int32)) (hq : F_X4_lock un uw us up ua p1 p2 p3 = some res) : rwC l yX4_lock wsX4_lock (rmF 3 64) G g [.ref jo, .int p1, .int p2, .int p3] [(jo, .inr (4, [.ref js, .ref jp, .ref ja, .ref jk, .int un, .ref jt, .int uy, .int uw, .ref jb, .int uq, .int uz])), (js, .inl (g 0, 388, .inl us)), (jp, .inl (g 0, 1552, .inl up)), (ja, .inl (g 0, 388, .inl ua)), (jk, .inl (g 0, 97, .inl uk)), (jt, .inl (g 0, 150, .inl ut)), (jb, .inl (g 0, 1000, .inl ub))] (some (.int res.1)) [(jo, .inr (4, [.ref js, .ref jp, .ref ja, .ref jk, .int res.2.1, .ref jt, .int uy, .int res.2.2.1, .ref jb, .int uq, .int uz])), (js, .inl (g 0, 388, .inl res.2.2.2.1)), (jp, .inl (g 0, 1552, .inl res.2.2.2.2.1)), (ja, .inl (g 0, 388, .inl res.2.2.2.2.2)), (jk, .inl (g 0, 97, .inl uk)), (jt, .inl (g 0, 150, .inl ut)), (jb, .inl (g 0, 1000, .inl ub))] := by
  refine rwC.of (cc := cX4_lock) (maxL := 5) (ret := (some .int)) (by decide) rfl (Nat.le_of_ble_eq_true rfl) ?_
  intro p e s m below meth c ls A X K hA hP hD hS hl
  obtain ⟨hx, hb, hml, hr, hown, hts, hk⟩ := id X
  have hl : lv_has ls 5 [(0, .ref jo), (1, .int p1), (2, .int p2), (3, .int p3)] := hl
  unfold F_X4_lock at hq
  refine lv_aload_n hx hb dX4_lock_0 rfl (lv_at hl 0 rfl) ?_
  refine lv_iload_n hx hb dX4_lock_1 rfl (lv_at hl 1 rfl) ?_
  refine lv_iload_n hx hb dX4_lock_2 rfl (lv_at hl 2 rfl) ?_
  obtain ⟨r1, hh2, hq⟩ := q_bd hq
  refine roV (ci := 4) (As := [.int p1, .int p2]) (rest := []) X K (k_X4_isKey l G g jo js jp ja jk jt jb un uy uw uq uz us up ua uk ut ub p1 p2 _ hh2) hd_X4_isKey gX4_lock_X4_isKey hP hl.1 dX4_lock_3 rfl rfl ⟨Nat.le_of_ble_eq_true rfl, Nat.le_of_ble_eq_true rfl⟩ rfl rfl rfl (Nat.le_of_ble_eq_true rfl) ⟨Nat.zero_le _, Nat.zero_le _⟩ ?_
  refine lv_if_ne (tgt := 15) hx hb dX4_lock_6 (by decide) (fun c3 => ?_) (fun c3 => ?_)
  · have hq := q_if_f hq c3
    refine lv_aload_n hx hb dX4_lock_15 rfl (lv_at hl 0 rfl) ?_
    obtain ⟨y4, hh5, hq⟩ := q_bd hq
    refine rwV (ci := 4) (wr := []) (As := []) (rest := []) X K (k_X4_hold l G g jo js jp ja jk jt jb un uy uw uq uz us up ua uk ut ub _ hh5) hd_X4_hold gX4_lock_X4_hold hP hD hS hA [0, 1, 2, 3, 4, 5, 6] [] rfl rfl ⟨by decide, by decide, by decide⟩ hl.1 dX4_lock_16 rfl rfl ⟨Nat.le_of_ble_eq_true rfl, Nat.le_of_ble_eq_true rfl⟩ rfl rfl rfl (Nat.le_of_ble_eq_true rfl) ⟨Nat.zero_le _, Nat.zero_le _⟩ (fun H locs hP hD hS => ?_)
    have hP : va_P G vwCl [(jo, .inr (4, [.ref js, .ref jp, .ref ja, .ref jk, .int un, .ref jt, .int uy, .int uw, .ref jb, .int uq, .int uz])), (js, .inl (g 0, 388, .inl us)), (jp, .inl (g 0, 1552, .inl up)), (ja, .inl (g 0, 388, .inl y4)), (jk, .inl (g 0, 97, .inl uk)), (jt, .inl (g 0, 150, .inl ut)), (jb, .inl (g 0, 1000, .inl ub))] H := hP
    have hD : va_D A [(jo, .inr (4, [.ref js, .ref jp, .ref ja, .ref jk, .int un, .ref jt, .int uy, .int uw, .ref jb, .int uq, .int uz])), (js, .inl (g 0, 388, .inl us)), (jp, .inl (g 0, 1552, .inl up)), (ja, .inl (g 0, 388, .inl y4)), (jk, .inl (g 0, 97, .inl uk)), (jt, .inl (g 0, 150, .inl ut)), (jb, .inl (g 0, 1000, .inl ub))] := hD
    refine lv_aload_n hx hb dX4_lock_19 rfl (lv_at hl 0 rfl) ?_
    refine lv_iload_n hx hb dX4_lock_20 rfl (lv_at hl 1 rfl) ?_
    refine lv_iload_n hx hb dX4_lock_21 rfl (lv_at hl 2 rfl) ?_
    refine lv_iconst (v := 5) hx hb dX4_lock_22 (by decide) ?_
    obtain ⟨r6, hh7, hq⟩ := q_bd hq
    refine roV (ci := 4) (As := [.int p1, .int p2, .int 5]) (rest := []) X K (k_X4_of l G g jo js jp ja jk jt jb un uy uw uq uz us up y4 uk ut ub p1 p2 5 _ hh7) hd_X4_of gX4_lock_X4_of hP hl.1 dX4_lock_23 rfl rfl ⟨Nat.le_of_ble_eq_true rfl, Nat.le_of_ble_eq_true rfl⟩ rfl rfl rfl (Nat.le_of_ble_eq_true rfl) ⟨Nat.zero_le _, Nat.zero_le _⟩ ?_
    refine lv_istore (lv' := [(4, .int r6), (0, .ref jo), (1, .int p1), (2, .int p2), (3, .int p3)]) hx hb dX4_lock_26 hl (by decide) rfl (fun ls hl => ?_)
    refine lv_aload_n hx hb dX4_lock_28 rfl (lv_at hl 1 rfl) ?_
    refine va_get (D := G) (ci := 4) (v := .ref js) (C := RX4) (T := TX4) (N := 11) hx hb hts in_X4_lock_X4 hown K.1 hP 0 rfl rfl 0 (by decide) (hts _ (List.mem_of_getElem? (i := 1) rfl)) (fun _ h9 => h9) rfl dX4_lock_29 ?_
    refine lv_iload_n hx hb dX4_lock_32 rfl (lv_at hl 2 rfl) ?_
    refine lv_iload_n hx hb dX4_lock_33 rfl (lv_at hl 3 rfl) ?_
    obtain ⟨r8, hh9, hq⟩ := q_bd hq
    refine roS (As := [.int p1, .int p2]) (rest := [.ref js]) X K (k_X4_spot l G g p1 p2 _ hh9) hd_X4_spot gX4_lock_X4_spot (hP.sub [] rfl) hl.1 dX4_lock_34 rfl rfl ⟨Nat.le_of_ble_eq_true rfl, Nat.le_of_ble_eq_true rfl⟩ rfl (Nat.le_of_ble_eq_true rfl) ⟨Nat.zero_le _, Nat.zero_le _⟩ ?_
    refine lv_iconst (v := 5) hx hb dX4_lock_37 (by decide) ?_
    refine lv_iadd hx hb dX4_lock_38 ?_
    refine lv_iload_n hx hb dX4_lock_39 rfl (lv_at hl 4 rfl) ?_
    refine lv_if_eq (tgt := 47) hx hb dX4_lock_40 (by decide) (fun c10 => ?_) (fun c10 => ?_)
    · have hq := q_if_t hq c10
      refine lv_iconst (v := 0) hx hb dX4_lock_47 (by decide) ?_
      obtain ⟨hh11, hq⟩ := q_gd hq
      refine va_iast hx hb K.1 hP hD hS 1 0 rfl rfl (vp_in_iff.mpr hh11) dX4_lock_48 (fun H locs hP hD hS => ?_)
      obtain ⟨f12, ef12⟩ : ∃ y, y = upd us (r8 + 5).toNatClampNeg 0 := ⟨_, rfl⟩
      have hq := q_let hq ef12
      have hP : va_P G vwCl [(jo, .inr (4, [.ref js, .ref jp, .ref ja, .ref jk, .int un, .ref jt, .int uy, .int uw, .ref jb, .int uq, .int uz])), (js, .inl (g 0, 388, .inl f12)), (jp, .inl (g 0, 1552, .inl up)), (ja, .inl (g 0, 388, .inl y4)), (jk, .inl (g 0, 97, .inl uk)), (jt, .inl (g 0, 150, .inl ut)), (jb, .inl (g 0, 1000, .inl ub))] H := by rw [ef12]; exact hP
      have hD : va_D A [(jo, .inr (4, [.ref js, .ref jp, .ref ja, .ref jk, .int un, .ref jt, .int uy, .int uw, .ref jb, .int uq, .int uz])), (js, .inl (g 0, 388, .inl f12)), (jp, .inl (g 0, 1552, .inl up)), (ja, .inl (g 0, 388, .inl y4)), (jk, .inl (g 0, 97, .inl uk)), (jt, .inl (g 0, 150, .inl ut)), (jb, .inl (g 0, 1000, .inl ub))] := by rw [ef12]; exact hD
      refine lv_aload_n hx hb dX4_lock_49 rfl (lv_at hl 1 rfl) ?_
      refine lv_iload hx hb dX4_lock_50 (lv_at hl 0 rfl) ?_
      obtain ⟨⟨r13, y14, y15, y16⟩, hh17, hq⟩ := q_bd hq
      refine rwV (ci := 4) (wr := []) (As := [.int r6]) (rest := []) X K (k_X4_ends l G g jo js jp ja jk jt jb un uy uw uq uz f12 up y4 uk ut ub r6 _ hh17) hd_X4_ends gX4_lock_X4_ends hP hD hS hA [0, 1, 2, 3, 4, 5, 6] [] rfl rfl ⟨by decide, by decide, by decide⟩ hl.1 dX4_lock_52 rfl rfl ⟨Nat.le_of_ble_eq_true rfl, Nat.le_of_ble_eq_true rfl⟩ rfl rfl rfl (Nat.le_of_ble_eq_true rfl) ⟨Nat.zero_le _, Nat.zero_le _⟩ (fun H locs hP hD hS => ?_)
      have hP : va_P G vwCl [(jo, .inr (4, [.ref js, .ref jp, .ref ja, .ref jk, .int y14, .ref jt, .int uy, .int y15, .ref jb, .int uq, .int uz])), (js, .inl (g 0, 388, .inl f12)), (jp, .inl (g 0, 1552, .inl y16)), (ja, .inl (g 0, 388, .inl y4)), (jk, .inl (g 0, 97, .inl uk)), (jt, .inl (g 0, 150, .inl ut)), (jb, .inl (g 0, 1000, .inl ub))] H := hP
      have hD : va_D A [(jo, .inr (4, [.ref js, .ref jp, .ref ja, .ref jk, .int y14, .ref jt, .int uy, .int y15, .ref jb, .int uq, .int uz])), (js, .inl (g 0, 388, .inl f12)), (jp, .inl (g 0, 1552, .inl y16)), (ja, .inl (g 0, 388, .inl y4)), (jk, .inl (g 0, 97, .inl uk)), (jt, .inl (g 0, 150, .inl ut)), (jb, .inl (g 0, 1000, .inl ub))] := hD
      obtain rfl := q_rt hq
      exact rw_iret hx hb hr hk hP hD hS dX4_lock_55
    · have hq := q_if_f hq c10
      refine lv_iconst (v := 1) hx hb dX4_lock_43 (by decide) ?_
      refine lv_goto (tgt := 48) hx hb dX4_lock_44 (by decide) ?_
      obtain ⟨hh19, hq⟩ := q_gd hq
      refine va_iast hx hb K.1 hP hD hS 1 0 rfl rfl (vp_in_iff.mpr hh19) dX4_lock_48 (fun H locs hP hD hS => ?_)
      obtain ⟨f20, ef20⟩ : ∃ y, y = upd us (r8 + 5).toNatClampNeg 1 := ⟨_, rfl⟩
      have hq := q_let hq ef20
      have hP : va_P G vwCl [(jo, .inr (4, [.ref js, .ref jp, .ref ja, .ref jk, .int un, .ref jt, .int uy, .int uw, .ref jb, .int uq, .int uz])), (js, .inl (g 0, 388, .inl f20)), (jp, .inl (g 0, 1552, .inl up)), (ja, .inl (g 0, 388, .inl y4)), (jk, .inl (g 0, 97, .inl uk)), (jt, .inl (g 0, 150, .inl ut)), (jb, .inl (g 0, 1000, .inl ub))] H := by rw [ef20]; exact hP
      have hD : va_D A [(jo, .inr (4, [.ref js, .ref jp, .ref ja, .ref jk, .int un, .ref jt, .int uy, .int uw, .ref jb, .int uq, .int uz])), (js, .inl (g 0, 388, .inl f20)), (jp, .inl (g 0, 1552, .inl up)), (ja, .inl (g 0, 388, .inl y4)), (jk, .inl (g 0, 97, .inl uk)), (jt, .inl (g 0, 150, .inl ut)), (jb, .inl (g 0, 1000, .inl ub))] := by rw [ef20]; exact hD
      refine lv_aload_n hx hb dX4_lock_49 rfl (lv_at hl 1 rfl) ?_
      refine lv_iload hx hb dX4_lock_50 (lv_at hl 0 rfl) ?_
      obtain ⟨⟨r21, y22, y23, y24⟩, hh25, hq⟩ := q_bd hq
      refine rwV (ci := 4) (wr := []) (As := [.int r6]) (rest := []) X K (k_X4_ends l G g jo js jp ja jk jt jb un uy uw uq uz f20 up y4 uk ut ub r6 _ hh25) hd_X4_ends gX4_lock_X4_ends hP hD hS hA [0, 1, 2, 3, 4, 5, 6] [] rfl rfl ⟨by decide, by decide, by decide⟩ hl.1 dX4_lock_52 rfl rfl ⟨Nat.le_of_ble_eq_true rfl, Nat.le_of_ble_eq_true rfl⟩ rfl rfl rfl (Nat.le_of_ble_eq_true rfl) ⟨Nat.zero_le _, Nat.zero_le _⟩ (fun H locs hP hD hS => ?_)
      have hP : va_P G vwCl [(jo, .inr (4, [.ref js, .ref jp, .ref ja, .ref jk, .int y22, .ref jt, .int uy, .int y23, .ref jb, .int uq, .int uz])), (js, .inl (g 0, 388, .inl f20)), (jp, .inl (g 0, 1552, .inl y24)), (ja, .inl (g 0, 388, .inl y4)), (jk, .inl (g 0, 97, .inl uk)), (jt, .inl (g 0, 150, .inl ut)), (jb, .inl (g 0, 1000, .inl ub))] H := hP
      have hD : va_D A [(jo, .inr (4, [.ref js, .ref jp, .ref ja, .ref jk, .int y22, .ref jt, .int uy, .int y23, .ref jb, .int uq, .int uz])), (js, .inl (g 0, 388, .inl f20)), (jp, .inl (g 0, 1552, .inl y24)), (ja, .inl (g 0, 388, .inl y4)), (jk, .inl (g 0, 97, .inl uk)), (jt, .inl (g 0, 150, .inl ut)), (jb, .inl (g 0, 1000, .inl ub))] := hD
      obtain rfl := q_rt hq
      exact rw_iret hx hb hr hk hP hD hS dX4_lock_55
  · have hq := q_if_t hq c3
    refine lv_aload_n hx hb dX4_lock_9 rfl (lv_at hl 0 rfl) ?_
    refine lv_iconst (v := 1) hx hb dX4_lock_10 (by decide) ?_
    obtain ⟨⟨r27, y28⟩, hh29, hq⟩ := q_bd hq
    refine rwV (ci := 4) (wr := []) (As := [.int 1]) (rest := []) X K (k_X4_fails l G g jo js jp ja jk jt jb un uy uw uq uz us up ua uk ut ub 1 _ hh29) hd_X4_fails gX4_lock_X4_fails hP hD hS hA [0, 1, 2, 3, 4, 5, 6] [] rfl rfl ⟨by decide, by decide, by decide⟩ hl.1 dX4_lock_11 rfl rfl ⟨Nat.le_of_ble_eq_true rfl, Nat.le_of_ble_eq_true rfl⟩ rfl rfl rfl (Nat.le_of_ble_eq_true rfl) ⟨Nat.zero_le _, Nat.zero_le _⟩ (fun H locs hP hD hS => ?_)
    have hP : va_P G vwCl [(jo, .inr (4, [.ref js, .ref jp, .ref ja, .ref jk, .int un, .ref jt, .int uy, .int y28, .ref jb, .int uq, .int uz])), (js, .inl (g 0, 388, .inl us)), (jp, .inl (g 0, 1552, .inl up)), (ja, .inl (g 0, 388, .inl ua)), (jk, .inl (g 0, 97, .inl uk)), (jt, .inl (g 0, 150, .inl ut)), (jb, .inl (g 0, 1000, .inl ub))] H := hP
    have hD : va_D A [(jo, .inr (4, [.ref js, .ref jp, .ref ja, .ref jk, .int un, .ref jt, .int uy, .int y28, .ref jb, .int uq, .int uz])), (js, .inl (g 0, 388, .inl us)), (jp, .inl (g 0, 1552, .inl up)), (ja, .inl (g 0, 388, .inl ua)), (jk, .inl (g 0, 97, .inl uk)), (jt, .inl (g 0, 150, .inl ut)), (jb, .inl (g 0, 1000, .inl ub))] := hD
    obtain rfl := q_rt hq
    exact rw_iret hx hb hr hk hP hD hS dX4_lock_14
theorem hd_X4_isSpan : ynm yX4_isSpan 2 := by unfold ynm; decide +kernel
theorem hd_X4_mayStretch : ynm yX4_mayStretch 4 := by unfold ynm; decide +kernel
theorem in_X4_stretch_X4 : ∀ w ∈ wsX40, w ∈ wsX4_stretch := fun _ h => List.mem_cons_of_mem _ (List.mem_append_right _ h)
def F_X4_stretch_68 (un : Int32) (uw : Int32) (up : Nat → Int32) (ua : Nat → Int32) (v1 : Int32) (v2 : Int32) (v3 : Int32) (v4 : Int32) : Nat → (Nat → Int32) → Int32 → Int32 → Option (Int32 × Int32 × Int32 × (Nat → Int32) × (Nat → Int32) × (Nat → Int32))
  | 0, _, _, _ => none
  | n + 1, us, v5, v6 => (F_X4_many us v1).bind fun r7 => if r7 ≤ v6 then ((F_X4_ends un uw up ua v5).bind fun o15 => some (o15.1, o15.2.1, o15.2.2.1, us, o15.2.2.2, ua)) else ((F_X4_of us v1 v6 0).bind fun r16 => (F_X4_stretched r16 v2 v3 v4).bind fun r18 => (F_X4_of us v1 v6 0).bind fun r20 => if r18 = r20 then (vlet (v5 + 0) fun x29 => (F_X4_spot v1 v6).bind fun r30 => vgd (ix (r30) 388) <| vlet (upd us r30.toNatClampNeg r18) fun f33 => vlet ((v6 : Int32) + 1) fun x34 => F_X4_stretch_68 un uw up ua v1 v2 v3 v4 n f33 x29 x34) else (vlet (v5 + 1) fun x23 => (F_X4_spot v1 v6).bind fun r24 => vgd (ix (r24) 388) <| vlet (upd us r24.toNatClampNeg r18) fun f27 => vlet ((v6 : Int32) + 1) fun x28 => F_X4_stretch_68 un uw up ua v1 v2 v3 v4 n f27 x23 x28))
set_option maxHeartbeats 4000000 in
set_option maxRecDepth 100000 in
theorem w_X4_stretch_68 {p : Program} {l : Launch} {e : Env} {s : State} {m : MethodId} {args : Array Value} {below : List Frame} {meth : Method} {c : Code} {G : va_G} {g : Nat → ClassId} (X : cx p s m args meth c cX4_stretch 8 (some .int) RX4 wsX4_stretch) (K : amb G g s) {A : Nat → Prop} (hA : ∀ q : Nat, s.heap.size ≤ q → A q) (jo js jp ja jk jt jb : Nat) (uy : Int32) (uq : Int32) (uz : Int32) (uk : Nat → Int32) (ut : Nat → Int32) (ub : Nat → Int32) (un : Int32) (uw : Int32) (up : Nat → Int32) (ua : Nat → Int32) (v1 : Int32) (v2 : Int32) (v3 : Int32) (v4 : Int32) (res : Int32 × Int32 × Int32 × (Nat → Int32) × (Nat → Int32) × (Nat → Int32)) : ∀ (n : Nat) (us : Nat → Int32) (v5 : Int32) (v6 : Int32), F_X4_stretch_68 un uw up ua v1 v2 v3 v4 n us v5 v6 = some res → ∀ (H : Heap) (locs : List Loc), va_P G vwCl [(jo, .inr (4, [.ref js, .ref jp, .ref ja, .ref jk, .int un, .ref jt, .int uy, .int uw, .ref jb, .int uq, .int uz])), (js, .inl (g 0, 388, .inl us)), (jp, .inl (g 0, 1552, .inl up)), (ja, .inl (g 0, 388, .inl ua)), (jk, .inl (g 0, 97, .inl uk)), (jt, .inl (g 0, 150, .inl ut)), (jb, .inl (g 0, 1000, .inl ub))] H → va_D A [(jo, .inr (4, [.ref js, .ref jp, .ref ja, .ref jk, .int un, .ref jt, .int uy, .int uw, .ref jb, .int uq, .int uz])), (js, .inl (g 0, 388, .inl us)), (jp, .inl (g 0, 1552, .inl up)), (ja, .inl (g 0, 388, .inl ua)), (jk, .inl (g 0, 97, .inl uk)), (jt, .inl (g 0, 150, .inl ut)), (jb, .inl (g 0, 1000, .inl ub))] → va_S A s.heap H locs → ∀ (ls : Array Slot), lv_has ls 8 [(0, .ref jo), (1, .int v1), (2, .int v2), (3, .int v3), (4, .int v4), (5, .int v5), (6, .int v6)] → W p l e (rmF 3 72) s m args below meth c H locs 0 0 (rwM G A below (some (.int res.1)) [(jo, .inr (4, [.ref js, .ref jp, .ref ja, .ref jk, .int res.2.1, .ref jt, .int uy, .int res.2.2.1, .ref jb, .int uq, .int uz])), (js, .inl (g 0, 388, .inl res.2.2.2.1)), (jp, .inl (g 0, 1552, .inl res.2.2.2.2.1)), (ja, .inl (g 0, 388, .inl res.2.2.2.2.2)), (jk, .inl (g 0, 97, .inl uk)), (jt, .inl (g 0, 150, .inl ut)), (jb, .inl (g 0, 1000, .inl ub))] args s) (F0 m 68 ls []) := by
  obtain ⟨hx, hb, hml, hr, hown, hts, hk⟩ := id X
  intro n
  induction n with
  | zero => intro us v5 v6 hq; exact q_no hq
  | succ n ih =>
    intro us v5 v6 hq H locs hP hD hS ls hl
    rw [F_X4_stretch_68] at hq
    refine lv_iload hx hb dX4_stretch_68 (lv_at hl 6 rfl) ?_
    refine lv_aload_n hx hb dX4_stretch_70 rfl (lv_at hl 0 rfl) ?_
    refine lv_iload_n hx hb dX4_stretch_71 rfl (lv_at hl 1 rfl) ?_
    obtain ⟨r7, hh8, hq⟩ := q_bd hq
    refine roV (ci := 4) (As := [.int v1]) (rest := [.int v6]) X K (k_X4_many l G g jo js jp ja jk jt jb un uy uw uq uz us up ua uk ut ub v1 _ hh8) hd_X4_many gX4_stretch_X4_many hP hl.1 dX4_stretch_72 rfl rfl ⟨Nat.le_of_ble_eq_true rfl, Nat.le_of_ble_eq_true rfl⟩ rfl rfl rfl (Nat.le_of_ble_eq_true rfl) ⟨Nat.zero_le _, Nat.zero_le _⟩ ?_
    refine lv_icmp_ge (tgt := 137) hx hb dX4_stretch_75 (by decide) (fun c9 => ?_) (fun c9 => ?_)
    · have hq := q_if_t hq c9
      refine lv_aload_n hx hb dX4_stretch_137 rfl (lv_at hl 0 rfl) ?_
      refine lv_iload hx hb dX4_stretch_138 (lv_at hl 5 rfl) ?_
      obtain ⟨⟨r10, y11, y12, y13⟩, hh14, hq⟩ := q_bd hq
      refine rwV (ci := 4) (wr := []) (As := [.int v5]) (rest := []) X K (k_X4_ends l G g jo js jp ja jk jt jb un uy uw uq uz us up ua uk ut ub v5 _ hh14) hd_X4_ends gX4_stretch_X4_ends hP hD hS hA [0, 1, 2, 3, 4, 5, 6] [] rfl rfl ⟨by decide, by decide, by decide⟩ hl.1 dX4_stretch_140 rfl rfl ⟨Nat.le_of_ble_eq_true rfl, Nat.le_of_ble_eq_true rfl⟩ rfl rfl rfl (Nat.le_of_ble_eq_true rfl) ⟨Nat.zero_le _, Nat.zero_le _⟩ (fun H locs hP hD hS => ?_)
      have hP : va_P G vwCl [(jo, .inr (4, [.ref js, .ref jp, .ref ja, .ref jk, .int y11, .ref jt, .int uy, .int y12, .ref jb, .int uq, .int uz])), (js, .inl (g 0, 388, .inl us)), (jp, .inl (g 0, 1552, .inl y13)), (ja, .inl (g 0, 388, .inl ua)), (jk, .inl (g 0, 97, .inl uk)), (jt, .inl (g 0, 150, .inl ut)), (jb, .inl (g 0, 1000, .inl ub))] H := hP
      have hD : va_D A [(jo, .inr (4, [.ref js, .ref jp, .ref ja, .ref jk, .int y11, .ref jt, .int uy, .int y12, .ref jb, .int uq, .int uz])), (js, .inl (g 0, 388, .inl us)), (jp, .inl (g 0, 1552, .inl y13)), (ja, .inl (g 0, 388, .inl ua)), (jk, .inl (g 0, 97, .inl uk)), (jt, .inl (g 0, 150, .inl ut)), (jb, .inl (g 0, 1000, .inl ub))] := hD
      obtain rfl := q_rt hq
      exact rw_iret hx hb hr hk hP hD hS dX4_stretch_143
    · have hq := q_if_f hq c9
      refine lv_aload_n hx hb dX4_stretch_78 rfl (lv_at hl 0 rfl) ?_
      refine lv_iload_n hx hb dX4_stretch_79 rfl (lv_at hl 1 rfl) ?_
      refine lv_iload hx hb dX4_stretch_80 (lv_at hl 6 rfl) ?_
      refine lv_iconst (v := 0) hx hb dX4_stretch_82 (by decide) ?_
      obtain ⟨r16, hh17, hq⟩ := q_bd hq
      refine roV (ci := 4) (As := [.int v1, .int v6, .int 0]) (rest := []) X K (k_X4_of l G g jo js jp ja jk jt jb un uy uw uq uz us up ua uk ut ub v1 v6 0 _ hh17) hd_X4_of gX4_stretch_X4_of hP hl.1 dX4_stretch_83 rfl rfl ⟨Nat.le_of_ble_eq_true rfl, Nat.le_of_ble_eq_true rfl⟩ rfl rfl rfl (Nat.le_of_ble_eq_true rfl) ⟨Nat.zero_le _, Nat.zero_le _⟩ ?_
      refine lv_iload_n hx hb dX4_stretch_86 rfl (lv_at hl 2 rfl) ?_
      refine lv_iload_n hx hb dX4_stretch_87 rfl (lv_at hl 3 rfl) ?_
      refine lv_iload hx hb dX4_stretch_88 (lv_at hl 4 rfl) ?_
      obtain ⟨r18, hh19, hq⟩ := q_bd hq
      refine roS (As := [.int r16, .int v2, .int v3, .int v4]) (rest := []) X K (k_X4_stretched l G g r16 v2 v3 v4 _ hh19) hd_X4_stretched gX4_stretch_X4_stretched (hP.sub [] rfl) hl.1 dX4_stretch_90 rfl rfl ⟨Nat.le_of_ble_eq_true rfl, Nat.le_of_ble_eq_true rfl⟩ rfl (Nat.le_of_ble_eq_true rfl) ⟨Nat.zero_le _, Nat.zero_le _⟩ ?_
      refine lv_istore (lv' := [(7, .int r18), (0, .ref jo), (1, .int v1), (2, .int v2), (3, .int v3), (4, .int v4), (5, .int v5), (6, .int v6)]) hx hb dX4_stretch_93 hl (by decide) rfl (fun ls hl => ?_)
      refine lv_iload hx hb dX4_stretch_95 (lv_at hl 6 rfl) ?_
      refine lv_iload hx hb dX4_stretch_97 (lv_at hl 0 rfl) ?_
      refine lv_aload_n hx hb dX4_stretch_99 rfl (lv_at hl 1 rfl) ?_
      refine lv_iload_n hx hb dX4_stretch_100 rfl (lv_at hl 2 rfl) ?_
      refine lv_iload hx hb dX4_stretch_101 (lv_at hl 7 rfl) ?_
      refine lv_iconst (v := 0) hx hb dX4_stretch_103 (by decide) ?_
      obtain ⟨r20, hh21, hq⟩ := q_bd hq
      refine roV (ci := 4) (As := [.int v1, .int v6, .int 0]) (rest := [.int r18, .int v5]) X K (k_X4_of l G g jo js jp ja jk jt jb un uy uw uq uz us up ua uk ut ub v1 v6 0 _ hh21) hd_X4_of gX4_stretch_X4_of hP hl.1 dX4_stretch_104 rfl rfl ⟨Nat.le_of_ble_eq_true rfl, Nat.le_of_ble_eq_true rfl⟩ rfl rfl rfl (Nat.le_of_ble_eq_true rfl) ⟨Nat.zero_le _, Nat.zero_le _⟩ ?_
      refine lv_icmp_ne (tgt := 114) hx hb dX4_stretch_107 (by decide) (fun c22 => ?_) (fun c22 => ?_)
      · have hq := q_if_f hq c22
        refine lv_iconst (v := 1) hx hb dX4_stretch_114 (by decide) ?_
        refine lv_iadd hx hb dX4_stretch_115 ?_
        refine lv_topi (fun x23 ex23 => ?_)
        have hq := q_let hq ex23
        refine lv_istore (lv' := [(5, .int x23), (7, .int r18), (0, .ref jo), (1, .int v1), (2, .int v2), (3, .int v3), (4, .int v4), (6, .int v6)]) hx hb dX4_stretch_116 hl (by decide) rfl (fun ls hl => ?_)
        refine lv_aload_n hx hb dX4_stretch_118 rfl (lv_at hl 2 rfl) ?_
        refine va_get (D := G) (ci := 4) (v := .ref js) (C := RX4) (T := TX4) (N := 11) hx hb hts in_X4_stretch_X4 hown K.1 hP 0 rfl rfl 0 (by decide) (hts _ (List.mem_of_getElem? (i := 1) rfl)) (fun _ h9 => h9) rfl dX4_stretch_119 ?_
        refine lv_iload_n hx hb dX4_stretch_122 rfl (lv_at hl 3 rfl) ?_
        refine lv_iload hx hb dX4_stretch_123 (lv_at hl 7 rfl) ?_
        obtain ⟨r24, hh25, hq⟩ := q_bd hq
        refine roS (As := [.int v1, .int v6]) (rest := [.ref js]) X K (k_X4_spot l G g v1 v6 _ hh25) hd_X4_spot gX4_stretch_X4_spot (hP.sub [] rfl) hl.1 dX4_stretch_125 rfl rfl ⟨Nat.le_of_ble_eq_true rfl, Nat.le_of_ble_eq_true rfl⟩ rfl (Nat.le_of_ble_eq_true rfl) ⟨Nat.zero_le _, Nat.zero_le _⟩ ?_
        refine lv_iload hx hb dX4_stretch_128 (lv_at hl 1 rfl) ?_
        obtain ⟨hh26, hq⟩ := q_gd hq
        refine va_iast hx hb K.1 hP hD hS 1 0 rfl rfl (vp_in_iff.mpr hh26) dX4_stretch_130 (fun H locs hP hD hS => ?_)
        obtain ⟨f27, ef27⟩ : ∃ y, y = upd us r24.toNatClampNeg r18 := ⟨_, rfl⟩
        have hq := q_let hq ef27
        have hP : va_P G vwCl [(jo, .inr (4, [.ref js, .ref jp, .ref ja, .ref jk, .int un, .ref jt, .int uy, .int uw, .ref jb, .int uq, .int uz])), (js, .inl (g 0, 388, .inl f27)), (jp, .inl (g 0, 1552, .inl up)), (ja, .inl (g 0, 388, .inl ua)), (jk, .inl (g 0, 97, .inl uk)), (jt, .inl (g 0, 150, .inl ut)), (jb, .inl (g 0, 1000, .inl ub))] H := by rw [ef27]; exact hP
        have hD : va_D A [(jo, .inr (4, [.ref js, .ref jp, .ref ja, .ref jk, .int un, .ref jt, .int uy, .int uw, .ref jb, .int uq, .int uz])), (js, .inl (g 0, 388, .inl f27)), (jp, .inl (g 0, 1552, .inl up)), (ja, .inl (g 0, 388, .inl ua)), (jk, .inl (g 0, 97, .inl uk)), (jt, .inl (g 0, 150, .inl ut)), (jb, .inl (g 0, 1000, .inl ub))] := by rw [ef27]; exact hD
        obtain ⟨x28, ex28⟩ : ∃ y : Int32, y = (v6 : Int32) + 1 := ⟨_, rfl⟩
        have hq := q_let hq ex28
        refine lv_iinc (v := x28) (lv' := [(6, .int x28), (5, .int x23), (7, .int r18), (0, .ref jo), (1, .int v1), (2, .int v2), (3, .int v3), (4, .int v4)]) hx hb dX4_stretch_131 hl (k := 7) rfl (by rw [ex28]; rfl) (by decide) rfl (fun ls hl => ?_)
        refine lv_goto (tgt := 68) hx hb dX4_stretch_134 (by decide) ?_
        exact ih f27 x23 x28 hq _ _ hP hD hS ls (lv_sub hl [3, 4, 5, 6, 7, 1, 0] rfl)
      · have hq := q_if_t hq c22
        refine lv_iconst (v := 0) hx hb dX4_stretch_110 (by decide) ?_
        refine lv_goto (tgt := 115) hx hb dX4_stretch_111 (by decide) ?_
        refine lv_iadd hx hb dX4_stretch_115 ?_
        refine lv_topi (fun x29 ex29 => ?_)
        have hq := q_let hq ex29
        refine lv_istore (lv' := [(5, .int x29), (7, .int r18), (0, .ref jo), (1, .int v1), (2, .int v2), (3, .int v3), (4, .int v4), (6, .int v6)]) hx hb dX4_stretch_116 hl (by decide) rfl (fun ls hl => ?_)
        refine lv_aload_n hx hb dX4_stretch_118 rfl (lv_at hl 2 rfl) ?_
        refine va_get (D := G) (ci := 4) (v := .ref js) (C := RX4) (T := TX4) (N := 11) hx hb hts in_X4_stretch_X4 hown K.1 hP 0 rfl rfl 0 (by decide) (hts _ (List.mem_of_getElem? (i := 1) rfl)) (fun _ h9 => h9) rfl dX4_stretch_119 ?_
        refine lv_iload_n hx hb dX4_stretch_122 rfl (lv_at hl 3 rfl) ?_
        refine lv_iload hx hb dX4_stretch_123 (lv_at hl 7 rfl) ?_
        obtain ⟨r30, hh31, hq⟩ := q_bd hq
        refine roS (As := [.int v1, .int v6]) (rest := [.ref js]) X K (k_X4_spot l G g v1 v6 _ hh31) hd_X4_spot gX4_stretch_X4_spot (hP.sub [] rfl) hl.1 dX4_stretch_125 rfl rfl ⟨Nat.le_of_ble_eq_true rfl, Nat.le_of_ble_eq_true rfl⟩ rfl (Nat.le_of_ble_eq_true rfl) ⟨Nat.zero_le _, Nat.zero_le _⟩ ?_
        refine lv_iload hx hb dX4_stretch_128 (lv_at hl 1 rfl) ?_
        obtain ⟨hh32, hq⟩ := q_gd hq
        refine va_iast hx hb K.1 hP hD hS 1 0 rfl rfl (vp_in_iff.mpr hh32) dX4_stretch_130 (fun H locs hP hD hS => ?_)
        obtain ⟨f33, ef33⟩ : ∃ y, y = upd us r30.toNatClampNeg r18 := ⟨_, rfl⟩
        have hq := q_let hq ef33
        have hP : va_P G vwCl [(jo, .inr (4, [.ref js, .ref jp, .ref ja, .ref jk, .int un, .ref jt, .int uy, .int uw, .ref jb, .int uq, .int uz])), (js, .inl (g 0, 388, .inl f33)), (jp, .inl (g 0, 1552, .inl up)), (ja, .inl (g 0, 388, .inl ua)), (jk, .inl (g 0, 97, .inl uk)), (jt, .inl (g 0, 150, .inl ut)), (jb, .inl (g 0, 1000, .inl ub))] H := by rw [ef33]; exact hP
        have hD : va_D A [(jo, .inr (4, [.ref js, .ref jp, .ref ja, .ref jk, .int un, .ref jt, .int uy, .int uw, .ref jb, .int uq, .int uz])), (js, .inl (g 0, 388, .inl f33)), (jp, .inl (g 0, 1552, .inl up)), (ja, .inl (g 0, 388, .inl ua)), (jk, .inl (g 0, 97, .inl uk)), (jt, .inl (g 0, 150, .inl ut)), (jb, .inl (g 0, 1000, .inl ub))] := by rw [ef33]; exact hD
        obtain ⟨x34, ex34⟩ : ∃ y : Int32, y = (v6 : Int32) + 1 := ⟨_, rfl⟩
        have hq := q_let hq ex34
        refine lv_iinc (v := x34) (lv' := [(6, .int x34), (5, .int x29), (7, .int r18), (0, .ref jo), (1, .int v1), (2, .int v2), (3, .int v3), (4, .int v4)]) hx hb dX4_stretch_131 hl (k := 7) rfl (by rw [ex34]; rfl) (by decide) rfl (fun ls hl => ?_)
        refine lv_goto (tgt := 68) hx hb dX4_stretch_134 (by decide) ?_
        exact ih f33 x29 x34 hq _ _ hP hD hS ls (lv_sub hl [3, 4, 5, 6, 7, 1, 0] rfl)
def F_X4_stretch (un : Int32) (uw : Int32) (us : Nat → Int32) (up : Nat → Int32) (ua : Nat → Int32) (p1 : Int32) (p2 : Int32) (p3 : Int32) (p4 : Int32) : Option (Int32 × Int32 × Int32 × (Nat → Int32) × (Nat → Int32) × (Nat → Int32)) := (F_X4_isCurve p1).bind fun r1 => if r1 = 0 then ((F_X4_fails uw 1).bind fun o30 => some (o30.1, un, o30.2, us, up, ua)) else ((F_X4_isSpan p2 p3).bind fun r4 => if r4 = 0 then ((F_X4_fails uw 2).bind fun o10 => some (o10.1, un, o10.2, us, up, ua)) else ((F_X4_in p4 10 500).bind fun r11 => if r11 = 0 then ((F_X4_fails uw 2).bind fun o26 => some (o26.1, un, o26.2, us, up, ua)) else ((F_X4_mayStretch us p1 p2 p3 p4).bind fun r14 => if r14 = 0 then ((F_X4_fails uw 3).bind fun o22 => some (o22.1, un, o22.2, us, up, ua)) else ((F_X4_hold us ua).bind fun y17 => F_X4_stretch_68 un uw up y17 p1 p2 p3 p4 2000 us 0 0))))
set_option maxHeartbeats 4000000 in
set_option maxRecDepth 100000 in
theorem k_X4_stretch (l : Launch) (G : va_G) (g : Nat → ClassId) (jo js jp ja jk jt jb : Nat) (un : Int32) (uy : Int32) (uw : Int32) (uq : Int32) (uz : Int32) (us : Nat → Int32) (up : Nat → Int32) (ua : Nat → Int32) (uk : Nat → Int32) (ut : Nat → Int32) (ub : Nat → Int32) (p1 : Int32) (p2 : Int32) (p3 : Int32) (p4 : Int32) (res : Int32 × Int32 × Int32 × (Nat → Int32) × (Nat → Int32) × (Nat → Int32)) (hq : F_X4_stretch un uw us up ua p1 p2 p3 p4 = some res) : rwC l yX4_stretch wsX4_stretch (rmF 3 72) G g [.ref jo, .int p1, .int p2, .int p3, .int p4] [(jo, .inr (4, [.ref js, .ref jp, .ref ja, .ref jk, .int un, .ref jt, .int uy, .int uw, .ref jb, .int uq, .int uz])), (js, .inl (g 0, 388, .inl us)), (jp, .inl (g 0, 1552, .inl up)), (ja, .inl (g 0, 388, .inl ua)), (jk, .inl (g 0, 97, .inl uk)), (jt, .inl (g 0, 150, .inl ut)), (jb, .inl (g 0, 1000, .inl ub))] (some (.int res.1)) [(jo, .inr (4, [.ref js, .ref jp, .ref ja, .ref jk, .int res.2.1, .ref jt, .int uy, .int res.2.2.1, .ref jb, .int uq, .int uz])), (js, .inl (g 0, 388, .inl res.2.2.2.1)), (jp, .inl (g 0, 1552, .inl res.2.2.2.2.1)), (ja, .inl (g 0, 388, .inl res.2.2.2.2.2)), (jk, .inl (g 0, 97, .inl uk)), (jt, .inl (g 0, 150, .inl ut)), (jb, .inl (g 0, 1000, .inl ub))] := by
  refine rwC.of (cc := cX4_stretch) (maxL := 8) (ret := (some .int)) (by decide) rfl (Nat.le_of_ble_eq_true rfl) ?_
  intro p e s m below meth c ls A X K hA hP hD hS hl
  obtain ⟨hx, hb, hml, hr, hown, hts, hk⟩ := id X
  have hl : lv_has ls 8 [(0, .ref jo), (1, .int p1), (2, .int p2), (3, .int p3), (4, .int p4)] := hl
  unfold F_X4_stretch at hq
  refine lv_iload_n hx hb dX4_stretch_0 rfl (lv_at hl 1 rfl) ?_
  obtain ⟨r1, hh2, hq⟩ := q_bd hq
  refine roS (As := [.int p1]) (rest := []) X K (k_X4_isCurve l G g p1 _ hh2) hd_X4_isCurve gX4_stretch_X4_isCurve (hP.sub [] rfl) hl.1 dX4_stretch_1 rfl rfl ⟨Nat.le_of_ble_eq_true rfl, Nat.le_of_ble_eq_true rfl⟩ rfl (Nat.le_of_ble_eq_true rfl) ⟨Nat.zero_le _, Nat.zero_le _⟩ ?_
  refine lv_if_ne (tgt := 13) hx hb dX4_stretch_4 (by decide) (fun c3 => ?_) (fun c3 => ?_)
  · have hq := q_if_f hq c3
    refine lv_iload_n hx hb dX4_stretch_13 rfl (lv_at hl 2 rfl) ?_
    refine lv_iload_n hx hb dX4_stretch_14 rfl (lv_at hl 3 rfl) ?_
    obtain ⟨r4, hh5, hq⟩ := q_bd hq
    refine roS (As := [.int p2, .int p3]) (rest := []) X K (k_X4_isSpan l G g p2 p3 _ hh5) hd_X4_isSpan gX4_stretch_X4_isSpan (hP.sub [] rfl) hl.1 dX4_stretch_15 rfl rfl ⟨Nat.le_of_ble_eq_true rfl, Nat.le_of_ble_eq_true rfl⟩ rfl (Nat.le_of_ble_eq_true rfl) ⟨Nat.zero_le _, Nat.zero_le _⟩ ?_
    refine lv_if_eq (tgt := 34) hx hb dX4_stretch_18 (by decide) (fun c6 => ?_) (fun c6 => ?_)
    · have hq := q_if_t hq c6
      refine lv_aload_n hx hb dX4_stretch_34 rfl (lv_at hl 0 rfl) ?_
      refine lv_iconst (v := 2) hx hb dX4_stretch_35 (by decide) ?_
      obtain ⟨⟨r7, y8⟩, hh9, hq⟩ := q_bd hq
      refine rwV (ci := 4) (wr := []) (As := [.int 2]) (rest := []) X K (k_X4_fails l G g jo js jp ja jk jt jb un uy uw uq uz us up ua uk ut ub 2 _ hh9) hd_X4_fails gX4_stretch_X4_fails hP hD hS hA [0, 1, 2, 3, 4, 5, 6] [] rfl rfl ⟨by decide, by decide, by decide⟩ hl.1 dX4_stretch_36 rfl rfl ⟨Nat.le_of_ble_eq_true rfl, Nat.le_of_ble_eq_true rfl⟩ rfl rfl rfl (Nat.le_of_ble_eq_true rfl) ⟨Nat.zero_le _, Nat.zero_le _⟩ (fun H locs hP hD hS => ?_)
      have hP : va_P G vwCl [(jo, .inr (4, [.ref js, .ref jp, .ref ja, .ref jk, .int un, .ref jt, .int uy, .int y8, .ref jb, .int uq, .int uz])), (js, .inl (g 0, 388, .inl us)), (jp, .inl (g 0, 1552, .inl up)), (ja, .inl (g 0, 388, .inl ua)), (jk, .inl (g 0, 97, .inl uk)), (jt, .inl (g 0, 150, .inl ut)), (jb, .inl (g 0, 1000, .inl ub))] H := hP
      have hD : va_D A [(jo, .inr (4, [.ref js, .ref jp, .ref ja, .ref jk, .int un, .ref jt, .int uy, .int y8, .ref jb, .int uq, .int uz])), (js, .inl (g 0, 388, .inl us)), (jp, .inl (g 0, 1552, .inl up)), (ja, .inl (g 0, 388, .inl ua)), (jk, .inl (g 0, 97, .inl uk)), (jt, .inl (g 0, 150, .inl ut)), (jb, .inl (g 0, 1000, .inl ub))] := hD
      obtain rfl := q_rt hq
      exact rw_iret hx hb hr hk hP hD hS dX4_stretch_39
    · have hq := q_if_f hq c6
      refine lv_iload hx hb dX4_stretch_21 (lv_at hl 4 rfl) ?_
      refine lv_bipush (v := 10) hx hb dX4_stretch_23 (by decide) ?_
      refine lv_sipush (v := 500) hx hb dX4_stretch_25 (by decide) ?_
      obtain ⟨r11, hh12, hq⟩ := q_bd hq
      refine roS (As := [.int p4, .int 10, .int 500]) (rest := []) X K (k_X4_in l G g p4 10 500 _ hh12) hd_X4_in gX4_stretch_X4_in (hP.sub [] rfl) hl.1 dX4_stretch_28 rfl rfl ⟨Nat.le_of_ble_eq_true rfl, Nat.le_of_ble_eq_true rfl⟩ rfl (Nat.le_of_ble_eq_true rfl) ⟨Nat.zero_le _, Nat.zero_le _⟩ ?_
      refine lv_if_ne (tgt := 40) hx hb dX4_stretch_31 (by decide) (fun c13 => ?_) (fun c13 => ?_)
      · have hq := q_if_f hq c13
        refine lv_aload_n hx hb dX4_stretch_40 rfl (lv_at hl 0 rfl) ?_
        refine lv_iload_n hx hb dX4_stretch_41 rfl (lv_at hl 1 rfl) ?_
        refine lv_iload_n hx hb dX4_stretch_42 rfl (lv_at hl 2 rfl) ?_
        refine lv_iload_n hx hb dX4_stretch_43 rfl (lv_at hl 3 rfl) ?_
        refine lv_iload hx hb dX4_stretch_44 (lv_at hl 4 rfl) ?_
        obtain ⟨r14, hh15, hq⟩ := q_bd hq
        refine roV (ci := 4) (As := [.int p1, .int p2, .int p3, .int p4]) (rest := []) X K (k_X4_mayStretch l G g jo js jp ja jk jt jb un uy uw uq uz us up ua uk ut ub p1 p2 p3 p4 _ hh15) hd_X4_mayStretch gX4_stretch_X4_mayStretch hP hl.1 dX4_stretch_46 rfl rfl ⟨Nat.le_of_ble_eq_true rfl, Nat.le_of_ble_eq_true rfl⟩ rfl rfl rfl (Nat.le_of_ble_eq_true rfl) ⟨Nat.zero_le _, Nat.zero_le _⟩ ?_
        refine lv_if_ne (tgt := 58) hx hb dX4_stretch_49 (by decide) (fun c16 => ?_) (fun c16 => ?_)
        · have hq := q_if_f hq c16
          refine lv_aload_n hx hb dX4_stretch_58 rfl (lv_at hl 0 rfl) ?_
          obtain ⟨y17, hh18, hq⟩ := q_bd hq
          refine rwV (ci := 4) (wr := []) (As := []) (rest := []) X K (k_X4_hold l G g jo js jp ja jk jt jb un uy uw uq uz us up ua uk ut ub _ hh18) hd_X4_hold gX4_stretch_X4_hold hP hD hS hA [0, 1, 2, 3, 4, 5, 6] [] rfl rfl ⟨by decide, by decide, by decide⟩ hl.1 dX4_stretch_59 rfl rfl ⟨Nat.le_of_ble_eq_true rfl, Nat.le_of_ble_eq_true rfl⟩ rfl rfl rfl (Nat.le_of_ble_eq_true rfl) ⟨Nat.zero_le _, Nat.zero_le _⟩ (fun H locs hP hD hS => ?_)
          have hP : va_P G vwCl [(jo, .inr (4, [.ref js, .ref jp, .ref ja, .ref jk, .int un, .ref jt, .int uy, .int uw, .ref jb, .int uq, .int uz])), (js, .inl (g 0, 388, .inl us)), (jp, .inl (g 0, 1552, .inl up)), (ja, .inl (g 0, 388, .inl y17)), (jk, .inl (g 0, 97, .inl uk)), (jt, .inl (g 0, 150, .inl ut)), (jb, .inl (g 0, 1000, .inl ub))] H := hP
          have hD : va_D A [(jo, .inr (4, [.ref js, .ref jp, .ref ja, .ref jk, .int un, .ref jt, .int uy, .int uw, .ref jb, .int uq, .int uz])), (js, .inl (g 0, 388, .inl us)), (jp, .inl (g 0, 1552, .inl up)), (ja, .inl (g 0, 388, .inl y17)), (jk, .inl (g 0, 97, .inl uk)), (jt, .inl (g 0, 150, .inl ut)), (jb, .inl (g 0, 1000, .inl ub))] := hD
          refine lv_iconst (v := 0) hx hb dX4_stretch_62 (by decide) ?_
          refine lv_istore (lv' := [(5, .int 0), (0, .ref jo), (1, .int p1), (2, .int p2), (3, .int p3), (4, .int p4)]) hx hb dX4_stretch_63 hl (by decide) rfl (fun ls hl => ?_)
          refine lv_iconst (v := 0) hx hb dX4_stretch_65 (by decide) ?_
          refine lv_istore (lv' := [(6, .int 0), (5, .int 0), (0, .ref jo), (1, .int p1), (2, .int p2), (3, .int p3), (4, .int p4)]) hx hb dX4_stretch_66 hl (by decide) rfl (fun ls hl => ?_)
          exact w_X4_stretch_68 X K hA jo js jp ja jk jt jb uy uq uz uk ut ub un uw up y17 p1 p2 p3 p4 _ 2000 us 0 0 hq _ _ hP hD hS ls (lv_sub hl [2, 3, 4, 5, 6, 1, 0] rfl)
        · have hq := q_if_t hq c16
          refine lv_aload_n hx hb dX4_stretch_52 rfl (lv_at hl 0 rfl) ?_
          refine lv_iconst (v := 3) hx hb dX4_stretch_53 (by decide) ?_
          obtain ⟨⟨r19, y20⟩, hh21, hq⟩ := q_bd hq
          refine rwV (ci := 4) (wr := []) (As := [.int 3]) (rest := []) X K (k_X4_fails l G g jo js jp ja jk jt jb un uy uw uq uz us up ua uk ut ub 3 _ hh21) hd_X4_fails gX4_stretch_X4_fails hP hD hS hA [0, 1, 2, 3, 4, 5, 6] [] rfl rfl ⟨by decide, by decide, by decide⟩ hl.1 dX4_stretch_54 rfl rfl ⟨Nat.le_of_ble_eq_true rfl, Nat.le_of_ble_eq_true rfl⟩ rfl rfl rfl (Nat.le_of_ble_eq_true rfl) ⟨Nat.zero_le _, Nat.zero_le _⟩ (fun H locs hP hD hS => ?_)
          have hP : va_P G vwCl [(jo, .inr (4, [.ref js, .ref jp, .ref ja, .ref jk, .int un, .ref jt, .int uy, .int y20, .ref jb, .int uq, .int uz])), (js, .inl (g 0, 388, .inl us)), (jp, .inl (g 0, 1552, .inl up)), (ja, .inl (g 0, 388, .inl ua)), (jk, .inl (g 0, 97, .inl uk)), (jt, .inl (g 0, 150, .inl ut)), (jb, .inl (g 0, 1000, .inl ub))] H := hP
          have hD : va_D A [(jo, .inr (4, [.ref js, .ref jp, .ref ja, .ref jk, .int un, .ref jt, .int uy, .int y20, .ref jb, .int uq, .int uz])), (js, .inl (g 0, 388, .inl us)), (jp, .inl (g 0, 1552, .inl up)), (ja, .inl (g 0, 388, .inl ua)), (jk, .inl (g 0, 97, .inl uk)), (jt, .inl (g 0, 150, .inl ut)), (jb, .inl (g 0, 1000, .inl ub))] := hD
          obtain rfl := q_rt hq
          exact rw_iret hx hb hr hk hP hD hS dX4_stretch_57
      · have hq := q_if_t hq c13
        refine lv_aload_n hx hb dX4_stretch_34 rfl (lv_at hl 0 rfl) ?_
        refine lv_iconst (v := 2) hx hb dX4_stretch_35 (by decide) ?_
        obtain ⟨⟨r23, y24⟩, hh25, hq⟩ := q_bd hq
        refine rwV (ci := 4) (wr := []) (As := [.int 2]) (rest := []) X K (k_X4_fails l G g jo js jp ja jk jt jb un uy uw uq uz us up ua uk ut ub 2 _ hh25) hd_X4_fails gX4_stretch_X4_fails hP hD hS hA [0, 1, 2, 3, 4, 5, 6] [] rfl rfl ⟨by decide, by decide, by decide⟩ hl.1 dX4_stretch_36 rfl rfl ⟨Nat.le_of_ble_eq_true rfl, Nat.le_of_ble_eq_true rfl⟩ rfl rfl rfl (Nat.le_of_ble_eq_true rfl) ⟨Nat.zero_le _, Nat.zero_le _⟩ (fun H locs hP hD hS => ?_)
        have hP : va_P G vwCl [(jo, .inr (4, [.ref js, .ref jp, .ref ja, .ref jk, .int un, .ref jt, .int uy, .int y24, .ref jb, .int uq, .int uz])), (js, .inl (g 0, 388, .inl us)), (jp, .inl (g 0, 1552, .inl up)), (ja, .inl (g 0, 388, .inl ua)), (jk, .inl (g 0, 97, .inl uk)), (jt, .inl (g 0, 150, .inl ut)), (jb, .inl (g 0, 1000, .inl ub))] H := hP
        have hD : va_D A [(jo, .inr (4, [.ref js, .ref jp, .ref ja, .ref jk, .int un, .ref jt, .int uy, .int y24, .ref jb, .int uq, .int uz])), (js, .inl (g 0, 388, .inl us)), (jp, .inl (g 0, 1552, .inl up)), (ja, .inl (g 0, 388, .inl ua)), (jk, .inl (g 0, 97, .inl uk)), (jt, .inl (g 0, 150, .inl ut)), (jb, .inl (g 0, 1000, .inl ub))] := hD
        obtain rfl := q_rt hq
        exact rw_iret hx hb hr hk hP hD hS dX4_stretch_39
  · have hq := q_if_t hq c3
    refine lv_aload_n hx hb dX4_stretch_7 rfl (lv_at hl 0 rfl) ?_
    refine lv_iconst (v := 1) hx hb dX4_stretch_8 (by decide) ?_
    obtain ⟨⟨r27, y28⟩, hh29, hq⟩ := q_bd hq
    refine rwV (ci := 4) (wr := []) (As := [.int 1]) (rest := []) X K (k_X4_fails l G g jo js jp ja jk jt jb un uy uw uq uz us up ua uk ut ub 1 _ hh29) hd_X4_fails gX4_stretch_X4_fails hP hD hS hA [0, 1, 2, 3, 4, 5, 6] [] rfl rfl ⟨by decide, by decide, by decide⟩ hl.1 dX4_stretch_9 rfl rfl ⟨Nat.le_of_ble_eq_true rfl, Nat.le_of_ble_eq_true rfl⟩ rfl rfl rfl (Nat.le_of_ble_eq_true rfl) ⟨Nat.zero_le _, Nat.zero_le _⟩ (fun H locs hP hD hS => ?_)
    have hP : va_P G vwCl [(jo, .inr (4, [.ref js, .ref jp, .ref ja, .ref jk, .int un, .ref jt, .int uy, .int y28, .ref jb, .int uq, .int uz])), (js, .inl (g 0, 388, .inl us)), (jp, .inl (g 0, 1552, .inl up)), (ja, .inl (g 0, 388, .inl ua)), (jk, .inl (g 0, 97, .inl uk)), (jt, .inl (g 0, 150, .inl ut)), (jb, .inl (g 0, 1000, .inl ub))] H := hP
    have hD : va_D A [(jo, .inr (4, [.ref js, .ref jp, .ref ja, .ref jk, .int un, .ref jt, .int uy, .int y28, .ref jb, .int uq, .int uz])), (js, .inl (g 0, 388, .inl us)), (jp, .inl (g 0, 1552, .inl up)), (ja, .inl (g 0, 388, .inl ua)), (jk, .inl (g 0, 97, .inl uk)), (jt, .inl (g 0, 150, .inl ut)), (jb, .inl (g 0, 1000, .inl ub))] := hD
    obtain rfl := q_rt hq
    exact rw_iret hx hb hr hk hP hD hS dX4_stretch_12
theorem hd_X4_hasLock : ynm yX4_hasLock 1 := by unfold ynm; decide +kernel
theorem in_X4_copy_X4 : ∀ w ∈ wsX40, w ∈ wsX4_copy := fun _ h => List.mem_cons_of_mem _ (List.mem_append_right _ h)
def F_X4_copy_153 (un : Int32) (uw : Int32) (up : Nat → Int32) (ua : Nat → Int32) (v1 : Int32) (v2 : Int32) : Nat → (Nat → Int32) → Int32 → Option (Int32 × Int32 × Int32 × (Nat → Int32) × (Nat → Int32) × (Nat → Int32))
  | 0, _, _ => none
  | n + 1, us, v3 => (F_X4_many us v1).bind fun r4 => if r4 ≤ v3 then ((F_X4_many us v1).bind fun r7 => (F_X4_ends un uw up ua r7).bind fun o14 => some (o14.1, o14.2.1, o14.2.2.1, us, o14.2.2.2, ua)) else ((F_X4_spot v1 v3).bind fun r15 => vlet (r15 + 1) fun x17 => vgd (ix (x17) 388) <| vgd (ix (x17) 388) <| vlet (upd us x17.toNatClampNeg ((us x17.toNatClampNeg) + v2)) fun f20 => vlet ((v3 : Int32) + 1) fun x21 => F_X4_copy_153 un uw up ua v1 v2 n f20 x21)
set_option maxHeartbeats 4000000 in
set_option maxRecDepth 100000 in
theorem w_X4_copy_153 {p : Program} {l : Launch} {e : Env} {s : State} {m : MethodId} {args : Array Value} {below : List Frame} {meth : Method} {c : Code} {G : va_G} {g : Nat → ClassId} (X : cx p s m args meth c cX4_copy 6 (some .int) RX4 wsX4_copy) (K : amb G g s) {A : Nat → Prop} (hA : ∀ q : Nat, s.heap.size ≤ q → A q) (jo js jp ja jk jt jb : Nat) (uy : Int32) (uq : Int32) (uz : Int32) (uk : Nat → Int32) (ut : Nat → Int32) (ub : Nat → Int32) (un : Int32) (uw : Int32) (up : Nat → Int32) (ua : Nat → Int32) (v1 : Int32) (v2 : Int32) (res : Int32 × Int32 × Int32 × (Nat → Int32) × (Nat → Int32) × (Nat → Int32)) : ∀ (n : Nat) (us : Nat → Int32) (v3 : Int32), F_X4_copy_153 un uw up ua v1 v2 n us v3 = some res → ∀ (H : Heap) (locs : List Loc), va_P G vwCl [(jo, .inr (4, [.ref js, .ref jp, .ref ja, .ref jk, .int un, .ref jt, .int uy, .int uw, .ref jb, .int uq, .int uz])), (js, .inl (g 0, 388, .inl us)), (jp, .inl (g 0, 1552, .inl up)), (ja, .inl (g 0, 388, .inl ua)), (jk, .inl (g 0, 97, .inl uk)), (jt, .inl (g 0, 150, .inl ut)), (jb, .inl (g 0, 1000, .inl ub))] H → va_D A [(jo, .inr (4, [.ref js, .ref jp, .ref ja, .ref jk, .int un, .ref jt, .int uy, .int uw, .ref jb, .int uq, .int uz])), (js, .inl (g 0, 388, .inl us)), (jp, .inl (g 0, 1552, .inl up)), (ja, .inl (g 0, 388, .inl ua)), (jk, .inl (g 0, 97, .inl uk)), (jt, .inl (g 0, 150, .inl ut)), (jb, .inl (g 0, 1000, .inl ub))] → va_S A s.heap H locs → ∀ (ls : Array Slot), lv_has ls 6 [(0, .ref jo), (1, .int v1), (3, .int v2), (5, .int v3)] → W p l e (rmF 3 67) s m args below meth c H locs 0 0 (rwM G A below (some (.int res.1)) [(jo, .inr (4, [.ref js, .ref jp, .ref ja, .ref jk, .int res.2.1, .ref jt, .int uy, .int res.2.2.1, .ref jb, .int uq, .int uz])), (js, .inl (g 0, 388, .inl res.2.2.2.1)), (jp, .inl (g 0, 1552, .inl res.2.2.2.2.1)), (ja, .inl (g 0, 388, .inl res.2.2.2.2.2)), (jk, .inl (g 0, 97, .inl uk)), (jt, .inl (g 0, 150, .inl ut)), (jb, .inl (g 0, 1000, .inl ub))] args s) (F0 m 153 ls []) := by
  obtain ⟨hx, hb, hml, hr, hown, hts, hk⟩ := id X
  intro n
  induction n with
  | zero => intro us v3 hq; exact q_no hq
  | succ n ih =>
    intro us v3 hq H locs hP hD hS ls hl
    rw [F_X4_copy_153] at hq
    refine lv_iload hx hb dX4_copy_153 (lv_at hl 3 rfl) ?_
    refine lv_aload_n hx hb dX4_copy_155 rfl (lv_at hl 0 rfl) ?_
    refine lv_iload_n hx hb dX4_copy_156 rfl (lv_at hl 1 rfl) ?_
    obtain ⟨r4, hh5, hq⟩ := q_bd hq
    refine roV (ci := 4) (As := [.int v1]) (rest := [.int v3]) X K (k_X4_many l G g jo js jp ja jk jt jb un uy uw uq uz us up ua uk ut ub v1 _ hh5) hd_X4_many gX4_copy_X4_many hP hl.1 dX4_copy_157 rfl rfl ⟨Nat.le_of_ble_eq_true rfl, Nat.le_of_ble_eq_true rfl⟩ rfl rfl rfl (Nat.le_of_ble_eq_true rfl) ⟨Nat.zero_le _, Nat.zero_le _⟩ ?_
    refine lv_icmp_ge (tgt := 186) hx hb dX4_copy_160 (by decide) (fun c6 => ?_) (fun c6 => ?_)
    · have hq := q_if_t hq c6
      refine lv_aload_n hx hb dX4_copy_186 rfl (lv_at hl 0 rfl) ?_
      refine lv_aload_n hx hb dX4_copy_187 rfl (lv_at hl 0 rfl) ?_
      refine lv_iload_n hx hb dX4_copy_188 rfl (lv_at hl 1 rfl) ?_
      obtain ⟨r7, hh8, hq⟩ := q_bd hq
      refine roV (ci := 4) (As := [.int v1]) (rest := [.ref jo]) X K (k_X4_many l G g jo js jp ja jk jt jb un uy uw uq uz us up ua uk ut ub v1 _ hh8) hd_X4_many gX4_copy_X4_many hP hl.1 dX4_copy_189 rfl rfl ⟨Nat.le_of_ble_eq_true rfl, Nat.le_of_ble_eq_true rfl⟩ rfl rfl rfl (Nat.le_of_ble_eq_true rfl) ⟨Nat.zero_le _, Nat.zero_le _⟩ ?_
      obtain ⟨⟨r9, y10, y11, y12⟩, hh13, hq⟩ := q_bd hq
      refine rwV (ci := 4) (wr := []) (As := [.int r7]) (rest := []) X K (k_X4_ends l G g jo js jp ja jk jt jb un uy uw uq uz us up ua uk ut ub r7 _ hh13) hd_X4_ends gX4_copy_X4_ends hP hD hS hA [0, 1, 2, 3, 4, 5, 6] [] rfl rfl ⟨by decide, by decide, by decide⟩ hl.1 dX4_copy_192 rfl rfl ⟨Nat.le_of_ble_eq_true rfl, Nat.le_of_ble_eq_true rfl⟩ rfl rfl rfl (Nat.le_of_ble_eq_true rfl) ⟨Nat.zero_le _, Nat.zero_le _⟩ (fun H locs hP hD hS => ?_)
      have hP : va_P G vwCl [(jo, .inr (4, [.ref js, .ref jp, .ref ja, .ref jk, .int y10, .ref jt, .int uy, .int y11, .ref jb, .int uq, .int uz])), (js, .inl (g 0, 388, .inl us)), (jp, .inl (g 0, 1552, .inl y12)), (ja, .inl (g 0, 388, .inl ua)), (jk, .inl (g 0, 97, .inl uk)), (jt, .inl (g 0, 150, .inl ut)), (jb, .inl (g 0, 1000, .inl ub))] H := hP
      have hD : va_D A [(jo, .inr (4, [.ref js, .ref jp, .ref ja, .ref jk, .int y10, .ref jt, .int uy, .int y11, .ref jb, .int uq, .int uz])), (js, .inl (g 0, 388, .inl us)), (jp, .inl (g 0, 1552, .inl y12)), (ja, .inl (g 0, 388, .inl ua)), (jk, .inl (g 0, 97, .inl uk)), (jt, .inl (g 0, 150, .inl ut)), (jb, .inl (g 0, 1000, .inl ub))] := hD
      obtain rfl := q_rt hq
      exact rw_iret hx hb hr hk hP hD hS dX4_copy_195
    · have hq := q_if_f hq c6
      refine lv_aload_n hx hb dX4_copy_163 rfl (lv_at hl 0 rfl) ?_
      refine va_get (D := G) (ci := 4) (v := .ref js) (C := RX4) (T := TX4) (N := 11) hx hb hts in_X4_copy_X4 hown K.1 hP 0 rfl rfl 0 (by decide) (hts _ (List.mem_of_getElem? (i := 1) rfl)) (fun _ h9 => h9) rfl dX4_copy_164 ?_
      refine lv_iload_n hx hb dX4_copy_167 rfl (lv_at hl 1 rfl) ?_
      refine lv_iload hx hb dX4_copy_168 (lv_at hl 3 rfl) ?_
      obtain ⟨r15, hh16, hq⟩ := q_bd hq
      refine roS (As := [.int v1, .int v3]) (rest := [.ref js]) X K (k_X4_spot l G g v1 v3 _ hh16) hd_X4_spot gX4_copy_X4_spot (hP.sub [] rfl) hl.1 dX4_copy_170 rfl rfl ⟨Nat.le_of_ble_eq_true rfl, Nat.le_of_ble_eq_true rfl⟩ rfl (Nat.le_of_ble_eq_true rfl) ⟨Nat.zero_le _, Nat.zero_le _⟩ ?_
      refine lv_iconst (v := 1) hx hb dX4_copy_173 (by decide) ?_
      refine lv_iadd hx hb dX4_copy_174 ?_
      refine lv_topi (fun x17 ex17 => ?_)
      have hq := q_let hq ex17
      refine lv_dup2_11 hx hb dX4_copy_175 rfl rfl ?_
      obtain ⟨hh18, hq⟩ := q_gd hq
      refine va_iald hx hb K.1 hP 1 0 rfl rfl (vp_in_iff.mpr hh18) dX4_copy_176 ?_
      refine lv_iload_n hx hb dX4_copy_177 rfl (lv_at hl 2 rfl) ?_
      refine lv_iadd hx hb dX4_copy_178 ?_
      obtain ⟨hh19, hq⟩ := q_gd hq
      refine va_iast hx hb K.1 hP hD hS 1 0 rfl rfl (vp_in_iff.mpr hh19) dX4_copy_179 (fun H locs hP hD hS => ?_)
      obtain ⟨f20, ef20⟩ : ∃ y, y = upd us x17.toNatClampNeg ((us x17.toNatClampNeg) + v2) := ⟨_, rfl⟩
      have hq := q_let hq ef20
      have hP : va_P G vwCl [(jo, .inr (4, [.ref js, .ref jp, .ref ja, .ref jk, .int un, .ref jt, .int uy, .int uw, .ref jb, .int uq, .int uz])), (js, .inl (g 0, 388, .inl f20)), (jp, .inl (g 0, 1552, .inl up)), (ja, .inl (g 0, 388, .inl ua)), (jk, .inl (g 0, 97, .inl uk)), (jt, .inl (g 0, 150, .inl ut)), (jb, .inl (g 0, 1000, .inl ub))] H := by rw [ef20]; exact hP
      have hD : va_D A [(jo, .inr (4, [.ref js, .ref jp, .ref ja, .ref jk, .int un, .ref jt, .int uy, .int uw, .ref jb, .int uq, .int uz])), (js, .inl (g 0, 388, .inl f20)), (jp, .inl (g 0, 1552, .inl up)), (ja, .inl (g 0, 388, .inl ua)), (jk, .inl (g 0, 97, .inl uk)), (jt, .inl (g 0, 150, .inl ut)), (jb, .inl (g 0, 1000, .inl ub))] := by rw [ef20]; exact hD
      obtain ⟨x21, ex21⟩ : ∃ y : Int32, y = (v3 : Int32) + 1 := ⟨_, rfl⟩
      have hq := q_let hq ex21
      refine lv_iinc (v := x21) (lv' := [(5, .int x21), (0, .ref jo), (1, .int v1), (3, .int v2)]) hx hb dX4_copy_180 hl (k := 3) rfl (by rw [ex21]; rfl) (by decide) rfl (fun ls hl => ?_)
      refine lv_goto (tgt := 153) hx hb dX4_copy_183 (by decide) ?_
      exact ih f20 x21 hq _ _ hP hD hS ls (lv_sub hl [1, 2, 3, 0] rfl)
def F_X4_copy_113 (un : Int32) (uw : Int32) (up : Nat → Int32) (ua : Nat → Int32) (v1 : Int32) (v2 : Int32) (v3 : Int32) : Nat → (Nat → Int32) → Int32 → Option (Int32 × Int32 × Int32 × (Nat → Int32) × (Nat → Int32) × (Nat → Int32))
  | 0, _, _ => none
  | n + 1, us, v4 => if (97 : Int32) ≤ v4 then (F_X4_copy_153 un uw up ua v1 v3 2000 us 0) else (vgd (ix (((97 : Int32) * v2) + v4) 388) <| vgd (ix (((97 : Int32) * v1) + v4) 388) <| vlet (upd us (((97 : Int32) * v1) + v4).toNatClampNeg (us (((97 : Int32) * v2) + v4).toNatClampNeg)) fun f8 => vlet ((v4 : Int32) + 1) fun x9 => F_X4_copy_113 un uw up ua v1 v2 v3 n f8 x9)
set_option maxHeartbeats 4000000 in
set_option maxRecDepth 100000 in
theorem w_X4_copy_113 {p : Program} {l : Launch} {e : Env} {s : State} {m : MethodId} {args : Array Value} {below : List Frame} {meth : Method} {c : Code} {G : va_G} {g : Nat → ClassId} (X : cx p s m args meth c cX4_copy 6 (some .int) RX4 wsX4_copy) (K : amb G g s) {A : Nat → Prop} (hA : ∀ q : Nat, s.heap.size ≤ q → A q) (jo js jp ja jk jt jb : Nat) (uy : Int32) (uq : Int32) (uz : Int32) (uk : Nat → Int32) (ut : Nat → Int32) (ub : Nat → Int32) (un : Int32) (uw : Int32) (up : Nat → Int32) (ua : Nat → Int32) (v1 : Int32) (v2 : Int32) (v3 : Int32) (res : Int32 × Int32 × Int32 × (Nat → Int32) × (Nat → Int32) × (Nat → Int32)) : ∀ (n : Nat) (us : Nat → Int32) (v4 : Int32), F_X4_copy_113 un uw up ua v1 v2 v3 n us v4 = some res → ∀ (H : Heap) (locs : List Loc), va_P G vwCl [(jo, .inr (4, [.ref js, .ref jp, .ref ja, .ref jk, .int un, .ref jt, .int uy, .int uw, .ref jb, .int uq, .int uz])), (js, .inl (g 0, 388, .inl us)), (jp, .inl (g 0, 1552, .inl up)), (ja, .inl (g 0, 388, .inl ua)), (jk, .inl (g 0, 97, .inl uk)), (jt, .inl (g 0, 150, .inl ut)), (jb, .inl (g 0, 1000, .inl ub))] H → va_D A [(jo, .inr (4, [.ref js, .ref jp, .ref ja, .ref jk, .int un, .ref jt, .int uy, .int uw, .ref jb, .int uq, .int uz])), (js, .inl (g 0, 388, .inl us)), (jp, .inl (g 0, 1552, .inl up)), (ja, .inl (g 0, 388, .inl ua)), (jk, .inl (g 0, 97, .inl uk)), (jt, .inl (g 0, 150, .inl ut)), (jb, .inl (g 0, 1000, .inl ub))] → va_S A s.heap H locs → ∀ (ls : Array Slot), lv_has ls 6 [(0, .ref jo), (1, .int v1), (2, .int v2), (3, .int v3), (5, .int v4)] → W p l e (rmF 3 67) s m args below meth c H locs 0 0 (rwM G A below (some (.int res.1)) [(jo, .inr (4, [.ref js, .ref jp, .ref ja, .ref jk, .int res.2.1, .ref jt, .int uy, .int res.2.2.1, .ref jb, .int uq, .int uz])), (js, .inl (g 0, 388, .inl res.2.2.2.1)), (jp, .inl (g 0, 1552, .inl res.2.2.2.2.1)), (ja, .inl (g 0, 388, .inl res.2.2.2.2.2)), (jk, .inl (g 0, 97, .inl uk)), (jt, .inl (g 0, 150, .inl ut)), (jb, .inl (g 0, 1000, .inl ub))] args s) (F0 m 113 ls []) := by
  obtain ⟨hx, hb, hml, hr, hown, hts, hk⟩ := id X
  intro n
  induction n with
  | zero => intro us v4 hq; exact q_no hq
  | succ n ih =>
    intro us v4 hq H locs hP hD hS ls hl
    rw [F_X4_copy_113] at hq
    refine lv_iload hx hb dX4_copy_113 (lv_at hl 4 rfl) ?_
    refine lv_bipush (v := 97) hx hb dX4_copy_115 (by decide) ?_
    refine lv_icmp_ge (tgt := 150) hx hb dX4_copy_117 (by decide) (fun c5 => ?_) (fun c5 => ?_)
    · have hq := q_if_t hq c5
      refine lv_iconst (v := 0) hx hb dX4_copy_150 (by decide) ?_
      refine lv_istore (lv' := [(5, .int 0), (0, .ref jo), (1, .int v1), (2, .int v2), (3, .int v3)]) hx hb dX4_copy_151 hl (by decide) rfl (fun ls hl => ?_)
      exact w_X4_copy_153 X K hA jo js jp ja jk jt jb uy uq uz uk ut ub un uw up ua v1 v3 _ 2000 us 0 hq _ _ hP hD hS ls (lv_sub hl [1, 2, 4, 0] rfl)
    · have hq := q_if_f hq c5
      refine lv_aload_n hx hb dX4_copy_120 rfl (lv_at hl 0 rfl) ?_
      refine va_get (D := G) (ci := 4) (v := .ref js) (C := RX4) (T := TX4) (N := 11) hx hb hts in_X4_copy_X4 hown K.1 hP 0 rfl rfl 0 (by decide) (hts _ (List.mem_of_getElem? (i := 1) rfl)) (fun _ h9 => h9) rfl dX4_copy_121 ?_
      refine lv_bipush (v := 97) hx hb dX4_copy_124 (by decide) ?_
      refine lv_iload_n hx hb dX4_copy_126 rfl (lv_at hl 1 rfl) ?_
      refine lv_imul hx hb dX4_copy_127 ?_
      refine lv_iload hx hb dX4_copy_128 (lv_at hl 4 rfl) ?_
      refine lv_iadd hx hb dX4_copy_130 ?_
      refine lv_aload_n hx hb dX4_copy_131 rfl (lv_at hl 0 rfl) ?_
      refine va_get (D := G) (ci := 4) (v := .ref js) (C := RX4) (T := TX4) (N := 11) hx hb hts in_X4_copy_X4 hown K.1 hP 0 rfl rfl 0 (by decide) (hts _ (List.mem_of_getElem? (i := 1) rfl)) (fun _ h9 => h9) rfl dX4_copy_132 ?_
      refine lv_bipush (v := 97) hx hb dX4_copy_135 (by decide) ?_
      refine lv_iload_n hx hb dX4_copy_137 rfl (lv_at hl 2 rfl) ?_
      refine lv_imul hx hb dX4_copy_138 ?_
      refine lv_iload hx hb dX4_copy_139 (lv_at hl 4 rfl) ?_
      refine lv_iadd hx hb dX4_copy_141 ?_
      obtain ⟨hh6, hq⟩ := q_gd hq
      refine va_iald hx hb K.1 hP 1 0 rfl rfl (vp_in_iff.mpr hh6) dX4_copy_142 ?_
      obtain ⟨hh7, hq⟩ := q_gd hq
      refine va_iast hx hb K.1 hP hD hS 1 0 rfl rfl (vp_in_iff.mpr hh7) dX4_copy_143 (fun H locs hP hD hS => ?_)
      obtain ⟨f8, ef8⟩ : ∃ y, y = upd us (((97 : Int32) * v1) + v4).toNatClampNeg (us (((97 : Int32) * v2) + v4).toNatClampNeg) := ⟨_, rfl⟩
      have hq := q_let hq ef8
      have hP : va_P G vwCl [(jo, .inr (4, [.ref js, .ref jp, .ref ja, .ref jk, .int un, .ref jt, .int uy, .int uw, .ref jb, .int uq, .int uz])), (js, .inl (g 0, 388, .inl f8)), (jp, .inl (g 0, 1552, .inl up)), (ja, .inl (g 0, 388, .inl ua)), (jk, .inl (g 0, 97, .inl uk)), (jt, .inl (g 0, 150, .inl ut)), (jb, .inl (g 0, 1000, .inl ub))] H := by rw [ef8]; exact hP
      have hD : va_D A [(jo, .inr (4, [.ref js, .ref jp, .ref ja, .ref jk, .int un, .ref jt, .int uy, .int uw, .ref jb, .int uq, .int uz])), (js, .inl (g 0, 388, .inl f8)), (jp, .inl (g 0, 1552, .inl up)), (ja, .inl (g 0, 388, .inl ua)), (jk, .inl (g 0, 97, .inl uk)), (jt, .inl (g 0, 150, .inl ut)), (jb, .inl (g 0, 1000, .inl ub))] := by rw [ef8]; exact hD
      obtain ⟨x9, ex9⟩ : ∃ y : Int32, y = (v4 : Int32) + 1 := ⟨_, rfl⟩
      have hq := q_let hq ex9
      refine lv_iinc (v := x9) (lv' := [(5, .int x9), (0, .ref jo), (1, .int v1), (2, .int v2), (3, .int v3)]) hx hb dX4_copy_144 hl (k := 4) rfl (by rw [ex9]; rfl) (by decide) rfl (fun ls hl => ?_)
      refine lv_goto (tgt := 113) hx hb dX4_copy_147 (by decide) ?_
      exact ih f8 x9 hq _ _ hP hD hS ls (lv_sub hl [1, 2, 3, 4, 0] rfl)
def F_X4_copy_51 (un : Int32) (uw : Int32) (us : Nat → Int32) (up : Nat → Int32) (ua : Nat → Int32) (v1 : Int32) (v2 : Int32) (v3 : Int32) : Nat → Int32 → Int32 → Option (Int32 × Int32 × Int32 × (Nat → Int32) × (Nat → Int32) × (Nat → Int32))
  | 0, _, _ => none
  | n + 1, v4, v5 => (F_X4_many us v2).bind fun r6 => if r6 ≤ v5 then (if v4 = 0 then ((F_X4_fails uw 3).bind fun o15 => some (o15.1, un, o15.2, us, up, ua)) else ((F_X4_hold us ua).bind fun y10 => F_X4_copy_113 un uw up y10 v1 v2 v3 2000 us 0)) else (if v4 = 0 then (vlet ((v5 : Int32) + 1) fun x17 => F_X4_copy_51 un uw us up ua v1 v2 v3 n 0 x17) else ((F_X4_of us v2 v5 1).bind fun r18 => (F_X4_isValue (r18 + v3)).bind fun r20 => if r20 = 0 then (vlet ((v5 : Int32) + 1) fun x23 => F_X4_copy_51 un uw us up ua v1 v2 v3 n 0 x23) else (vlet ((v5 : Int32) + 1) fun x24 => F_X4_copy_51 un uw us up ua v1 v2 v3 n 1 x24)))
set_option maxHeartbeats 4000000 in
set_option maxRecDepth 100000 in
theorem w_X4_copy_51 {p : Program} {l : Launch} {e : Env} {s : State} {m : MethodId} {args : Array Value} {below : List Frame} {meth : Method} {c : Code} {G : va_G} {g : Nat → ClassId} (X : cx p s m args meth c cX4_copy 6 (some .int) RX4 wsX4_copy) (K : amb G g s) {A : Nat → Prop} (hA : ∀ q : Nat, s.heap.size ≤ q → A q) (jo js jp ja jk jt jb : Nat) (uy : Int32) (uq : Int32) (uz : Int32) (uk : Nat → Int32) (ut : Nat → Int32) (ub : Nat → Int32) (un : Int32) (uw : Int32) (us : Nat → Int32) (up : Nat → Int32) (ua : Nat → Int32) (v1 : Int32) (v2 : Int32) (v3 : Int32) (res : Int32 × Int32 × Int32 × (Nat → Int32) × (Nat → Int32) × (Nat → Int32)) : ∀ (n : Nat) (v4 : Int32) (v5 : Int32), F_X4_copy_51 un uw us up ua v1 v2 v3 n v4 v5 = some res → ∀ (H : Heap) (locs : List Loc), va_P G vwCl [(jo, .inr (4, [.ref js, .ref jp, .ref ja, .ref jk, .int un, .ref jt, .int uy, .int uw, .ref jb, .int uq, .int uz])), (js, .inl (g 0, 388, .inl us)), (jp, .inl (g 0, 1552, .inl up)), (ja, .inl (g 0, 388, .inl ua)), (jk, .inl (g 0, 97, .inl uk)), (jt, .inl (g 0, 150, .inl ut)), (jb, .inl (g 0, 1000, .inl ub))] H → va_D A [(jo, .inr (4, [.ref js, .ref jp, .ref ja, .ref jk, .int un, .ref jt, .int uy, .int uw, .ref jb, .int uq, .int uz])), (js, .inl (g 0, 388, .inl us)), (jp, .inl (g 0, 1552, .inl up)), (ja, .inl (g 0, 388, .inl ua)), (jk, .inl (g 0, 97, .inl uk)), (jt, .inl (g 0, 150, .inl ut)), (jb, .inl (g 0, 1000, .inl ub))] → va_S A s.heap H locs → ∀ (ls : Array Slot), lv_has ls 6 [(0, .ref jo), (1, .int v1), (2, .int v2), (3, .int v3), (4, .int v4), (5, .int v5)] → W p l e (rmF 3 67) s m args below meth c H locs 0 0 (rwM G A below (some (.int res.1)) [(jo, .inr (4, [.ref js, .ref jp, .ref ja, .ref jk, .int res.2.1, .ref jt, .int uy, .int res.2.2.1, .ref jb, .int uq, .int uz])), (js, .inl (g 0, 388, .inl res.2.2.2.1)), (jp, .inl (g 0, 1552, .inl res.2.2.2.2.1)), (ja, .inl (g 0, 388, .inl res.2.2.2.2.2)), (jk, .inl (g 0, 97, .inl uk)), (jt, .inl (g 0, 150, .inl ut)), (jb, .inl (g 0, 1000, .inl ub))] args s) (F0 m 51 ls []) := by
  obtain ⟨hx, hb, hml, hr, hown, hts, hk⟩ := id X
  intro n
  induction n with
  | zero => intro v4 v5 hq; exact q_no hq
  | succ n ih =>
    intro v4 v5 hq H locs hP hD hS ls hl
    rw [F_X4_copy_51] at hq
    refine lv_iload hx hb dX4_copy_51 (lv_at hl 5 rfl) ?_
    refine lv_aload_n hx hb dX4_copy_53 rfl (lv_at hl 0 rfl) ?_
    refine lv_iload_n hx hb dX4_copy_54 rfl (lv_at hl 2 rfl) ?_
    obtain ⟨r6, hh7, hq⟩ := q_bd hq
    refine roV (ci := 4) (As := [.int v2]) (rest := [.int v5]) X K (k_X4_many l G g jo js jp ja jk jt jb un uy uw uq uz us up ua uk ut ub v2 _ hh7) hd_X4_many gX4_copy_X4_many hP hl.1 dX4_copy_55 rfl rfl ⟨Nat.le_of_ble_eq_true rfl, Nat.le_of_ble_eq_true rfl⟩ rfl rfl rfl (Nat.le_of_ble_eq_true rfl) ⟨Nat.zero_le _, Nat.zero_le _⟩ ?_
    refine lv_icmp_ge (tgt := 95) hx hb dX4_copy_58 (by decide) (fun c8 => ?_) (fun c8 => ?_)
    · have hq := q_if_t hq c8
      refine lv_iload hx hb dX4_copy_95 (lv_at hl 4 rfl) ?_
      refine lv_if_ne (tgt := 106) hx hb dX4_copy_97 (by decide) (fun c9 => ?_) (fun c9 => ?_)
      · have hq := q_if_f hq c9
        refine lv_aload_n hx hb dX4_copy_106 rfl (lv_at hl 0 rfl) ?_
        obtain ⟨y10, hh11, hq⟩ := q_bd hq
        refine rwV (ci := 4) (wr := []) (As := []) (rest := []) X K (k_X4_hold l G g jo js jp ja jk jt jb un uy uw uq uz us up ua uk ut ub _ hh11) hd_X4_hold gX4_copy_X4_hold hP hD hS hA [0, 1, 2, 3, 4, 5, 6] [] rfl rfl ⟨by decide, by decide, by decide⟩ hl.1 dX4_copy_107 rfl rfl ⟨Nat.le_of_ble_eq_true rfl, Nat.le_of_ble_eq_true rfl⟩ rfl rfl rfl (Nat.le_of_ble_eq_true rfl) ⟨Nat.zero_le _, Nat.zero_le _⟩ (fun H locs hP hD hS => ?_)
        have hP : va_P G vwCl [(jo, .inr (4, [.ref js, .ref jp, .ref ja, .ref jk, .int un, .ref jt, .int uy, .int uw, .ref jb, .int uq, .int uz])), (js, .inl (g 0, 388, .inl us)), (jp, .inl (g 0, 1552, .inl up)), (ja, .inl (g 0, 388, .inl y10)), (jk, .inl (g 0, 97, .inl uk)), (jt, .inl (g 0, 150, .inl ut)), (jb, .inl (g 0, 1000, .inl ub))] H := hP
        have hD : va_D A [(jo, .inr (4, [.ref js, .ref jp, .ref ja, .ref jk, .int un, .ref jt, .int uy, .int uw, .ref jb, .int uq, .int uz])), (js, .inl (g 0, 388, .inl us)), (jp, .inl (g 0, 1552, .inl up)), (ja, .inl (g 0, 388, .inl y10)), (jk, .inl (g 0, 97, .inl uk)), (jt, .inl (g 0, 150, .inl ut)), (jb, .inl (g 0, 1000, .inl ub))] := hD
        refine lv_iconst (v := 0) hx hb dX4_copy_110 (by decide) ?_
        refine lv_istore (lv' := [(5, .int 0), (0, .ref jo), (1, .int v1), (2, .int v2), (3, .int v3), (4, .int v4)]) hx hb dX4_copy_111 hl (by decide) rfl (fun ls hl => ?_)
        exact w_X4_copy_113 X K hA jo js jp ja jk jt jb uy uq uz uk ut ub un uw up y10 v1 v2 v3 _ 2000 us 0 hq _ _ hP hD hS ls (lv_sub hl [1, 2, 3, 4, 0] rfl)
      · have hq := q_if_t hq c9
        refine lv_aload_n hx hb dX4_copy_100 rfl (lv_at hl 0 rfl) ?_
        refine lv_iconst (v := 3) hx hb dX4_copy_101 (by decide) ?_
        obtain ⟨⟨r12, y13⟩, hh14, hq⟩ := q_bd hq
        refine rwV (ci := 4) (wr := []) (As := [.int 3]) (rest := []) X K (k_X4_fails l G g jo js jp ja jk jt jb un uy uw uq uz us up ua uk ut ub 3 _ hh14) hd_X4_fails gX4_copy_X4_fails hP hD hS hA [0, 1, 2, 3, 4, 5, 6] [] rfl rfl ⟨by decide, by decide, by decide⟩ hl.1 dX4_copy_102 rfl rfl ⟨Nat.le_of_ble_eq_true rfl, Nat.le_of_ble_eq_true rfl⟩ rfl rfl rfl (Nat.le_of_ble_eq_true rfl) ⟨Nat.zero_le _, Nat.zero_le _⟩ (fun H locs hP hD hS => ?_)
        have hP : va_P G vwCl [(jo, .inr (4, [.ref js, .ref jp, .ref ja, .ref jk, .int un, .ref jt, .int uy, .int y13, .ref jb, .int uq, .int uz])), (js, .inl (g 0, 388, .inl us)), (jp, .inl (g 0, 1552, .inl up)), (ja, .inl (g 0, 388, .inl ua)), (jk, .inl (g 0, 97, .inl uk)), (jt, .inl (g 0, 150, .inl ut)), (jb, .inl (g 0, 1000, .inl ub))] H := hP
        have hD : va_D A [(jo, .inr (4, [.ref js, .ref jp, .ref ja, .ref jk, .int un, .ref jt, .int uy, .int y13, .ref jb, .int uq, .int uz])), (js, .inl (g 0, 388, .inl us)), (jp, .inl (g 0, 1552, .inl up)), (ja, .inl (g 0, 388, .inl ua)), (jk, .inl (g 0, 97, .inl uk)), (jt, .inl (g 0, 150, .inl ut)), (jb, .inl (g 0, 1000, .inl ub))] := hD
        obtain rfl := q_rt hq
        exact rw_iret hx hb hr hk hP hD hS dX4_copy_105
    · have hq := q_if_f hq c8
      refine lv_iload hx hb dX4_copy_61 (lv_at hl 4 rfl) ?_
      refine lv_if_eq (tgt := 86) hx hb dX4_copy_63 (by decide) (fun c16 => ?_) (fun c16 => ?_)
      · have hq := q_if_t hq c16
        refine lv_iconst (v := 0) hx hb dX4_copy_86 (by decide) ?_
        refine lv_istore (lv' := [(4, .int 0), (0, .ref jo), (1, .int v1), (2, .int v2), (3, .int v3), (5, .int v5)]) hx hb dX4_copy_87 hl (by decide) rfl (fun ls hl => ?_)
        obtain ⟨x17, ex17⟩ : ∃ y : Int32, y = (v5 : Int32) + 1 := ⟨_, rfl⟩
        have hq := q_let hq ex17
        refine lv_iinc (v := x17) (lv' := [(5, .int x17), (4, .int 0), (0, .ref jo), (1, .int v1), (2, .int v2), (3, .int v3)]) hx hb dX4_copy_89 hl (k := 5) rfl (by rw [ex17]; rfl) (by decide) rfl (fun ls hl => ?_)
        refine lv_goto (tgt := 51) hx hb dX4_copy_92 (by decide) ?_
        exact ih 0 x17 hq _ _ hP hD hS ls (lv_sub hl [2, 3, 4, 5, 1, 0] rfl)
      · have hq := q_if_f hq c16
        refine lv_aload_n hx hb dX4_copy_66 rfl (lv_at hl 0 rfl) ?_
        refine lv_iload_n hx hb dX4_copy_67 rfl (lv_at hl 2 rfl) ?_
        refine lv_iload hx hb dX4_copy_68 (lv_at hl 5 rfl) ?_
        refine lv_iconst (v := 1) hx hb dX4_copy_70 (by decide) ?_
        obtain ⟨r18, hh19, hq⟩ := q_bd hq
        refine roV (ci := 4) (As := [.int v2, .int v5, .int 1]) (rest := []) X K (k_X4_of l G g jo js jp ja jk jt jb un uy uw uq uz us up ua uk ut ub v2 v5 1 _ hh19) hd_X4_of gX4_copy_X4_of hP hl.1 dX4_copy_71 rfl rfl ⟨Nat.le_of_ble_eq_true rfl, Nat.le_of_ble_eq_true rfl⟩ rfl rfl rfl (Nat.le_of_ble_eq_true rfl) ⟨Nat.zero_le _, Nat.zero_le _⟩ ?_
        refine lv_iload_n hx hb dX4_copy_74 rfl (lv_at hl 3 rfl) ?_
        refine lv_iadd hx hb dX4_copy_75 ?_
        obtain ⟨r20, hh21, hq⟩ := q_bd hq
        refine roS (As := [.int (r18 + v3)]) (rest := []) X K (k_X4_isValue l G g (r18 + v3) _ hh21) hd_X4_isValue gX4_copy_X4_isValue (hP.sub [] rfl) hl.1 dX4_copy_76 rfl rfl ⟨Nat.le_of_ble_eq_true rfl, Nat.le_of_ble_eq_true rfl⟩ rfl (Nat.le_of_ble_eq_true rfl) ⟨Nat.zero_le _, Nat.zero_le _⟩ ?_
        refine lv_if_eq (tgt := 86) hx hb dX4_copy_79 (by decide) (fun c22 => ?_) (fun c22 => ?_)
        · have hq := q_if_t hq c22
          refine lv_iconst (v := 0) hx hb dX4_copy_86 (by decide) ?_
          refine lv_istore (lv' := [(4, .int 0), (0, .ref jo), (1, .int v1), (2, .int v2), (3, .int v3), (5, .int v5)]) hx hb dX4_copy_87 hl (by decide) rfl (fun ls hl => ?_)
          obtain ⟨x23, ex23⟩ : ∃ y : Int32, y = (v5 : Int32) + 1 := ⟨_, rfl⟩
          have hq := q_let hq ex23
          refine lv_iinc (v := x23) (lv' := [(5, .int x23), (4, .int 0), (0, .ref jo), (1, .int v1), (2, .int v2), (3, .int v3)]) hx hb dX4_copy_89 hl (k := 5) rfl (by rw [ex23]; rfl) (by decide) rfl (fun ls hl => ?_)
          refine lv_goto (tgt := 51) hx hb dX4_copy_92 (by decide) ?_
          exact ih 0 x23 hq _ _ hP hD hS ls (lv_sub hl [2, 3, 4, 5, 1, 0] rfl)
        · have hq := q_if_f hq c22
          refine lv_iconst (v := 1) hx hb dX4_copy_82 (by decide) ?_
          refine lv_goto (tgt := 87) hx hb dX4_copy_83 (by decide) ?_
          refine lv_istore (lv' := [(4, .int 1), (0, .ref jo), (1, .int v1), (2, .int v2), (3, .int v3), (5, .int v5)]) hx hb dX4_copy_87 hl (by decide) rfl (fun ls hl => ?_)
          obtain ⟨x24, ex24⟩ : ∃ y : Int32, y = (v5 : Int32) + 1 := ⟨_, rfl⟩
          have hq := q_let hq ex24
          refine lv_iinc (v := x24) (lv' := [(5, .int x24), (4, .int 1), (0, .ref jo), (1, .int v1), (2, .int v2), (3, .int v3)]) hx hb dX4_copy_89 hl (k := 5) rfl (by rw [ex24]; rfl) (by decide) rfl (fun ls hl => ?_)
          refine lv_goto (tgt := 51) hx hb dX4_copy_92 (by decide) ?_
          exact ih 1 x24 hq _ _ hP hD hS ls (lv_sub hl [2, 3, 4, 5, 1, 0] rfl)
def F_X4_copy_46 (un : Int32) (uw : Int32) (us : Nat → Int32) (up : Nat → Int32) (ua : Nat → Int32) (v1 : Int32) (v2 : Int32) (v3 : Int32) (v4 : Int32) : Option (Int32 × Int32 × Int32 × (Nat → Int32) × (Nat → Int32) × (Nat → Int32)) := F_X4_copy_51 un uw us up ua v1 v2 v3 2000 v4 0
set_option maxHeartbeats 4000000 in
set_option maxRecDepth 100000 in
theorem w_X4_copy_46 {p : Program} {l : Launch} {e : Env} {s : State} {m : MethodId} {args : Array Value} {below : List Frame} {meth : Method} {c : Code} {G : va_G} {g : Nat → ClassId} (X : cx p s m args meth c cX4_copy 6 (some .int) RX4 wsX4_copy) (K : amb G g s) {A : Nat → Prop} (hA : ∀ q : Nat, s.heap.size ≤ q → A q) (jo js jp ja jk jt jb : Nat) (uy : Int32) (uq : Int32) (uz : Int32) (uk : Nat → Int32) (ut : Nat → Int32) (ub : Nat → Int32) (un : Int32) (uw : Int32) (us : Nat → Int32) (up : Nat → Int32) (ua : Nat → Int32) (v1 : Int32) (v2 : Int32) (v3 : Int32) (v4 : Int32) (res : Int32 × Int32 × Int32 × (Nat → Int32) × (Nat → Int32) × (Nat → Int32)) (hq : F_X4_copy_46 un uw us up ua v1 v2 v3 v4 = some res) : ∀ (H : Heap) (locs : List Loc), va_P G vwCl [(jo, .inr (4, [.ref js, .ref jp, .ref ja, .ref jk, .int un, .ref jt, .int uy, .int uw, .ref jb, .int uq, .int uz])), (js, .inl (g 0, 388, .inl us)), (jp, .inl (g 0, 1552, .inl up)), (ja, .inl (g 0, 388, .inl ua)), (jk, .inl (g 0, 97, .inl uk)), (jt, .inl (g 0, 150, .inl ut)), (jb, .inl (g 0, 1000, .inl ub))] H → va_D A [(jo, .inr (4, [.ref js, .ref jp, .ref ja, .ref jk, .int un, .ref jt, .int uy, .int uw, .ref jb, .int uq, .int uz])), (js, .inl (g 0, 388, .inl us)), (jp, .inl (g 0, 1552, .inl up)), (ja, .inl (g 0, 388, .inl ua)), (jk, .inl (g 0, 97, .inl uk)), (jt, .inl (g 0, 150, .inl ut)), (jb, .inl (g 0, 1000, .inl ub))] → va_S A s.heap H locs → ∀ (ls : Array Slot), lv_has ls 6 [(0, .ref jo), (1, .int v1), (2, .int v2), (3, .int v3)] → W p l e (rmF 3 67) s m args below meth c H locs 0 0 (rwM G A below (some (.int res.1)) [(jo, .inr (4, [.ref js, .ref jp, .ref ja, .ref jk, .int res.2.1, .ref jt, .int uy, .int res.2.2.1, .ref jb, .int uq, .int uz])), (js, .inl (g 0, 388, .inl res.2.2.2.1)), (jp, .inl (g 0, 1552, .inl res.2.2.2.2.1)), (ja, .inl (g 0, 388, .inl res.2.2.2.2.2)), (jk, .inl (g 0, 97, .inl uk)), (jt, .inl (g 0, 150, .inl ut)), (jb, .inl (g 0, 1000, .inl ub))] args s) (F0 m 46 ls [.int v4]) := by
  obtain ⟨hx, hb, hml, hr, hown, hts, hk⟩ := id X
  intro H locs hP hD hS ls hl
  unfold F_X4_copy_46 at hq
  refine lv_istore (lv' := [(4, .int v4), (0, .ref jo), (1, .int v1), (2, .int v2), (3, .int v3)]) hx hb dX4_copy_46 hl (by decide) rfl (fun ls hl => ?_)
  refine lv_iconst (v := 0) hx hb dX4_copy_48 (by decide) ?_
  refine lv_istore (lv' := [(5, .int 0), (4, .int v4), (0, .ref jo), (1, .int v1), (2, .int v2), (3, .int v3)]) hx hb dX4_copy_49 hl (by decide) rfl (fun ls hl => ?_)
  exact w_X4_copy_51 X K hA jo js jp ja jk jt jb uy uq uz uk ut ub un uw us up ua v1 v2 v3 _ 2000 v4 0 hq _ _ hP hD hS ls (lv_sub hl [2, 3, 4, 5, 1, 0] rfl)
def F_X4_copy (un : Int32) (uw : Int32) (us : Nat → Int32) (up : Nat → Int32) (ua : Nat → Int32) (p1 : Int32) (p2 : Int32) (p3 : Int32) : Option (Int32 × Int32 × Int32 × (Nat → Int32) × (Nat → Int32) × (Nat → Int32)) := (F_X4_isCurve p1).bind fun r1 => if r1 = 0 then ((F_X4_fails uw 1).bind fun o7 => some (o7.1, un, o7.2, us, up, ua)) else ((F_X4_isCurve p2).bind fun r8 => if r8 = 0 then ((F_X4_fails uw 1).bind fun o24 => some (o24.1, un, o24.2, us, up, ua)) else ((F_X4_isValue p3).bind fun r11 => if r11 = 0 then ((F_X4_fails uw 2).bind fun o20 => some (o20.1, un, o20.2, us, up, ua)) else ((F_X4_hasLock us p1).bind fun r14 => if r14 = 0 then (F_X4_copy_46 un uw us up ua p1 p2 p3 1) else (F_X4_copy_46 un uw us up ua p1 p2 p3 0))))
set_option maxHeartbeats 4000000 in
set_option maxRecDepth 100000 in
theorem k_X4_copy (l : Launch) (G : va_G) (g : Nat → ClassId) (jo js jp ja jk jt jb : Nat) (un : Int32) (uy : Int32) (uw : Int32) (uq : Int32) (uz : Int32) (us : Nat → Int32) (up : Nat → Int32) (ua : Nat → Int32) (uk : Nat → Int32) (ut : Nat → Int32) (ub : Nat → Int32) (p1 : Int32) (p2 : Int32) (p3 : Int32) (res : Int32 × Int32 × Int32 × (Nat → Int32) × (Nat → Int32) × (Nat → Int32)) (hq : F_X4_copy un uw us up ua p1 p2 p3 = some res) : rwC l yX4_copy wsX4_copy (rmF 3 67) G g [.ref jo, .int p1, .int p2, .int p3] [(jo, .inr (4, [.ref js, .ref jp, .ref ja, .ref jk, .int un, .ref jt, .int uy, .int uw, .ref jb, .int uq, .int uz])), (js, .inl (g 0, 388, .inl us)), (jp, .inl (g 0, 1552, .inl up)), (ja, .inl (g 0, 388, .inl ua)), (jk, .inl (g 0, 97, .inl uk)), (jt, .inl (g 0, 150, .inl ut)), (jb, .inl (g 0, 1000, .inl ub))] (some (.int res.1)) [(jo, .inr (4, [.ref js, .ref jp, .ref ja, .ref jk, .int res.2.1, .ref jt, .int uy, .int res.2.2.1, .ref jb, .int uq, .int uz])), (js, .inl (g 0, 388, .inl res.2.2.2.1)), (jp, .inl (g 0, 1552, .inl res.2.2.2.2.1)), (ja, .inl (g 0, 388, .inl res.2.2.2.2.2)), (jk, .inl (g 0, 97, .inl uk)), (jt, .inl (g 0, 150, .inl ut)), (jb, .inl (g 0, 1000, .inl ub))] := by
  refine rwC.of (cc := cX4_copy) (maxL := 6) (ret := (some .int)) (by decide) rfl (Nat.le_of_ble_eq_true rfl) ?_
  intro p e s m below meth c ls A X K hA hP hD hS hl
  obtain ⟨hx, hb, hml, hr, hown, hts, hk⟩ := id X
  have hl : lv_has ls 6 [(0, .ref jo), (1, .int p1), (2, .int p2), (3, .int p3)] := hl
  unfold F_X4_copy at hq
  refine lv_iload_n hx hb dX4_copy_0 rfl (lv_at hl 1 rfl) ?_
  obtain ⟨r1, hh2, hq⟩ := q_bd hq
  refine roS (As := [.int p1]) (rest := []) X K (k_X4_isCurve l G g p1 _ hh2) hd_X4_isCurve gX4_copy_X4_isCurve (hP.sub [] rfl) hl.1 dX4_copy_1 rfl rfl ⟨Nat.le_of_ble_eq_true rfl, Nat.le_of_ble_eq_true rfl⟩ rfl (Nat.le_of_ble_eq_true rfl) ⟨Nat.zero_le _, Nat.zero_le _⟩ ?_
  refine lv_if_eq (tgt := 14) hx hb dX4_copy_4 (by decide) (fun c3 => ?_) (fun c3 => ?_)
  · have hq := q_if_t hq c3
    refine lv_aload_n hx hb dX4_copy_14 rfl (lv_at hl 0 rfl) ?_
    refine lv_iconst (v := 1) hx hb dX4_copy_15 (by decide) ?_
    obtain ⟨⟨r4, y5⟩, hh6, hq⟩ := q_bd hq
    refine rwV (ci := 4) (wr := []) (As := [.int 1]) (rest := []) X K (k_X4_fails l G g jo js jp ja jk jt jb un uy uw uq uz us up ua uk ut ub 1 _ hh6) hd_X4_fails gX4_copy_X4_fails hP hD hS hA [0, 1, 2, 3, 4, 5, 6] [] rfl rfl ⟨by decide, by decide, by decide⟩ hl.1 dX4_copy_16 rfl rfl ⟨Nat.le_of_ble_eq_true rfl, Nat.le_of_ble_eq_true rfl⟩ rfl rfl rfl (Nat.le_of_ble_eq_true rfl) ⟨Nat.zero_le _, Nat.zero_le _⟩ (fun H locs hP hD hS => ?_)
    have hP : va_P G vwCl [(jo, .inr (4, [.ref js, .ref jp, .ref ja, .ref jk, .int un, .ref jt, .int uy, .int y5, .ref jb, .int uq, .int uz])), (js, .inl (g 0, 388, .inl us)), (jp, .inl (g 0, 1552, .inl up)), (ja, .inl (g 0, 388, .inl ua)), (jk, .inl (g 0, 97, .inl uk)), (jt, .inl (g 0, 150, .inl ut)), (jb, .inl (g 0, 1000, .inl ub))] H := hP
    have hD : va_D A [(jo, .inr (4, [.ref js, .ref jp, .ref ja, .ref jk, .int un, .ref jt, .int uy, .int y5, .ref jb, .int uq, .int uz])), (js, .inl (g 0, 388, .inl us)), (jp, .inl (g 0, 1552, .inl up)), (ja, .inl (g 0, 388, .inl ua)), (jk, .inl (g 0, 97, .inl uk)), (jt, .inl (g 0, 150, .inl ut)), (jb, .inl (g 0, 1000, .inl ub))] := hD
    obtain rfl := q_rt hq
    exact rw_iret hx hb hr hk hP hD hS dX4_copy_19
  · have hq := q_if_f hq c3
    refine lv_iload_n hx hb dX4_copy_7 rfl (lv_at hl 2 rfl) ?_
    obtain ⟨r8, hh9, hq⟩ := q_bd hq
    refine roS (As := [.int p2]) (rest := []) X K (k_X4_isCurve l G g p2 _ hh9) hd_X4_isCurve gX4_copy_X4_isCurve (hP.sub [] rfl) hl.1 dX4_copy_8 rfl rfl ⟨Nat.le_of_ble_eq_true rfl, Nat.le_of_ble_eq_true rfl⟩ rfl (Nat.le_of_ble_eq_true rfl) ⟨Nat.zero_le _, Nat.zero_le _⟩ ?_
    refine lv_if_ne (tgt := 20) hx hb dX4_copy_11 (by decide) (fun c10 => ?_) (fun c10 => ?_)
    · have hq := q_if_f hq c10
      refine lv_iload_n hx hb dX4_copy_20 rfl (lv_at hl 3 rfl) ?_
      obtain ⟨r11, hh12, hq⟩ := q_bd hq
      refine roS (As := [.int p3]) (rest := []) X K (k_X4_isValue l G g p3 _ hh12) hd_X4_isValue gX4_copy_X4_isValue (hP.sub [] rfl) hl.1 dX4_copy_21 rfl rfl ⟨Nat.le_of_ble_eq_true rfl, Nat.le_of_ble_eq_true rfl⟩ rfl (Nat.le_of_ble_eq_true rfl) ⟨Nat.zero_le _, Nat.zero_le _⟩ ?_
      refine lv_if_ne (tgt := 33) hx hb dX4_copy_24 (by decide) (fun c13 => ?_) (fun c13 => ?_)
      · have hq := q_if_f hq c13
        refine lv_aload_n hx hb dX4_copy_33 rfl (lv_at hl 0 rfl) ?_
        refine lv_iload_n hx hb dX4_copy_34 rfl (lv_at hl 1 rfl) ?_
        obtain ⟨r14, hh15, hq⟩ := q_bd hq
        refine roV (ci := 4) (As := [.int p1]) (rest := []) X K (k_X4_hasLock l G g jo js jp ja jk jt jb un uy uw uq uz us up ua uk ut ub p1 _ hh15) hd_X4_hasLock gX4_copy_X4_hasLock hP hl.1 dX4_copy_35 rfl rfl ⟨Nat.le_of_ble_eq_true rfl, Nat.le_of_ble_eq_true rfl⟩ rfl rfl rfl (Nat.le_of_ble_eq_true rfl) ⟨Nat.zero_le _, Nat.zero_le _⟩ ?_
        refine lv_if_ne (tgt := 45) hx hb dX4_copy_38 (by decide) (fun c16 => ?_) (fun c16 => ?_)
        · have hq := q_if_f hq c16
          refine lv_iconst (v := 0) hx hb dX4_copy_45 (by decide) ?_
          exact w_X4_copy_46 X K hA jo js jp ja jk jt jb uy uq uz uk ut ub un uw us up ua p1 p2 p3 0 _ hq _ _ hP hD hS ls (lv_sub hl [0, 1, 2, 3] rfl)
        · have hq := q_if_t hq c16
          refine lv_iconst (v := 1) hx hb dX4_copy_41 (by decide) ?_
          refine lv_goto (tgt := 46) hx hb dX4_copy_42 (by decide) ?_
          exact w_X4_copy_46 X K hA jo js jp ja jk jt jb uy uq uz uk ut ub un uw us up ua p1 p2 p3 1 _ hq _ _ hP hD hS ls (lv_sub hl [0, 1, 2, 3] rfl)
      · have hq := q_if_t hq c13
        refine lv_aload_n hx hb dX4_copy_27 rfl (lv_at hl 0 rfl) ?_
        refine lv_iconst (v := 2) hx hb dX4_copy_28 (by decide) ?_
        obtain ⟨⟨r17, y18⟩, hh19, hq⟩ := q_bd hq
        refine rwV (ci := 4) (wr := []) (As := [.int 2]) (rest := []) X K (k_X4_fails l G g jo js jp ja jk jt jb un uy uw uq uz us up ua uk ut ub 2 _ hh19) hd_X4_fails gX4_copy_X4_fails hP hD hS hA [0, 1, 2, 3, 4, 5, 6] [] rfl rfl ⟨by decide, by decide, by decide⟩ hl.1 dX4_copy_29 rfl rfl ⟨Nat.le_of_ble_eq_true rfl, Nat.le_of_ble_eq_true rfl⟩ rfl rfl rfl (Nat.le_of_ble_eq_true rfl) ⟨Nat.zero_le _, Nat.zero_le _⟩ (fun H locs hP hD hS => ?_)
        have hP : va_P G vwCl [(jo, .inr (4, [.ref js, .ref jp, .ref ja, .ref jk, .int un, .ref jt, .int uy, .int y18, .ref jb, .int uq, .int uz])), (js, .inl (g 0, 388, .inl us)), (jp, .inl (g 0, 1552, .inl up)), (ja, .inl (g 0, 388, .inl ua)), (jk, .inl (g 0, 97, .inl uk)), (jt, .inl (g 0, 150, .inl ut)), (jb, .inl (g 0, 1000, .inl ub))] H := hP
        have hD : va_D A [(jo, .inr (4, [.ref js, .ref jp, .ref ja, .ref jk, .int un, .ref jt, .int uy, .int y18, .ref jb, .int uq, .int uz])), (js, .inl (g 0, 388, .inl us)), (jp, .inl (g 0, 1552, .inl up)), (ja, .inl (g 0, 388, .inl ua)), (jk, .inl (g 0, 97, .inl uk)), (jt, .inl (g 0, 150, .inl ut)), (jb, .inl (g 0, 1000, .inl ub))] := hD
        obtain rfl := q_rt hq
        exact rw_iret hx hb hr hk hP hD hS dX4_copy_32
    · have hq := q_if_t hq c10
      refine lv_aload_n hx hb dX4_copy_14 rfl (lv_at hl 0 rfl) ?_
      refine lv_iconst (v := 1) hx hb dX4_copy_15 (by decide) ?_
      obtain ⟨⟨r21, y22⟩, hh23, hq⟩ := q_bd hq
      refine rwV (ci := 4) (wr := []) (As := [.int 1]) (rest := []) X K (k_X4_fails l G g jo js jp ja jk jt jb un uy uw uq uz us up ua uk ut ub 1 _ hh23) hd_X4_fails gX4_copy_X4_fails hP hD hS hA [0, 1, 2, 3, 4, 5, 6] [] rfl rfl ⟨by decide, by decide, by decide⟩ hl.1 dX4_copy_16 rfl rfl ⟨Nat.le_of_ble_eq_true rfl, Nat.le_of_ble_eq_true rfl⟩ rfl rfl rfl (Nat.le_of_ble_eq_true rfl) ⟨Nat.zero_le _, Nat.zero_le _⟩ (fun H locs hP hD hS => ?_)
      have hP : va_P G vwCl [(jo, .inr (4, [.ref js, .ref jp, .ref ja, .ref jk, .int un, .ref jt, .int uy, .int y22, .ref jb, .int uq, .int uz])), (js, .inl (g 0, 388, .inl us)), (jp, .inl (g 0, 1552, .inl up)), (ja, .inl (g 0, 388, .inl ua)), (jk, .inl (g 0, 97, .inl uk)), (jt, .inl (g 0, 150, .inl ut)), (jb, .inl (g 0, 1000, .inl ub))] H := hP
      have hD : va_D A [(jo, .inr (4, [.ref js, .ref jp, .ref ja, .ref jk, .int un, .ref jt, .int uy, .int y22, .ref jb, .int uq, .int uz])), (js, .inl (g 0, 388, .inl us)), (jp, .inl (g 0, 1552, .inl up)), (ja, .inl (g 0, 388, .inl ua)), (jk, .inl (g 0, 97, .inl uk)), (jt, .inl (g 0, 150, .inl ut)), (jb, .inl (g 0, 1000, .inl ub))] := hD
      obtain rfl := q_rt hq
      exact rw_iret hx hb hr hk hP hD hS dX4_copy_19
theorem hd_X4_leftOut : ynm yX4_leftOut 2 := by unfold ynm; decide +kernel
def F_X4_reduce_44 (un : Int32) (uw : Int32) (up : Nat → Int32) (ua : Nat → Int32) (v1 : Int32) (v2 : Int32) : Nat → (Nat → Int32) → (Nat → Int32) → (Nat → Int32) → Int32 → Int32 → Option (Int32 × Int32 × Int32 × (Nat → Int32) × (Nat → Int32) × (Nat → Int32) × (Nat → Int32) × (Nat → Int32))
  | 0, _, _, _, _, _ => none
  | n + 1, us, uk, ub, v3, v4 => if v4 = (-1) then ((F_X4_ends un uw up ua v3).bind fun o11 => some (o11.1, o11.2.1, o11.2.2.1, us, o11.2.2.2, ua, uk, ub)) else ((F_X4_goes us v1 v4).bind fun y12 => vlet ((v3 : Int32) + 1) fun x14 => (F_X4_leftOut y12 uk ub v1 v2).bind fun o20 => F_X4_reduce_44 un uw up ua v1 v2 n o20.2.1 o20.2.2.1 o20.2.2.2 x14 o20.1)
set_option maxHeartbeats 4000000 in
set_option maxRecDepth 100000 in
theorem w_X4_reduce_44 {p : Program} {l : Launch} {e : Env} {s : State} {m : MethodId} {args : Array Value} {below : List Frame} {meth : Method} {c : Code} {G : va_G} {g : Nat → ClassId} (X : cx p s m args meth c cX4_reduce 5 (some .int) RX4 wsX4_reduce) (K : amb G g s) {A : Nat → Prop} (hA : ∀ q : Nat, s.heap.size ≤ q → A q) (jo js jp ja jk jt jb : Nat) (uy : Int32) (uq : Int32) (uz : Int32) (ut : Nat → Int32) (un : Int32) (uw : Int32) (up : Nat → Int32) (ua : Nat → Int32) (v1 : Int32) (v2 : Int32) (res : Int32 × Int32 × Int32 × (Nat → Int32) × (Nat → Int32) × (Nat → Int32) × (Nat → Int32) × (Nat → Int32)) : ∀ (n : Nat) (us : Nat → Int32) (uk : Nat → Int32) (ub : Nat → Int32) (v3 : Int32) (v4 : Int32), F_X4_reduce_44 un uw up ua v1 v2 n us uk ub v3 v4 = some res → ∀ (H : Heap) (locs : List Loc), va_P G vwCl [(jo, .inr (4, [.ref js, .ref jp, .ref ja, .ref jk, .int un, .ref jt, .int uy, .int uw, .ref jb, .int uq, .int uz])), (js, .inl (g 0, 388, .inl us)), (jp, .inl (g 0, 1552, .inl up)), (ja, .inl (g 0, 388, .inl ua)), (jk, .inl (g 0, 97, .inl uk)), (jt, .inl (g 0, 150, .inl ut)), (jb, .inl (g 0, 1000, .inl ub))] H → va_D A [(jo, .inr (4, [.ref js, .ref jp, .ref ja, .ref jk, .int un, .ref jt, .int uy, .int uw, .ref jb, .int uq, .int uz])), (js, .inl (g 0, 388, .inl us)), (jp, .inl (g 0, 1552, .inl up)), (ja, .inl (g 0, 388, .inl ua)), (jk, .inl (g 0, 97, .inl uk)), (jt, .inl (g 0, 150, .inl ut)), (jb, .inl (g 0, 1000, .inl ub))] → va_S A s.heap H locs → ∀ (ls : Array Slot), lv_has ls 5 [(0, .ref jo), (1, .int v1), (2, .int v2), (3, .int v3), (4, .int v4)] → W p l e (rmF 6 162) s m args below meth c H locs 0 0 (rwM G A below (some (.int res.1)) [(jo, .inr (4, [.ref js, .ref jp, .ref ja, .ref jk, .int res.2.1, .ref jt, .int uy, .int res.2.2.1, .ref jb, .int uq, .int uz])), (js, .inl (g 0, 388, .inl res.2.2.2.1)), (jp, .inl (g 0, 1552, .inl res.2.2.2.2.1)), (ja, .inl (g 0, 388, .inl res.2.2.2.2.2.1)), (jk, .inl (g 0, 97, .inl res.2.2.2.2.2.2.1)), (jt, .inl (g 0, 150, .inl ut)), (jb, .inl (g 0, 1000, .inl res.2.2.2.2.2.2.2))] args s) (F0 m 44 ls []) := by
  obtain ⟨hx, hb, hml, hr, hown, hts, hk⟩ := id X
  intro n
  induction n with
  | zero => intro us uk ub v3 v4 hq; exact q_no hq
  | succ n ih =>
    intro us uk ub v3 v4 hq H locs hP hD hS ls hl
    rw [F_X4_reduce_44] at hq
    refine lv_iload hx hb dX4_reduce_44 (lv_at hl 4 rfl) ?_
    refine lv_iconst (v := (-1)) hx hb dX4_reduce_46 (by decide) ?_
    refine lv_icmp_eq (tgt := 71) hx hb dX4_reduce_47 (by decide) (fun c5 => ?_) (fun c5 => ?_)
    · have hq := q_if_t hq c5
      refine lv_aload_n hx hb dX4_reduce_71 rfl (lv_at hl 0 rfl) ?_
      refine lv_iload_n hx hb dX4_reduce_72 rfl (lv_at hl 3 rfl) ?_
      obtain ⟨⟨r6, y7, y8, y9⟩, hh10, hq⟩ := q_bd hq
      refine rwV (ci := 4) (wr := []) (As := [.int v3]) (rest := []) X K (k_X4_ends l G g jo js jp ja jk jt jb un uy uw uq uz us up ua uk ut ub v3 _ hh10) hd_X4_ends gX4_reduce_X4_ends hP hD hS hA [0, 1, 2, 3, 4, 5, 6] [] rfl rfl ⟨by decide, by decide, by decide⟩ hl.1 dX4_reduce_73 rfl rfl ⟨Nat.le_of_ble_eq_true rfl, Nat.le_of_ble_eq_true rfl⟩ rfl rfl rfl (Nat.le_of_ble_eq_true rfl) ⟨Nat.zero_le _, Nat.zero_le _⟩ (fun H locs hP hD hS => ?_)
      have hP : va_P G vwCl [(jo, .inr (4, [.ref js, .ref jp, .ref ja, .ref jk, .int y7, .ref jt, .int uy, .int y8, .ref jb, .int uq, .int uz])), (js, .inl (g 0, 388, .inl us)), (jp, .inl (g 0, 1552, .inl y9)), (ja, .inl (g 0, 388, .inl ua)), (jk, .inl (g 0, 97, .inl uk)), (jt, .inl (g 0, 150, .inl ut)), (jb, .inl (g 0, 1000, .inl ub))] H := hP
      have hD : va_D A [(jo, .inr (4, [.ref js, .ref jp, .ref ja, .ref jk, .int y7, .ref jt, .int uy, .int y8, .ref jb, .int uq, .int uz])), (js, .inl (g 0, 388, .inl us)), (jp, .inl (g 0, 1552, .inl y9)), (ja, .inl (g 0, 388, .inl ua)), (jk, .inl (g 0, 97, .inl uk)), (jt, .inl (g 0, 150, .inl ut)), (jb, .inl (g 0, 1000, .inl ub))] := hD
      obtain rfl := q_rt hq
      exact rw_iret hx hb hr hk hP hD hS dX4_reduce_76
    · have hq := q_if_f hq c5
      refine lv_aload_n hx hb dX4_reduce_50 rfl (lv_at hl 0 rfl) ?_
      refine lv_iload_n hx hb dX4_reduce_51 rfl (lv_at hl 1 rfl) ?_
      refine lv_iload hx hb dX4_reduce_52 (lv_at hl 4 rfl) ?_
      obtain ⟨y12, hh13, hq⟩ := q_bd hq
      refine rwV (ci := 4) (wr := []) (As := [.int v1, .int v4]) (rest := []) X K (k_X4_goes l G g jo js jp ja jk jt jb un uy uw uq uz us up ua uk ut ub v1 v4 _ hh13) hd_X4_goes gX4_reduce_X4_goes hP hD hS hA [0, 1, 2, 3, 4, 5, 6] [] rfl rfl ⟨by decide, by decide, by decide⟩ hl.1 dX4_reduce_54 rfl rfl ⟨Nat.le_of_ble_eq_true rfl, Nat.le_of_ble_eq_true rfl⟩ rfl rfl rfl (Nat.le_of_ble_eq_true rfl) ⟨Nat.zero_le _, Nat.zero_le _⟩ (fun H locs hP hD hS => ?_)
      have hP : va_P G vwCl [(jo, .inr (4, [.ref js, .ref jp, .ref ja, .ref jk, .int un, .ref jt, .int uy, .int uw, .ref jb, .int uq, .int uz])), (js, .inl (g 0, 388, .inl y12)), (jp, .inl (g 0, 1552, .inl up)), (ja, .inl (g 0, 388, .inl ua)), (jk, .inl (g 0, 97, .inl uk)), (jt, .inl (g 0, 150, .inl ut)), (jb, .inl (g 0, 1000, .inl ub))] H := hP
      have hD : va_D A [(jo, .inr (4, [.ref js, .ref jp, .ref ja, .ref jk, .int un, .ref jt, .int uy, .int uw, .ref jb, .int uq, .int uz])), (js, .inl (g 0, 388, .inl y12)), (jp, .inl (g 0, 1552, .inl up)), (ja, .inl (g 0, 388, .inl ua)), (jk, .inl (g 0, 97, .inl uk)), (jt, .inl (g 0, 150, .inl ut)), (jb, .inl (g 0, 1000, .inl ub))] := hD
      obtain ⟨x14, ex14⟩ : ∃ y : Int32, y = (v3 : Int32) + 1 := ⟨_, rfl⟩
      have hq := q_let hq ex14
      refine lv_iinc (v := x14) (lv' := [(3, .int x14), (0, .ref jo), (1, .int v1), (2, .int v2), (4, .int v4)]) hx hb dX4_reduce_57 hl (k := 3) rfl (by rw [ex14]; rfl) (by decide) rfl (fun ls hl => ?_)
      refine lv_aload_n hx hb dX4_reduce_60 rfl (lv_at hl 1 rfl) ?_
      refine lv_iload_n hx hb dX4_reduce_61 rfl (lv_at hl 2 rfl) ?_
      refine lv_iload_n hx hb dX4_reduce_62 rfl (lv_at hl 3 rfl) ?_
      obtain ⟨⟨r15, y16, y17, y18⟩, hh19, hq⟩ := q_bd hq
      refine rwV (ci := 4) (wr := []) (As := [.int v1, .int v2]) (rest := []) X K (k_X4_leftOut l G g jo js jp ja jk jt jb un uy uw uq uz y12 up ua uk ut ub v1 v2 _ hh19) hd_X4_leftOut gX4_reduce_X4_leftOut hP hD hS hA [0, 1, 2, 3, 4, 5, 6] [] rfl rfl ⟨by decide, by decide, by decide⟩ hl.1 dX4_reduce_63 rfl rfl ⟨Nat.le_of_ble_eq_true rfl, Nat.le_of_ble_eq_true rfl⟩ rfl rfl rfl (Nat.le_of_ble_eq_true rfl) ⟨Nat.zero_le _, Nat.zero_le _⟩ (fun H locs hP hD hS => ?_)
      have hP : va_P G vwCl [(jo, .inr (4, [.ref js, .ref jp, .ref ja, .ref jk, .int un, .ref jt, .int uy, .int uw, .ref jb, .int uq, .int uz])), (js, .inl (g 0, 388, .inl y16)), (jp, .inl (g 0, 1552, .inl up)), (ja, .inl (g 0, 388, .inl ua)), (jk, .inl (g 0, 97, .inl y17)), (jt, .inl (g 0, 150, .inl ut)), (jb, .inl (g 0, 1000, .inl y18))] H := hP
      have hD : va_D A [(jo, .inr (4, [.ref js, .ref jp, .ref ja, .ref jk, .int un, .ref jt, .int uy, .int uw, .ref jb, .int uq, .int uz])), (js, .inl (g 0, 388, .inl y16)), (jp, .inl (g 0, 1552, .inl up)), (ja, .inl (g 0, 388, .inl ua)), (jk, .inl (g 0, 97, .inl y17)), (jt, .inl (g 0, 150, .inl ut)), (jb, .inl (g 0, 1000, .inl y18))] := hD
      refine lv_istore (lv' := [(4, .int r15), (3, .int x14), (0, .ref jo), (1, .int v1), (2, .int v2)]) hx hb dX4_reduce_66 hl (by decide) rfl (fun ls hl => ?_)
      refine lv_goto (tgt := 44) hx hb dX4_reduce_68 (by decide) ?_
      exact ih y16 y17 y18 x14 r15 hq _ _ hP hD hS ls (lv_sub hl [2, 3, 4, 1, 0] rfl)
def F_X4_reduce (un : Int32) (uw : Int32) (us : Nat → Int32) (up : Nat → Int32) (ua : Nat → Int32) (uk : Nat → Int32) (ub : Nat → Int32) (p1 : Int32) (p2 : Int32) : Option (Int32 × Int32 × Int32 × (Nat → Int32) × (Nat → Int32) × (Nat → Int32) × (Nat → Int32) × (Nat → Int32)) := (F_X4_isCurve p1).bind fun r1 => if r1 = 0 then ((F_X4_fails uw 1).bind fun o22 => some (o22.1, un, o22.2, us, up, ua, uk, ub)) else ((F_X4_in p2 0 9999).bind fun r4 => if r4 = 0 then ((F_X4_fails uw 2).bind fun o18 => some (o18.1, un, o18.2, us, up, ua, uk, ub)) else ((F_X4_hold us ua).bind fun y7 => (F_X4_leftOut us uk ub p1 p2).bind fun o14 => F_X4_reduce_44 un uw up y7 p1 p2 2000 o14.2.1 o14.2.2.1 o14.2.2.2 0 o14.1))
set_option maxHeartbeats 4000000 in
set_option maxRecDepth 100000 in
theorem k_X4_reduce (l : Launch) (G : va_G) (g : Nat → ClassId) (jo js jp ja jk jt jb : Nat) (un : Int32) (uy : Int32) (uw : Int32) (uq : Int32) (uz : Int32) (us : Nat → Int32) (up : Nat → Int32) (ua : Nat → Int32) (uk : Nat → Int32) (ut : Nat → Int32) (ub : Nat → Int32) (p1 : Int32) (p2 : Int32) (res : Int32 × Int32 × Int32 × (Nat → Int32) × (Nat → Int32) × (Nat → Int32) × (Nat → Int32) × (Nat → Int32)) (hq : F_X4_reduce un uw us up ua uk ub p1 p2 = some res) : rwC l yX4_reduce wsX4_reduce (rmF 6 162) G g [.ref jo, .int p1, .int p2] [(jo, .inr (4, [.ref js, .ref jp, .ref ja, .ref jk, .int un, .ref jt, .int uy, .int uw, .ref jb, .int uq, .int uz])), (js, .inl (g 0, 388, .inl us)), (jp, .inl (g 0, 1552, .inl up)), (ja, .inl (g 0, 388, .inl ua)), (jk, .inl (g 0, 97, .inl uk)), (jt, .inl (g 0, 150, .inl ut)), (jb, .inl (g 0, 1000, .inl ub))] (some (.int res.1)) [(jo, .inr (4, [.ref js, .ref jp, .ref ja, .ref jk, .int res.2.1, .ref jt, .int uy, .int res.2.2.1, .ref jb, .int uq, .int uz])), (js, .inl (g 0, 388, .inl res.2.2.2.1)), (jp, .inl (g 0, 1552, .inl res.2.2.2.2.1)), (ja, .inl (g 0, 388, .inl res.2.2.2.2.2.1)), (jk, .inl (g 0, 97, .inl res.2.2.2.2.2.2.1)), (jt, .inl (g 0, 150, .inl ut)), (jb, .inl (g 0, 1000, .inl res.2.2.2.2.2.2.2))] := by
  refine rwC.of (cc := cX4_reduce) (maxL := 5) (ret := (some .int)) (by decide) rfl (Nat.le_of_ble_eq_true rfl) ?_
  intro p e s m below meth c ls A X K hA hP hD hS hl
  obtain ⟨hx, hb, hml, hr, hown, hts, hk⟩ := id X
  have hl : lv_has ls 5 [(0, .ref jo), (1, .int p1), (2, .int p2)] := hl
  unfold F_X4_reduce at hq
  refine lv_iload_n hx hb dX4_reduce_0 rfl (lv_at hl 1 rfl) ?_
  obtain ⟨r1, hh2, hq⟩ := q_bd hq
  refine roS (As := [.int p1]) (rest := []) X K (k_X4_isCurve l G g p1 _ hh2) hd_X4_isCurve gX4_reduce_X4_isCurve (hP.sub [] rfl) hl.1 dX4_reduce_1 rfl rfl ⟨Nat.le_of_ble_eq_true rfl, Nat.le_of_ble_eq_true rfl⟩ rfl (Nat.le_of_ble_eq_true rfl) ⟨Nat.zero_le _, Nat.zero_le _⟩ ?_
  refine lv_if_ne (tgt := 13) hx hb dX4_reduce_4 (by decide) (fun c3 => ?_) (fun c3 => ?_)
  · have hq := q_if_f hq c3
    refine lv_iload_n hx hb dX4_reduce_13 rfl (lv_at hl 2 rfl) ?_
    refine lv_iconst (v := 0) hx hb dX4_reduce_14 (by decide) ?_
    refine lv_sipush (v := 9999) hx hb dX4_reduce_15 (by decide) ?_
    obtain ⟨r4, hh5, hq⟩ := q_bd hq
    refine roS (As := [.int p2, .int 0, .int 9999]) (rest := []) X K (k_X4_in l G g p2 0 9999 _ hh5) hd_X4_in gX4_reduce_X4_in (hP.sub [] rfl) hl.1 dX4_reduce_18 rfl rfl ⟨Nat.le_of_ble_eq_true rfl, Nat.le_of_ble_eq_true rfl⟩ rfl (Nat.le_of_ble_eq_true rfl) ⟨Nat.zero_le _, Nat.zero_le _⟩ ?_
    refine lv_if_ne (tgt := 30) hx hb dX4_reduce_21 (by decide) (fun c6 => ?_) (fun c6 => ?_)
    · have hq := q_if_f hq c6
      refine lv_aload_n hx hb dX4_reduce_30 rfl (lv_at hl 0 rfl) ?_
      obtain ⟨y7, hh8, hq⟩ := q_bd hq
      refine rwV (ci := 4) (wr := []) (As := []) (rest := []) X K (k_X4_hold l G g jo js jp ja jk jt jb un uy uw uq uz us up ua uk ut ub _ hh8) hd_X4_hold gX4_reduce_X4_hold hP hD hS hA [0, 1, 2, 3, 4, 5, 6] [] rfl rfl ⟨by decide, by decide, by decide⟩ hl.1 dX4_reduce_31 rfl rfl ⟨Nat.le_of_ble_eq_true rfl, Nat.le_of_ble_eq_true rfl⟩ rfl rfl rfl (Nat.le_of_ble_eq_true rfl) ⟨Nat.zero_le _, Nat.zero_le _⟩ (fun H locs hP hD hS => ?_)
      have hP : va_P G vwCl [(jo, .inr (4, [.ref js, .ref jp, .ref ja, .ref jk, .int un, .ref jt, .int uy, .int uw, .ref jb, .int uq, .int uz])), (js, .inl (g 0, 388, .inl us)), (jp, .inl (g 0, 1552, .inl up)), (ja, .inl (g 0, 388, .inl y7)), (jk, .inl (g 0, 97, .inl uk)), (jt, .inl (g 0, 150, .inl ut)), (jb, .inl (g 0, 1000, .inl ub))] H := hP
      have hD : va_D A [(jo, .inr (4, [.ref js, .ref jp, .ref ja, .ref jk, .int un, .ref jt, .int uy, .int uw, .ref jb, .int uq, .int uz])), (js, .inl (g 0, 388, .inl us)), (jp, .inl (g 0, 1552, .inl up)), (ja, .inl (g 0, 388, .inl y7)), (jk, .inl (g 0, 97, .inl uk)), (jt, .inl (g 0, 150, .inl ut)), (jb, .inl (g 0, 1000, .inl ub))] := hD
      refine lv_iconst (v := 0) hx hb dX4_reduce_34 (by decide) ?_
      refine lv_istore_n (lv' := [(3, .int 0), (0, .ref jo), (1, .int p1), (2, .int p2)]) hx hb dX4_reduce_35 rfl hl (by decide) rfl (fun ls hl => ?_)
      refine lv_aload_n hx hb dX4_reduce_36 rfl (lv_at hl 1 rfl) ?_
      refine lv_iload_n hx hb dX4_reduce_37 rfl (lv_at hl 2 rfl) ?_
      refine lv_iload_n hx hb dX4_reduce_38 rfl (lv_at hl 3 rfl) ?_
      obtain ⟨⟨r9, y10, y11, y12⟩, hh13, hq⟩ := q_bd hq
      refine rwV (ci := 4) (wr := []) (As := [.int p1, .int p2]) (rest := []) X K (k_X4_leftOut l G g jo js jp ja jk jt jb un uy uw uq uz us up y7 uk ut ub p1 p2 _ hh13) hd_X4_leftOut gX4_reduce_X4_leftOut hP hD hS hA [0, 1, 2, 3, 4, 5, 6] [] rfl rfl ⟨by decide, by decide, by decide⟩ hl.1 dX4_reduce_39 rfl rfl ⟨Nat.le_of_ble_eq_true rfl, Nat.le_of_ble_eq_true rfl⟩ rfl rfl rfl (Nat.le_of_ble_eq_true rfl) ⟨Nat.zero_le _, Nat.zero_le _⟩ (fun H locs hP hD hS => ?_)
      have hP : va_P G vwCl [(jo, .inr (4, [.ref js, .ref jp, .ref ja, .ref jk, .int un, .ref jt, .int uy, .int uw, .ref jb, .int uq, .int uz])), (js, .inl (g 0, 388, .inl y10)), (jp, .inl (g 0, 1552, .inl up)), (ja, .inl (g 0, 388, .inl y7)), (jk, .inl (g 0, 97, .inl y11)), (jt, .inl (g 0, 150, .inl ut)), (jb, .inl (g 0, 1000, .inl y12))] H := hP
      have hD : va_D A [(jo, .inr (4, [.ref js, .ref jp, .ref ja, .ref jk, .int un, .ref jt, .int uy, .int uw, .ref jb, .int uq, .int uz])), (js, .inl (g 0, 388, .inl y10)), (jp, .inl (g 0, 1552, .inl up)), (ja, .inl (g 0, 388, .inl y7)), (jk, .inl (g 0, 97, .inl y11)), (jt, .inl (g 0, 150, .inl ut)), (jb, .inl (g 0, 1000, .inl y12))] := hD
      refine lv_istore (lv' := [(4, .int r9), (3, .int 0), (0, .ref jo), (1, .int p1), (2, .int p2)]) hx hb dX4_reduce_42 hl (by decide) rfl (fun ls hl => ?_)
      exact w_X4_reduce_44 X K hA jo js jp ja jk jt jb uy uq uz ut un uw up y7 p1 p2 _ 2000 y10 y11 y12 0 r9 hq _ _ hP hD hS ls (lv_sub hl [2, 3, 4, 1, 0] rfl)
    · have hq := q_if_t hq c6
      refine lv_aload_n hx hb dX4_reduce_24 rfl (lv_at hl 0 rfl) ?_
      refine lv_iconst (v := 2) hx hb dX4_reduce_25 (by decide) ?_
      obtain ⟨⟨r15, y16⟩, hh17, hq⟩ := q_bd hq
      refine rwV (ci := 4) (wr := []) (As := [.int 2]) (rest := []) X K (k_X4_fails l G g jo js jp ja jk jt jb un uy uw uq uz us up ua uk ut ub 2 _ hh17) hd_X4_fails gX4_reduce_X4_fails hP hD hS hA [0, 1, 2, 3, 4, 5, 6] [] rfl rfl ⟨by decide, by decide, by decide⟩ hl.1 dX4_reduce_26 rfl rfl ⟨Nat.le_of_ble_eq_true rfl, Nat.le_of_ble_eq_true rfl⟩ rfl rfl rfl (Nat.le_of_ble_eq_true rfl) ⟨Nat.zero_le _, Nat.zero_le _⟩ (fun H locs hP hD hS => ?_)
      have hP : va_P G vwCl [(jo, .inr (4, [.ref js, .ref jp, .ref ja, .ref jk, .int un, .ref jt, .int uy, .int y16, .ref jb, .int uq, .int uz])), (js, .inl (g 0, 388, .inl us)), (jp, .inl (g 0, 1552, .inl up)), (ja, .inl (g 0, 388, .inl ua)), (jk, .inl (g 0, 97, .inl uk)), (jt, .inl (g 0, 150, .inl ut)), (jb, .inl (g 0, 1000, .inl ub))] H := hP
      have hD : va_D A [(jo, .inr (4, [.ref js, .ref jp, .ref ja, .ref jk, .int un, .ref jt, .int uy, .int y16, .ref jb, .int uq, .int uz])), (js, .inl (g 0, 388, .inl us)), (jp, .inl (g 0, 1552, .inl up)), (ja, .inl (g 0, 388, .inl ua)), (jk, .inl (g 0, 97, .inl uk)), (jt, .inl (g 0, 150, .inl ut)), (jb, .inl (g 0, 1000, .inl ub))] := hD
      obtain rfl := q_rt hq
      exact rw_iret hx hb hr hk hP hD hS dX4_reduce_29
  · have hq := q_if_t hq c3
    refine lv_aload_n hx hb dX4_reduce_7 rfl (lv_at hl 0 rfl) ?_
    refine lv_iconst (v := 1) hx hb dX4_reduce_8 (by decide) ?_
    obtain ⟨⟨r19, y20⟩, hh21, hq⟩ := q_bd hq
    refine rwV (ci := 4) (wr := []) (As := [.int 1]) (rest := []) X K (k_X4_fails l G g jo js jp ja jk jt jb un uy uw uq uz us up ua uk ut ub 1 _ hh21) hd_X4_fails gX4_reduce_X4_fails hP hD hS hA [0, 1, 2, 3, 4, 5, 6] [] rfl rfl ⟨by decide, by decide, by decide⟩ hl.1 dX4_reduce_9 rfl rfl ⟨Nat.le_of_ble_eq_true rfl, Nat.le_of_ble_eq_true rfl⟩ rfl rfl rfl (Nat.le_of_ble_eq_true rfl) ⟨Nat.zero_le _, Nat.zero_le _⟩ (fun H locs hP hD hS => ?_)
    have hP : va_P G vwCl [(jo, .inr (4, [.ref js, .ref jp, .ref ja, .ref jk, .int un, .ref jt, .int uy, .int y20, .ref jb, .int uq, .int uz])), (js, .inl (g 0, 388, .inl us)), (jp, .inl (g 0, 1552, .inl up)), (ja, .inl (g 0, 388, .inl ua)), (jk, .inl (g 0, 97, .inl uk)), (jt, .inl (g 0, 150, .inl ut)), (jb, .inl (g 0, 1000, .inl ub))] H := hP
    have hD : va_D A [(jo, .inr (4, [.ref js, .ref jp, .ref ja, .ref jk, .int un, .ref jt, .int uy, .int y20, .ref jb, .int uq, .int uz])), (js, .inl (g 0, 388, .inl us)), (jp, .inl (g 0, 1552, .inl up)), (ja, .inl (g 0, 388, .inl ua)), (jk, .inl (g 0, 97, .inl uk)), (jt, .inl (g 0, 150, .inl ut)), (jb, .inl (g 0, 1000, .inl ub))] := hD
    obtain rfl := q_rt hq
    exact rw_iret hx hb hr hk hP hD hS dX4_reduce_12
theorem hd_X4_keyOf : ynm yX4_keyOf 3 := by unfold ynm; decide +kernel
def F_X4_key (uw : Int32) (us : Nat → Int32) (p1 : Int32) (p2 : Int32) (p3 : Int32) : Option (Int32 × Int32) := (F_X4_isCurve p1).bind fun r1 => if r1 = 0 then ((F_X4_fails uw 1).bind fun o7 => some (o7.1, o7.2)) else ((F_X4_many us p1).bind fun r8 => (F_X4_in p2 (-1) (r8 - 1)).bind fun r10 => if r10 = 0 then ((F_X4_fails uw 1).bind fun o36 => some (o36.1, o36.2)) else ((F_X4_in p3 0 6).bind fun r13 => if r13 = 0 then ((F_X4_fails uw 2).bind fun o32 => some (o32.1, o32.2)) else (if p2 = (-1) then ((F_X4_many us p1).bind fun r23 => (F_X4_tells uw r23).bind fun o28 => some (o28.1, o28.2)) else ((F_X4_keyOf us p1 p2 p3).bind fun r17 => (F_X4_tells uw r17).bind fun o22 => some (o22.1, o22.2)))))
set_option maxHeartbeats 4000000 in
set_option maxRecDepth 100000 in
theorem k_X4_key (l : Launch) (G : va_G) (g : Nat → ClassId) (jo js jp ja jk jt jb : Nat) (un : Int32) (uy : Int32) (uw : Int32) (uq : Int32) (uz : Int32) (us : Nat → Int32) (up : Nat → Int32) (ua : Nat → Int32) (uk : Nat → Int32) (ut : Nat → Int32) (ub : Nat → Int32) (p1 : Int32) (p2 : Int32) (p3 : Int32) (res : Int32 × Int32) (hq : F_X4_key uw us p1 p2 p3 = some res) : rwC l yX4_key wsX4_key (rmF 4 94) G g [.ref jo, .int p1, .int p2, .int p3] [(jo, .inr (4, [.ref js, .ref jp, .ref ja, .ref jk, .int un, .ref jt, .int uy, .int uw, .ref jb, .int uq, .int uz])), (js, .inl (g 0, 388, .inl us)), (jp, .inl (g 0, 1552, .inl up)), (ja, .inl (g 0, 388, .inl ua)), (jk, .inl (g 0, 97, .inl uk)), (jt, .inl (g 0, 150, .inl ut)), (jb, .inl (g 0, 1000, .inl ub))] (some (.int res.1)) [(jo, .inr (4, [.ref js, .ref jp, .ref ja, .ref jk, .int un, .ref jt, .int uy, .int res.2, .ref jb, .int uq, .int uz])), (js, .inl (g 0, 388, .inl us)), (jp, .inl (g 0, 1552, .inl up)), (ja, .inl (g 0, 388, .inl ua)), (jk, .inl (g 0, 97, .inl uk)), (jt, .inl (g 0, 150, .inl ut)), (jb, .inl (g 0, 1000, .inl ub))] := by
  refine rwC.of (cc := cX4_key) (maxL := 4) (ret := (some .int)) (by decide) rfl (Nat.le_of_ble_eq_true rfl) ?_
  intro p e s m below meth c ls A X K hA hP hD hS hl
  obtain ⟨hx, hb, hml, hr, hown, hts, hk⟩ := id X
  have hl : lv_has ls 4 [(0, .ref jo), (1, .int p1), (2, .int p2), (3, .int p3)] := hl
  unfold F_X4_key at hq
  refine lv_iload_n hx hb dX4_key_0 rfl (lv_at hl 1 rfl) ?_
  obtain ⟨r1, hh2, hq⟩ := q_bd hq
  refine roS (As := [.int p1]) (rest := []) X K (k_X4_isCurve l G g p1 _ hh2) hd_X4_isCurve gX4_key_X4_isCurve (hP.sub [] rfl) hl.1 dX4_key_1 rfl rfl ⟨Nat.le_of_ble_eq_true rfl, Nat.le_of_ble_eq_true rfl⟩ rfl (Nat.le_of_ble_eq_true rfl) ⟨Nat.zero_le _, Nat.zero_le _⟩ ?_
  refine lv_if_eq (tgt := 22) hx hb dX4_key_4 (by decide) (fun c3 => ?_) (fun c3 => ?_)
  · have hq := q_if_t hq c3
    refine lv_aload_n hx hb dX4_key_22 rfl (lv_at hl 0 rfl) ?_
    refine lv_iconst (v := 1) hx hb dX4_key_23 (by decide) ?_
    obtain ⟨⟨r4, y5⟩, hh6, hq⟩ := q_bd hq
    refine rwV (ci := 4) (wr := []) (As := [.int 1]) (rest := []) X K (k_X4_fails l G g jo js jp ja jk jt jb un uy uw uq uz us up ua uk ut ub 1 _ hh6) hd_X4_fails gX4_key_X4_fails hP hD hS hA [0, 1, 2, 3, 4, 5, 6] [] rfl rfl ⟨by decide, by decide, by decide⟩ hl.1 dX4_key_24 rfl rfl ⟨Nat.le_of_ble_eq_true rfl, Nat.le_of_ble_eq_true rfl⟩ rfl rfl rfl (Nat.le_of_ble_eq_true rfl) ⟨Nat.zero_le _, Nat.zero_le _⟩ (fun H locs hP hD hS => ?_)
    have hP : va_P G vwCl [(jo, .inr (4, [.ref js, .ref jp, .ref ja, .ref jk, .int un, .ref jt, .int uy, .int y5, .ref jb, .int uq, .int uz])), (js, .inl (g 0, 388, .inl us)), (jp, .inl (g 0, 1552, .inl up)), (ja, .inl (g 0, 388, .inl ua)), (jk, .inl (g 0, 97, .inl uk)), (jt, .inl (g 0, 150, .inl ut)), (jb, .inl (g 0, 1000, .inl ub))] H := hP
    have hD : va_D A [(jo, .inr (4, [.ref js, .ref jp, .ref ja, .ref jk, .int un, .ref jt, .int uy, .int y5, .ref jb, .int uq, .int uz])), (js, .inl (g 0, 388, .inl us)), (jp, .inl (g 0, 1552, .inl up)), (ja, .inl (g 0, 388, .inl ua)), (jk, .inl (g 0, 97, .inl uk)), (jt, .inl (g 0, 150, .inl ut)), (jb, .inl (g 0, 1000, .inl ub))] := hD
    obtain rfl := q_rt hq
    exact rw_iret hx hb hr hk hP hD hS dX4_key_27
  · have hq := q_if_f hq c3
    refine lv_iload_n hx hb dX4_key_7 rfl (lv_at hl 2 rfl) ?_
    refine lv_iconst (v := (-1)) hx hb dX4_key_8 (by decide) ?_
    refine lv_aload_n hx hb dX4_key_9 rfl (lv_at hl 0 rfl) ?_
    refine lv_iload_n hx hb dX4_key_10 rfl (lv_at hl 1 rfl) ?_
    obtain ⟨r8, hh9, hq⟩ := q_bd hq
    refine roV (ci := 4) (As := [.int p1]) (rest := [.int (-1), .int p2]) X K (k_X4_many l G g jo js jp ja jk jt jb un uy uw uq uz us up ua uk ut ub p1 _ hh9) hd_X4_many gX4_key_X4_many hP hl.1 dX4_key_11 rfl rfl ⟨Nat.le_of_ble_eq_true rfl, Nat.le_of_ble_eq_true rfl⟩ rfl rfl rfl (Nat.le_of_ble_eq_true rfl) ⟨Nat.zero_le _, Nat.zero_le _⟩ ?_
    refine lv_iconst (v := 1) hx hb dX4_key_14 (by decide) ?_
    refine lv_isub hx hb dX4_key_15 ?_
    obtain ⟨r10, hh11, hq⟩ := q_bd hq
    refine roS (As := [.int p2, .int (-1), .int (r8 - 1)]) (rest := []) X K (k_X4_in l G g p2 (-1) (r8 - 1) _ hh11) hd_X4_in gX4_key_X4_in (hP.sub [] rfl) hl.1 dX4_key_16 rfl rfl ⟨Nat.le_of_ble_eq_true rfl, Nat.le_of_ble_eq_true rfl⟩ rfl (Nat.le_of_ble_eq_true rfl) ⟨Nat.zero_le _, Nat.zero_le _⟩ ?_
    refine lv_if_ne (tgt := 28) hx hb dX4_key_19 (by decide) (fun c12 => ?_) (fun c12 => ?_)
    · have hq := q_if_f hq c12
      refine lv_iload_n hx hb dX4_key_28 rfl (lv_at hl 3 rfl) ?_
      refine lv_iconst (v := 0) hx hb dX4_key_29 (by decide) ?_
      refine lv_bipush (v := 6) hx hb dX4_key_30 (by decide) ?_
      obtain ⟨r13, hh14, hq⟩ := q_bd hq
      refine roS (As := [.int p3, .int 0, .int 6]) (rest := []) X K (k_X4_in l G g p3 0 6 _ hh14) hd_X4_in gX4_key_X4_in (hP.sub [] rfl) hl.1 dX4_key_32 rfl rfl ⟨Nat.le_of_ble_eq_true rfl, Nat.le_of_ble_eq_true rfl⟩ rfl (Nat.le_of_ble_eq_true rfl) ⟨Nat.zero_le _, Nat.zero_le _⟩ ?_
      refine lv_if_ne (tgt := 44) hx hb dX4_key_35 (by decide) (fun c15 => ?_) (fun c15 => ?_)
      · have hq := q_if_f hq c15
        refine lv_aload_n hx hb dX4_key_44 rfl (lv_at hl 0 rfl) ?_
        refine lv_iload_n hx hb dX4_key_45 rfl (lv_at hl 2 rfl) ?_
        refine lv_iconst (v := (-1)) hx hb dX4_key_46 (by decide) ?_
        refine lv_icmp_ne (tgt := 58) hx hb dX4_key_47 (by decide) (fun c16 => ?_) (fun c16 => ?_)
        · have hq := q_if_f hq c16
          refine lv_aload_n hx hb dX4_key_58 rfl (lv_at hl 0 rfl) ?_
          refine lv_iload_n hx hb dX4_key_59 rfl (lv_at hl 1 rfl) ?_
          refine lv_iload_n hx hb dX4_key_60 rfl (lv_at hl 2 rfl) ?_
          refine lv_iload_n hx hb dX4_key_61 rfl (lv_at hl 3 rfl) ?_
          obtain ⟨r17, hh18, hq⟩ := q_bd hq
          refine roV (ci := 4) (As := [.int p1, .int p2, .int p3]) (rest := [.ref jo]) X K (k_X4_keyOf l G g jo js jp ja jk jt jb un uy uw uq uz us up ua uk ut ub p1 p2 p3 _ hh18) hd_X4_keyOf gX4_key_X4_keyOf hP hl.1 dX4_key_62 rfl rfl ⟨Nat.le_of_ble_eq_true rfl, Nat.le_of_ble_eq_true rfl⟩ rfl rfl rfl (Nat.le_of_ble_eq_true rfl) ⟨Nat.zero_le _, Nat.zero_le _⟩ ?_
          obtain ⟨⟨r19, y20⟩, hh21, hq⟩ := q_bd hq
          refine rwV (ci := 4) (wr := []) (As := [.int r17]) (rest := []) X K (k_X4_tells l G g jo js jp ja jk jt jb un uy uw uq uz us up ua uk ut ub r17 _ hh21) hd_X4_tells gX4_key_X4_tells hP hD hS hA [0, 1, 2, 3, 4, 5, 6] [] rfl rfl ⟨by decide, by decide, by decide⟩ hl.1 dX4_key_65 rfl rfl ⟨Nat.le_of_ble_eq_true rfl, Nat.le_of_ble_eq_true rfl⟩ rfl rfl rfl (Nat.le_of_ble_eq_true rfl) ⟨Nat.zero_le _, Nat.zero_le _⟩ (fun H locs hP hD hS => ?_)
          have hP : va_P G vwCl [(jo, .inr (4, [.ref js, .ref jp, .ref ja, .ref jk, .int un, .ref jt, .int uy, .int y20, .ref jb, .int uq, .int uz])), (js, .inl (g 0, 388, .inl us)), (jp, .inl (g 0, 1552, .inl up)), (ja, .inl (g 0, 388, .inl ua)), (jk, .inl (g 0, 97, .inl uk)), (jt, .inl (g 0, 150, .inl ut)), (jb, .inl (g 0, 1000, .inl ub))] H := hP
          have hD : va_D A [(jo, .inr (4, [.ref js, .ref jp, .ref ja, .ref jk, .int un, .ref jt, .int uy, .int y20, .ref jb, .int uq, .int uz])), (js, .inl (g 0, 388, .inl us)), (jp, .inl (g 0, 1552, .inl up)), (ja, .inl (g 0, 388, .inl ua)), (jk, .inl (g 0, 97, .inl uk)), (jt, .inl (g 0, 150, .inl ut)), (jb, .inl (g 0, 1000, .inl ub))] := hD
          obtain rfl := q_rt hq
          exact rw_iret hx hb hr hk hP hD hS dX4_key_68
        · have hq := q_if_t hq c16
          refine lv_aload_n hx hb dX4_key_50 rfl (lv_at hl 0 rfl) ?_
          refine lv_iload_n hx hb dX4_key_51 rfl (lv_at hl 1 rfl) ?_
          obtain ⟨r23, hh24, hq⟩ := q_bd hq
          refine roV (ci := 4) (As := [.int p1]) (rest := [.ref jo]) X K (k_X4_many l G g jo js jp ja jk jt jb un uy uw uq uz us up ua uk ut ub p1 _ hh24) hd_X4_many gX4_key_X4_many hP hl.1 dX4_key_52 rfl rfl ⟨Nat.le_of_ble_eq_true rfl, Nat.le_of_ble_eq_true rfl⟩ rfl rfl rfl (Nat.le_of_ble_eq_true rfl) ⟨Nat.zero_le _, Nat.zero_le _⟩ ?_
          refine lv_goto (tgt := 65) hx hb dX4_key_55 (by decide) ?_
          obtain ⟨⟨r25, y26⟩, hh27, hq⟩ := q_bd hq
          refine rwV (ci := 4) (wr := []) (As := [.int r23]) (rest := []) X K (k_X4_tells l G g jo js jp ja jk jt jb un uy uw uq uz us up ua uk ut ub r23 _ hh27) hd_X4_tells gX4_key_X4_tells hP hD hS hA [0, 1, 2, 3, 4, 5, 6] [] rfl rfl ⟨by decide, by decide, by decide⟩ hl.1 dX4_key_65 rfl rfl ⟨Nat.le_of_ble_eq_true rfl, Nat.le_of_ble_eq_true rfl⟩ rfl rfl rfl (Nat.le_of_ble_eq_true rfl) ⟨Nat.zero_le _, Nat.zero_le _⟩ (fun H locs hP hD hS => ?_)
          have hP : va_P G vwCl [(jo, .inr (4, [.ref js, .ref jp, .ref ja, .ref jk, .int un, .ref jt, .int uy, .int y26, .ref jb, .int uq, .int uz])), (js, .inl (g 0, 388, .inl us)), (jp, .inl (g 0, 1552, .inl up)), (ja, .inl (g 0, 388, .inl ua)), (jk, .inl (g 0, 97, .inl uk)), (jt, .inl (g 0, 150, .inl ut)), (jb, .inl (g 0, 1000, .inl ub))] H := hP
          have hD : va_D A [(jo, .inr (4, [.ref js, .ref jp, .ref ja, .ref jk, .int un, .ref jt, .int uy, .int y26, .ref jb, .int uq, .int uz])), (js, .inl (g 0, 388, .inl us)), (jp, .inl (g 0, 1552, .inl up)), (ja, .inl (g 0, 388, .inl ua)), (jk, .inl (g 0, 97, .inl uk)), (jt, .inl (g 0, 150, .inl ut)), (jb, .inl (g 0, 1000, .inl ub))] := hD
          obtain rfl := q_rt hq
          exact rw_iret hx hb hr hk hP hD hS dX4_key_68
      · have hq := q_if_t hq c15
        refine lv_aload_n hx hb dX4_key_38 rfl (lv_at hl 0 rfl) ?_
        refine lv_iconst (v := 2) hx hb dX4_key_39 (by decide) ?_
        obtain ⟨⟨r29, y30⟩, hh31, hq⟩ := q_bd hq
        refine rwV (ci := 4) (wr := []) (As := [.int 2]) (rest := []) X K (k_X4_fails l G g jo js jp ja jk jt jb un uy uw uq uz us up ua uk ut ub 2 _ hh31) hd_X4_fails gX4_key_X4_fails hP hD hS hA [0, 1, 2, 3, 4, 5, 6] [] rfl rfl ⟨by decide, by decide, by decide⟩ hl.1 dX4_key_40 rfl rfl ⟨Nat.le_of_ble_eq_true rfl, Nat.le_of_ble_eq_true rfl⟩ rfl rfl rfl (Nat.le_of_ble_eq_true rfl) ⟨Nat.zero_le _, Nat.zero_le _⟩ (fun H locs hP hD hS => ?_)
        have hP : va_P G vwCl [(jo, .inr (4, [.ref js, .ref jp, .ref ja, .ref jk, .int un, .ref jt, .int uy, .int y30, .ref jb, .int uq, .int uz])), (js, .inl (g 0, 388, .inl us)), (jp, .inl (g 0, 1552, .inl up)), (ja, .inl (g 0, 388, .inl ua)), (jk, .inl (g 0, 97, .inl uk)), (jt, .inl (g 0, 150, .inl ut)), (jb, .inl (g 0, 1000, .inl ub))] H := hP
        have hD : va_D A [(jo, .inr (4, [.ref js, .ref jp, .ref ja, .ref jk, .int un, .ref jt, .int uy, .int y30, .ref jb, .int uq, .int uz])), (js, .inl (g 0, 388, .inl us)), (jp, .inl (g 0, 1552, .inl up)), (ja, .inl (g 0, 388, .inl ua)), (jk, .inl (g 0, 97, .inl uk)), (jt, .inl (g 0, 150, .inl ut)), (jb, .inl (g 0, 1000, .inl ub))] := hD
        obtain rfl := q_rt hq
        exact rw_iret hx hb hr hk hP hD hS dX4_key_43
    · have hq := q_if_t hq c12
      refine lv_aload_n hx hb dX4_key_22 rfl (lv_at hl 0 rfl) ?_
      refine lv_iconst (v := 1) hx hb dX4_key_23 (by decide) ?_
      obtain ⟨⟨r33, y34⟩, hh35, hq⟩ := q_bd hq
      refine rwV (ci := 4) (wr := []) (As := [.int 1]) (rest := []) X K (k_X4_fails l G g jo js jp ja jk jt jb un uy uw uq uz us up ua uk ut ub 1 _ hh35) hd_X4_fails gX4_key_X4_fails hP hD hS hA [0, 1, 2, 3, 4, 5, 6] [] rfl rfl ⟨by decide, by decide, by decide⟩ hl.1 dX4_key_24 rfl rfl ⟨Nat.le_of_ble_eq_true rfl, Nat.le_of_ble_eq_true rfl⟩ rfl rfl rfl (Nat.le_of_ble_eq_true rfl) ⟨Nat.zero_le _, Nat.zero_le _⟩ (fun H locs hP hD hS => ?_)
      have hP : va_P G vwCl [(jo, .inr (4, [.ref js, .ref jp, .ref ja, .ref jk, .int un, .ref jt, .int uy, .int y34, .ref jb, .int uq, .int uz])), (js, .inl (g 0, 388, .inl us)), (jp, .inl (g 0, 1552, .inl up)), (ja, .inl (g 0, 388, .inl ua)), (jk, .inl (g 0, 97, .inl uk)), (jt, .inl (g 0, 150, .inl ut)), (jb, .inl (g 0, 1000, .inl ub))] H := hP
      have hD : va_D A [(jo, .inr (4, [.ref js, .ref jp, .ref ja, .ref jk, .int un, .ref jt, .int uy, .int y34, .ref jb, .int uq, .int uz])), (js, .inl (g 0, 388, .inl us)), (jp, .inl (g 0, 1552, .inl up)), (ja, .inl (g 0, 388, .inl ua)), (jk, .inl (g 0, 97, .inl uk)), (jt, .inl (g 0, 150, .inl ut)), (jb, .inl (g 0, 1000, .inl ub))] := hD
      obtain rfl := q_rt hq
      exact rw_iret hx hb hr hk hP hD hS dX4_key_27
def F_X4_value (uw : Int32) (us : Nat → Int32) (p1 : Int32) (p2 : Int32) : Option (Int32 × Int32) := (F_X4_isCurve p1).bind fun r1 => if r1 = 0 then ((F_X4_fails uw 1).bind fun o20 => some (o20.1, o20.2)) else ((F_X4_isFrame p2).bind fun r4 => if r4 = 0 then ((F_X4_fails uw 2).bind fun o10 => some (o10.1, o10.2)) else ((F_X4_valueAt us p1 p2).bind fun r11 => (F_X4_tells uw r11).bind fun o16 => some (o16.1, o16.2)))
set_option maxHeartbeats 4000000 in
set_option maxRecDepth 100000 in
theorem k_X4_value (l : Launch) (G : va_G) (g : Nat → ClassId) (jo js jp ja jk jt jb : Nat) (un : Int32) (uy : Int32) (uw : Int32) (uq : Int32) (uz : Int32) (us : Nat → Int32) (up : Nat → Int32) (ua : Nat → Int32) (uk : Nat → Int32) (ut : Nat → Int32) (ub : Nat → Int32) (p1 : Int32) (p2 : Int32) (res : Int32 × Int32) (hq : F_X4_value uw us p1 p2 = some res) : rwC l yX4_value wsX4_value (rmF 4 110) G g [.ref jo, .int p1, .int p2] [(jo, .inr (4, [.ref js, .ref jp, .ref ja, .ref jk, .int un, .ref jt, .int uy, .int uw, .ref jb, .int uq, .int uz])), (js, .inl (g 0, 388, .inl us)), (jp, .inl (g 0, 1552, .inl up)), (ja, .inl (g 0, 388, .inl ua)), (jk, .inl (g 0, 97, .inl uk)), (jt, .inl (g 0, 150, .inl ut)), (jb, .inl (g 0, 1000, .inl ub))] (some (.int res.1)) [(jo, .inr (4, [.ref js, .ref jp, .ref ja, .ref jk, .int un, .ref jt, .int uy, .int res.2, .ref jb, .int uq, .int uz])), (js, .inl (g 0, 388, .inl us)), (jp, .inl (g 0, 1552, .inl up)), (ja, .inl (g 0, 388, .inl ua)), (jk, .inl (g 0, 97, .inl uk)), (jt, .inl (g 0, 150, .inl ut)), (jb, .inl (g 0, 1000, .inl ub))] := by
  refine rwC.of (cc := cX4_value) (maxL := 3) (ret := (some .int)) (by decide) rfl (Nat.le_of_ble_eq_true rfl) ?_
  intro p e s m below meth c ls A X K hA hP hD hS hl
  obtain ⟨hx, hb, hml, hr, hown, hts, hk⟩ := id X
  have hl : lv_has ls 3 [(0, .ref jo), (1, .int p1), (2, .int p2)] := hl
  unfold F_X4_value at hq
  refine lv_iload_n hx hb dX4_value_0 rfl (lv_at hl 1 rfl) ?_
  obtain ⟨r1, hh2, hq⟩ := q_bd hq
  refine roS (As := [.int p1]) (rest := []) X K (k_X4_isCurve l G g p1 _ hh2) hd_X4_isCurve gX4_value_X4_isCurve (hP.sub [] rfl) hl.1 dX4_value_1 rfl rfl ⟨Nat.le_of_ble_eq_true rfl, Nat.le_of_ble_eq_true rfl⟩ rfl (Nat.le_of_ble_eq_true rfl) ⟨Nat.zero_le _, Nat.zero_le _⟩ ?_
  refine lv_if_ne (tgt := 13) hx hb dX4_value_4 (by decide) (fun c3 => ?_) (fun c3 => ?_)
  · have hq := q_if_f hq c3
    refine lv_iload_n hx hb dX4_value_13 rfl (lv_at hl 2 rfl) ?_
    obtain ⟨r4, hh5, hq⟩ := q_bd hq
    refine roS (As := [.int p2]) (rest := []) X K (k_X4_isFrame l G g p2 _ hh5) hd_X4_isFrame gX4_value_X4_isFrame (hP.sub [] rfl) hl.1 dX4_value_14 rfl rfl ⟨Nat.le_of_ble_eq_true rfl, Nat.le_of_ble_eq_true rfl⟩ rfl (Nat.le_of_ble_eq_true rfl) ⟨Nat.zero_le _, Nat.zero_le _⟩ ?_
    refine lv_if_eq (tgt := 33) hx hb dX4_value_17 (by decide) (fun c6 => ?_) (fun c6 => ?_)
    · have hq := q_if_t hq c6
      refine lv_aload_n hx hb dX4_value_33 rfl (lv_at hl 0 rfl) ?_
      refine lv_iconst (v := 2) hx hb dX4_value_34 (by decide) ?_
      obtain ⟨⟨r7, y8⟩, hh9, hq⟩ := q_bd hq
      refine rwV (ci := 4) (wr := []) (As := [.int 2]) (rest := []) X K (k_X4_fails l G g jo js jp ja jk jt jb un uy uw uq uz us up ua uk ut ub 2 _ hh9) hd_X4_fails gX4_value_X4_fails hP hD hS hA [0, 1, 2, 3, 4, 5, 6] [] rfl rfl ⟨by decide, by decide, by decide⟩ hl.1 dX4_value_35 rfl rfl ⟨Nat.le_of_ble_eq_true rfl, Nat.le_of_ble_eq_true rfl⟩ rfl rfl rfl (Nat.le_of_ble_eq_true rfl) ⟨Nat.zero_le _, Nat.zero_le _⟩ (fun H locs hP hD hS => ?_)
      have hP : va_P G vwCl [(jo, .inr (4, [.ref js, .ref jp, .ref ja, .ref jk, .int un, .ref jt, .int uy, .int y8, .ref jb, .int uq, .int uz])), (js, .inl (g 0, 388, .inl us)), (jp, .inl (g 0, 1552, .inl up)), (ja, .inl (g 0, 388, .inl ua)), (jk, .inl (g 0, 97, .inl uk)), (jt, .inl (g 0, 150, .inl ut)), (jb, .inl (g 0, 1000, .inl ub))] H := hP
      have hD : va_D A [(jo, .inr (4, [.ref js, .ref jp, .ref ja, .ref jk, .int un, .ref jt, .int uy, .int y8, .ref jb, .int uq, .int uz])), (js, .inl (g 0, 388, .inl us)), (jp, .inl (g 0, 1552, .inl up)), (ja, .inl (g 0, 388, .inl ua)), (jk, .inl (g 0, 97, .inl uk)), (jt, .inl (g 0, 150, .inl ut)), (jb, .inl (g 0, 1000, .inl ub))] := hD
      obtain rfl := q_rt hq
      exact rw_iret hx hb hr hk hP hD hS dX4_value_38
    · have hq := q_if_f hq c6
      refine lv_aload_n hx hb dX4_value_20 rfl (lv_at hl 0 rfl) ?_
      refine lv_aload_n hx hb dX4_value_21 rfl (lv_at hl 0 rfl) ?_
      refine lv_iload_n hx hb dX4_value_22 rfl (lv_at hl 1 rfl) ?_
      refine lv_iload_n hx hb dX4_value_23 rfl (lv_at hl 2 rfl) ?_
      obtain ⟨r11, hh12, hq⟩ := q_bd hq
      refine roV (ci := 4) (As := [.int p1, .int p2]) (rest := [.ref jo]) X K (k_X4_valueAt l G g jo js jp ja jk jt jb un uy uw uq uz us up ua uk ut ub p1 p2 _ hh12) hd_X4_valueAt gX4_value_X4_valueAt hP hl.1 dX4_value_24 rfl rfl ⟨Nat.le_of_ble_eq_true rfl, Nat.le_of_ble_eq_true rfl⟩ rfl rfl rfl (Nat.le_of_ble_eq_true rfl) ⟨Nat.zero_le _, Nat.zero_le _⟩ ?_
      obtain ⟨⟨r13, y14⟩, hh15, hq⟩ := q_bd hq
      refine rwV (ci := 4) (wr := []) (As := [.int r11]) (rest := []) X K (k_X4_tells l G g jo js jp ja jk jt jb un uy uw uq uz us up ua uk ut ub r11 _ hh15) hd_X4_tells gX4_value_X4_tells hP hD hS hA [0, 1, 2, 3, 4, 5, 6] [] rfl rfl ⟨by decide, by decide, by decide⟩ hl.1 dX4_value_27 rfl rfl ⟨Nat.le_of_ble_eq_true rfl, Nat.le_of_ble_eq_true rfl⟩ rfl rfl rfl (Nat.le_of_ble_eq_true rfl) ⟨Nat.zero_le _, Nat.zero_le _⟩ (fun H locs hP hD hS => ?_)
      have hP : va_P G vwCl [(jo, .inr (4, [.ref js, .ref jp, .ref ja, .ref jk, .int un, .ref jt, .int uy, .int y14, .ref jb, .int uq, .int uz])), (js, .inl (g 0, 388, .inl us)), (jp, .inl (g 0, 1552, .inl up)), (ja, .inl (g 0, 388, .inl ua)), (jk, .inl (g 0, 97, .inl uk)), (jt, .inl (g 0, 150, .inl ut)), (jb, .inl (g 0, 1000, .inl ub))] H := hP
      have hD : va_D A [(jo, .inr (4, [.ref js, .ref jp, .ref ja, .ref jk, .int un, .ref jt, .int uy, .int y14, .ref jb, .int uq, .int uz])), (js, .inl (g 0, 388, .inl us)), (jp, .inl (g 0, 1552, .inl up)), (ja, .inl (g 0, 388, .inl ua)), (jk, .inl (g 0, 97, .inl uk)), (jt, .inl (g 0, 150, .inl ut)), (jb, .inl (g 0, 1000, .inl ub))] := hD
      refine lv_goto (tgt := 38) hx hb dX4_value_30 (by decide) ?_
      obtain rfl := q_rt hq
      exact rw_iret hx hb hr hk hP hD hS dX4_value_38
  · have hq := q_if_t hq c3
    refine lv_aload_n hx hb dX4_value_7 rfl (lv_at hl 0 rfl) ?_
    refine lv_iconst (v := 1) hx hb dX4_value_8 (by decide) ?_
    obtain ⟨⟨r17, y18⟩, hh19, hq⟩ := q_bd hq
    refine rwV (ci := 4) (wr := []) (As := [.int 1]) (rest := []) X K (k_X4_fails l G g jo js jp ja jk jt jb un uy uw uq uz us up ua uk ut ub 1 _ hh19) hd_X4_fails gX4_value_X4_fails hP hD hS hA [0, 1, 2, 3, 4, 5, 6] [] rfl rfl ⟨by decide, by decide, by decide⟩ hl.1 dX4_value_9 rfl rfl ⟨Nat.le_of_ble_eq_true rfl, Nat.le_of_ble_eq_true rfl⟩ rfl rfl rfl (Nat.le_of_ble_eq_true rfl) ⟨Nat.zero_le _, Nat.zero_le _⟩ (fun H locs hP hD hS => ?_)
    have hP : va_P G vwCl [(jo, .inr (4, [.ref js, .ref jp, .ref ja, .ref jk, .int un, .ref jt, .int uy, .int y18, .ref jb, .int uq, .int uz])), (js, .inl (g 0, 388, .inl us)), (jp, .inl (g 0, 1552, .inl up)), (ja, .inl (g 0, 388, .inl ua)), (jk, .inl (g 0, 97, .inl uk)), (jt, .inl (g 0, 150, .inl ut)), (jb, .inl (g 0, 1000, .inl ub))] H := hP
    have hD : va_D A [(jo, .inr (4, [.ref js, .ref jp, .ref ja, .ref jk, .int un, .ref jt, .int uy, .int y18, .ref jb, .int uq, .int uz])), (js, .inl (g 0, 388, .inl us)), (jp, .inl (g 0, 1552, .inl up)), (ja, .inl (g 0, 388, .inl ua)), (jk, .inl (g 0, 97, .inl uk)), (jt, .inl (g 0, 150, .inl ut)), (jb, .inl (g 0, 1000, .inl ub))] := hD
    obtain rfl := q_rt hq
    exact rw_iret hx hb hr hk hP hD hS dX4_value_12
theorem hd_X4_areFrames : ynm yX4_areFrames 2 := by unfold ynm; decide +kernel
theorem hd_X4_sumOf : ynm yX4_sumOf 3 := by unfold ynm; decide +kernel
theorem in_X4_sum_X4 : ∀ w ∈ wsX40, w ∈ wsX4_sum := fun _ h => List.mem_cons_of_mem _ (List.mem_append_right _ h)
def F_X4_sum (uw : Int32) (us : Nat → Int32) (p1 : Int32) (p2 : Int32) (p3 : Int32) : Option (Int64 × Int32) := (F_X4_isCurve p1).bind fun r1 => if r1 = 0 then ((F_X4_fails uw 1).bind fun o16 => some (o16.1.toInt64, o16.2)) else ((F_X4_areFrames p2 p3).bind fun r4 => if r4 = 0 then ((F_X4_fails uw 2).bind fun o12 => some (o12.1.toInt64, o12.2)) else ((F_X4_sumOf us p1 p2 p3).bind fun r7 => some (r7, 0)))
set_option maxHeartbeats 4000000 in
set_option maxRecDepth 100000 in
theorem k_X4_sum (l : Launch) (G : va_G) (g : Nat → ClassId) (jo js jp ja jk jt jb : Nat) (un : Int32) (uy : Int32) (uw : Int32) (uq : Int32) (uz : Int32) (us : Nat → Int32) (up : Nat → Int32) (ua : Nat → Int32) (uk : Nat → Int32) (ut : Nat → Int32) (ub : Nat → Int32) (p1 : Int32) (p2 : Int32) (p3 : Int32) (res : Int64 × Int32) (hq : F_X4_sum uw us p1 p2 p3 = some res) : rwC l yX4_sum wsX4_sum (rmF 5 136) G g [.ref jo, .int p1, .int p2, .int p3] [(jo, .inr (4, [.ref js, .ref jp, .ref ja, .ref jk, .int un, .ref jt, .int uy, .int uw, .ref jb, .int uq, .int uz])), (js, .inl (g 0, 388, .inl us)), (jp, .inl (g 0, 1552, .inl up)), (ja, .inl (g 0, 388, .inl ua)), (jk, .inl (g 0, 97, .inl uk)), (jt, .inl (g 0, 150, .inl ut)), (jb, .inl (g 0, 1000, .inl ub))] (some (.long res.1)) [(jo, .inr (4, [.ref js, .ref jp, .ref ja, .ref jk, .int un, .ref jt, .int uy, .int res.2, .ref jb, .int uq, .int uz])), (js, .inl (g 0, 388, .inl us)), (jp, .inl (g 0, 1552, .inl up)), (ja, .inl (g 0, 388, .inl ua)), (jk, .inl (g 0, 97, .inl uk)), (jt, .inl (g 0, 150, .inl ut)), (jb, .inl (g 0, 1000, .inl ub))] := by
  refine rwC.of (cc := cX4_sum) (maxL := 4) (ret := (some .long)) (by decide) rfl (Nat.le_of_ble_eq_true rfl) ?_
  intro p e s m below meth c ls A X K hA hP hD hS hl
  obtain ⟨hx, hb, hml, hr, hown, hts, hk⟩ := id X
  have hl : lv_has ls 4 [(0, .ref jo), (1, .int p1), (2, .int p2), (3, .int p3)] := hl
  unfold F_X4_sum at hq
  refine lv_iload_n hx hb dX4_sum_0 rfl (lv_at hl 1 rfl) ?_
  obtain ⟨r1, hh2, hq⟩ := q_bd hq
  refine roS (As := [.int p1]) (rest := []) X K (k_X4_isCurve l G g p1 _ hh2) hd_X4_isCurve gX4_sum_X4_isCurve (hP.sub [] rfl) hl.1 dX4_sum_1 rfl rfl ⟨Nat.le_of_ble_eq_true rfl, Nat.le_of_ble_eq_true rfl⟩ rfl (Nat.le_of_ble_eq_true rfl) ⟨Nat.zero_le _, Nat.zero_le _⟩ ?_
  refine lv_if_ne (tgt := 14) hx hb dX4_sum_4 (by decide) (fun c3 => ?_) (fun c3 => ?_)
  · have hq := q_if_f hq c3
    refine lv_iload_n hx hb dX4_sum_14 rfl (lv_at hl 2 rfl) ?_
    refine lv_iload_n hx hb dX4_sum_15 rfl (lv_at hl 3 rfl) ?_
    obtain ⟨r4, hh5, hq⟩ := q_bd hq
    refine roS (As := [.int p2, .int p3]) (rest := []) X K (k_X4_areFrames l G g p2 p3 _ hh5) hd_X4_areFrames gX4_sum_X4_areFrames (hP.sub [] rfl) hl.1 dX4_sum_16 rfl rfl ⟨Nat.le_of_ble_eq_true rfl, Nat.le_of_ble_eq_true rfl⟩ rfl (Nat.le_of_ble_eq_true rfl) ⟨Nat.zero_le _, Nat.zero_le _⟩ ?_
    refine lv_if_ne (tgt := 29) hx hb dX4_sum_19 (by decide) (fun c6 => ?_) (fun c6 => ?_)
    · have hq := q_if_f hq c6
      refine lv_aload_n hx hb dX4_sum_29 rfl (lv_at hl 0 rfl) ?_
      refine lv_iconst (v := 0) hx hb dX4_sum_30 (by decide) ?_
      refine va_put (D := G) (ci := 4) (v := .int 0) (ty := .int) (C := RX4) (T := TX4) (N := 11) hx hb hts in_X4_sum_X4 tyX4 tyX4_ok nmX4 hown K.1 hP hD hS 0 rfl rfl 7 (by decide) (hts _ (List.mem_of_getElem? (i := 1) rfl)) (fun _ h9 => h9) rfl (by decide +kernel) rfl rfl (Nat.le_of_ble_eq_true rfl) dX4_sum_31 (fun H locs hP hD hS => ?_)
      have hP : va_P G vwCl [(jo, .inr (4, [.ref js, .ref jp, .ref ja, .ref jk, .int un, .ref jt, .int uy, .int 0, .ref jb, .int uq, .int uz])), (js, .inl (g 0, 388, .inl us)), (jp, .inl (g 0, 1552, .inl up)), (ja, .inl (g 0, 388, .inl ua)), (jk, .inl (g 0, 97, .inl uk)), (jt, .inl (g 0, 150, .inl ut)), (jb, .inl (g 0, 1000, .inl ub))] H := hP
      have hD : va_D A [(jo, .inr (4, [.ref js, .ref jp, .ref ja, .ref jk, .int un, .ref jt, .int uy, .int 0, .ref jb, .int uq, .int uz])), (js, .inl (g 0, 388, .inl us)), (jp, .inl (g 0, 1552, .inl up)), (ja, .inl (g 0, 388, .inl ua)), (jk, .inl (g 0, 97, .inl uk)), (jt, .inl (g 0, 150, .inl ut)), (jb, .inl (g 0, 1000, .inl ub))] := hD
      refine lv_aload_n hx hb dX4_sum_34 rfl (lv_at hl 0 rfl) ?_
      refine lv_iload_n hx hb dX4_sum_35 rfl (lv_at hl 1 rfl) ?_
      refine lv_iload_n hx hb dX4_sum_36 rfl (lv_at hl 2 rfl) ?_
      refine lv_iload_n hx hb dX4_sum_37 rfl (lv_at hl 3 rfl) ?_
      obtain ⟨r7, hh8, hq⟩ := q_bd hq
      refine roV (ci := 4) (As := [.int p1, .int p2, .int p3]) (rest := []) X K (k_X4_sumOf l G g jo js jp ja jk jt jb un uy 0 uq uz us up ua uk ut ub p1 p2 p3 _ hh8) hd_X4_sumOf gX4_sum_X4_sumOf hP hl.1 dX4_sum_38 rfl rfl ⟨Nat.le_of_ble_eq_true rfl, Nat.le_of_ble_eq_true rfl⟩ rfl rfl rfl (Nat.le_of_ble_eq_true rfl) ⟨Nat.zero_le _, Nat.zero_le _⟩ ?_
      obtain rfl := q_rt hq
      exact rw_lret hx hb hr hk hP hD hS dX4_sum_41
    · have hq := q_if_t hq c6
      refine lv_aload_n hx hb dX4_sum_22 rfl (lv_at hl 0 rfl) ?_
      refine lv_iconst (v := 2) hx hb dX4_sum_23 (by decide) ?_
      obtain ⟨⟨r9, y10⟩, hh11, hq⟩ := q_bd hq
      refine rwV (ci := 4) (wr := []) (As := [.int 2]) (rest := []) X K (k_X4_fails l G g jo js jp ja jk jt jb un uy uw uq uz us up ua uk ut ub 2 _ hh11) hd_X4_fails gX4_sum_X4_fails hP hD hS hA [0, 1, 2, 3, 4, 5, 6] [] rfl rfl ⟨by decide, by decide, by decide⟩ hl.1 dX4_sum_24 rfl rfl ⟨Nat.le_of_ble_eq_true rfl, Nat.le_of_ble_eq_true rfl⟩ rfl rfl rfl (Nat.le_of_ble_eq_true rfl) ⟨Nat.zero_le _, Nat.zero_le _⟩ (fun H locs hP hD hS => ?_)
      have hP : va_P G vwCl [(jo, .inr (4, [.ref js, .ref jp, .ref ja, .ref jk, .int un, .ref jt, .int uy, .int y10, .ref jb, .int uq, .int uz])), (js, .inl (g 0, 388, .inl us)), (jp, .inl (g 0, 1552, .inl up)), (ja, .inl (g 0, 388, .inl ua)), (jk, .inl (g 0, 97, .inl uk)), (jt, .inl (g 0, 150, .inl ut)), (jb, .inl (g 0, 1000, .inl ub))] H := hP
      have hD : va_D A [(jo, .inr (4, [.ref js, .ref jp, .ref ja, .ref jk, .int un, .ref jt, .int uy, .int y10, .ref jb, .int uq, .int uz])), (js, .inl (g 0, 388, .inl us)), (jp, .inl (g 0, 1552, .inl up)), (ja, .inl (g 0, 388, .inl ua)), (jk, .inl (g 0, 97, .inl uk)), (jt, .inl (g 0, 150, .inl ut)), (jb, .inl (g 0, 1000, .inl ub))] := hD
      refine lv_i2l (v := r9.toInt64) hx hb dX4_sum_27 rfl ?_
      obtain rfl := q_rt hq
      exact rw_lret hx hb hr hk hP hD hS dX4_sum_28
  · have hq := q_if_t hq c3
    refine lv_aload_n hx hb dX4_sum_7 rfl (lv_at hl 0 rfl) ?_
    refine lv_iconst (v := 1) hx hb dX4_sum_8 (by decide) ?_
    obtain ⟨⟨r13, y14⟩, hh15, hq⟩ := q_bd hq
    refine rwV (ci := 4) (wr := []) (As := [.int 1]) (rest := []) X K (k_X4_fails l G g jo js jp ja jk jt jb un uy uw uq uz us up ua uk ut ub 1 _ hh15) hd_X4_fails gX4_sum_X4_fails hP hD hS hA [0, 1, 2, 3, 4, 5, 6] [] rfl rfl ⟨by decide, by decide, by decide⟩ hl.1 dX4_sum_9 rfl rfl ⟨Nat.le_of_ble_eq_true rfl, Nat.le_of_ble_eq_true rfl⟩ rfl rfl rfl (Nat.le_of_ble_eq_true rfl) ⟨Nat.zero_le _, Nat.zero_le _⟩ (fun H locs hP hD hS => ?_)
    have hP : va_P G vwCl [(jo, .inr (4, [.ref js, .ref jp, .ref ja, .ref jk, .int un, .ref jt, .int uy, .int y14, .ref jb, .int uq, .int uz])), (js, .inl (g 0, 388, .inl us)), (jp, .inl (g 0, 1552, .inl up)), (ja, .inl (g 0, 388, .inl ua)), (jk, .inl (g 0, 97, .inl uk)), (jt, .inl (g 0, 150, .inl ut)), (jb, .inl (g 0, 1000, .inl ub))] H := hP
    have hD : va_D A [(jo, .inr (4, [.ref js, .ref jp, .ref ja, .ref jk, .int un, .ref jt, .int uy, .int y14, .ref jb, .int uq, .int uz])), (js, .inl (g 0, 388, .inl us)), (jp, .inl (g 0, 1552, .inl up)), (ja, .inl (g 0, 388, .inl ua)), (jk, .inl (g 0, 97, .inl uk)), (jt, .inl (g 0, 150, .inl ut)), (jb, .inl (g 0, 1000, .inl ub))] := hD
    refine lv_i2l (v := r13.toInt64) hx hb dX4_sum_12 rfl ?_
    obtain rfl := q_rt hq
    exact rw_lret hx hb hr hk hP hD hS dX4_sum_13
theorem hd_X4_extremeOf : ynm yX4_extremeOf 4 := by unfold ynm; decide +kernel
def F_X4_extreme (uw : Int32) (us : Nat → Int32) (ub : Nat → Int32) (p1 : Int32) (p2 : Int32) (p3 : Int32) (p4 : Int32) : Option (Int32 × Int32 × (Nat → Int32)) := (F_X4_isCurve p1).bind fun r1 => if r1 = 0 then ((F_X4_fails uw 1).bind fun o29 => some (o29.1, o29.2, ub)) else ((F_X4_areFrames p2 p3).bind fun r4 => if r4 = 0 then ((F_X4_fails uw 2).bind fun o10 => some (o10.1, o10.2, ub)) else ((F_X4_in p4 0 4).bind fun r11 => if r11 = 0 then ((F_X4_fails uw 2).bind fun o17 => some (o17.1, o17.2, ub)) else ((F_X4_extremeOf us ub p1 p2 p3 p4).bind fun o21 => (F_X4_tells uw o21.1).bind fun o25 => some (o25.1, o25.2, o21.2))))
set_option maxHeartbeats 4000000 in
set_option maxRecDepth 100000 in
theorem k_X4_extreme (l : Launch) (G : va_G) (g : Nat → ClassId) (jo js jp ja jk jt jb : Nat) (un : Int32) (uy : Int32) (uw : Int32) (uq : Int32) (uz : Int32) (us : Nat → Int32) (up : Nat → Int32) (ua : Nat → Int32) (uk : Nat → Int32) (ut : Nat → Int32) (ub : Nat → Int32) (p1 : Int32) (p2 : Int32) (p3 : Int32) (p4 : Int32) (res : Int32 × Int32 × (Nat → Int32)) (hq : F_X4_extreme uw us ub p1 p2 p3 p4 = some res) : rwC l yX4_extreme wsX4_extreme (rmF 6 161) G g [.ref jo, .int p1, .int p2, .int p3, .int p4] [(jo, .inr (4, [.ref js, .ref jp, .ref ja, .ref jk, .int un, .ref jt, .int uy, .int uw, .ref jb, .int uq, .int uz])), (js, .inl (g 0, 388, .inl us)), (jp, .inl (g 0, 1552, .inl up)), (ja, .inl (g 0, 388, .inl ua)), (jk, .inl (g 0, 97, .inl uk)), (jt, .inl (g 0, 150, .inl ut)), (jb, .inl (g 0, 1000, .inl ub))] (some (.int res.1)) [(jo, .inr (4, [.ref js, .ref jp, .ref ja, .ref jk, .int un, .ref jt, .int uy, .int res.2.1, .ref jb, .int uq, .int uz])), (js, .inl (g 0, 388, .inl us)), (jp, .inl (g 0, 1552, .inl up)), (ja, .inl (g 0, 388, .inl ua)), (jk, .inl (g 0, 97, .inl uk)), (jt, .inl (g 0, 150, .inl ut)), (jb, .inl (g 0, 1000, .inl res.2.2))] := by
  refine rwC.of (cc := cX4_extreme) (maxL := 5) (ret := (some .int)) (by decide) rfl (Nat.le_of_ble_eq_true rfl) ?_
  intro p e s m below meth c ls A X K hA hP hD hS hl
  obtain ⟨hx, hb, hml, hr, hown, hts, hk⟩ := id X
  have hl : lv_has ls 5 [(0, .ref jo), (1, .int p1), (2, .int p2), (3, .int p3), (4, .int p4)] := hl
  unfold F_X4_extreme at hq
  refine lv_iload_n hx hb dX4_extreme_0 rfl (lv_at hl 1 rfl) ?_
  obtain ⟨r1, hh2, hq⟩ := q_bd hq
  refine roS (As := [.int p1]) (rest := []) X K (k_X4_isCurve l G g p1 _ hh2) hd_X4_isCurve gX4_extreme_X4_isCurve (hP.sub [] rfl) hl.1 dX4_extreme_1 rfl rfl ⟨Nat.le_of_ble_eq_true rfl, Nat.le_of_ble_eq_true rfl⟩ rfl (Nat.le_of_ble_eq_true rfl) ⟨Nat.zero_le _, Nat.zero_le _⟩ ?_
  refine lv_if_ne (tgt := 13) hx hb dX4_extreme_4 (by decide) (fun c3 => ?_) (fun c3 => ?_)
  · have hq := q_if_f hq c3
    refine lv_iload_n hx hb dX4_extreme_13 rfl (lv_at hl 2 rfl) ?_
    refine lv_iload_n hx hb dX4_extreme_14 rfl (lv_at hl 3 rfl) ?_
    obtain ⟨r4, hh5, hq⟩ := q_bd hq
    refine roS (As := [.int p2, .int p3]) (rest := []) X K (k_X4_areFrames l G g p2 p3 _ hh5) hd_X4_areFrames gX4_extreme_X4_areFrames (hP.sub [] rfl) hl.1 dX4_extreme_15 rfl rfl ⟨Nat.le_of_ble_eq_true rfl, Nat.le_of_ble_eq_true rfl⟩ rfl (Nat.le_of_ble_eq_true rfl) ⟨Nat.zero_le _, Nat.zero_le _⟩ ?_
    refine lv_if_eq (tgt := 47) hx hb dX4_extreme_18 (by decide) (fun c6 => ?_) (fun c6 => ?_)
    · have hq := q_if_t hq c6
      refine lv_aload_n hx hb dX4_extreme_47 rfl (lv_at hl 0 rfl) ?_
      refine lv_iconst (v := 2) hx hb dX4_extreme_48 (by decide) ?_
      obtain ⟨⟨r7, y8⟩, hh9, hq⟩ := q_bd hq
      refine rwV (ci := 4) (wr := []) (As := [.int 2]) (rest := []) X K (k_X4_fails l G g jo js jp ja jk jt jb un uy uw uq uz us up ua uk ut ub 2 _ hh9) hd_X4_fails gX4_extreme_X4_fails hP hD hS hA [0, 1, 2, 3, 4, 5, 6] [] rfl rfl ⟨by decide, by decide, by decide⟩ hl.1 dX4_extreme_49 rfl rfl ⟨Nat.le_of_ble_eq_true rfl, Nat.le_of_ble_eq_true rfl⟩ rfl rfl rfl (Nat.le_of_ble_eq_true rfl) ⟨Nat.zero_le _, Nat.zero_le _⟩ (fun H locs hP hD hS => ?_)
      have hP : va_P G vwCl [(jo, .inr (4, [.ref js, .ref jp, .ref ja, .ref jk, .int un, .ref jt, .int uy, .int y8, .ref jb, .int uq, .int uz])), (js, .inl (g 0, 388, .inl us)), (jp, .inl (g 0, 1552, .inl up)), (ja, .inl (g 0, 388, .inl ua)), (jk, .inl (g 0, 97, .inl uk)), (jt, .inl (g 0, 150, .inl ut)), (jb, .inl (g 0, 1000, .inl ub))] H := hP
      have hD : va_D A [(jo, .inr (4, [.ref js, .ref jp, .ref ja, .ref jk, .int un, .ref jt, .int uy, .int y8, .ref jb, .int uq, .int uz])), (js, .inl (g 0, 388, .inl us)), (jp, .inl (g 0, 1552, .inl up)), (ja, .inl (g 0, 388, .inl ua)), (jk, .inl (g 0, 97, .inl uk)), (jt, .inl (g 0, 150, .inl ut)), (jb, .inl (g 0, 1000, .inl ub))] := hD
      obtain rfl := q_rt hq
      exact rw_iret hx hb hr hk hP hD hS dX4_extreme_52
    · have hq := q_if_f hq c6
      refine lv_iload hx hb dX4_extreme_21 (lv_at hl 4 rfl) ?_
      refine lv_iconst (v := 0) hx hb dX4_extreme_23 (by decide) ?_
      refine lv_iconst (v := 4) hx hb dX4_extreme_24 (by decide) ?_
      obtain ⟨r11, hh12, hq⟩ := q_bd hq
      refine roS (As := [.int p4, .int 0, .int 4]) (rest := []) X K (k_X4_in l G g p4 0 4 _ hh12) hd_X4_in gX4_extreme_X4_in (hP.sub [] rfl) hl.1 dX4_extreme_25 rfl rfl ⟨Nat.le_of_ble_eq_true rfl, Nat.le_of_ble_eq_true rfl⟩ rfl (Nat.le_of_ble_eq_true rfl) ⟨Nat.zero_le _, Nat.zero_le _⟩ ?_
      refine lv_if_eq (tgt := 47) hx hb dX4_extreme_28 (by decide) (fun c13 => ?_) (fun c13 => ?_)
      · have hq := q_if_t hq c13
        refine lv_aload_n hx hb dX4_extreme_47 rfl (lv_at hl 0 rfl) ?_
        refine lv_iconst (v := 2) hx hb dX4_extreme_48 (by decide) ?_
        obtain ⟨⟨r14, y15⟩, hh16, hq⟩ := q_bd hq
        refine rwV (ci := 4) (wr := []) (As := [.int 2]) (rest := []) X K (k_X4_fails l G g jo js jp ja jk jt jb un uy uw uq uz us up ua uk ut ub 2 _ hh16) hd_X4_fails gX4_extreme_X4_fails hP hD hS hA [0, 1, 2, 3, 4, 5, 6] [] rfl rfl ⟨by decide, by decide, by decide⟩ hl.1 dX4_extreme_49 rfl rfl ⟨Nat.le_of_ble_eq_true rfl, Nat.le_of_ble_eq_true rfl⟩ rfl rfl rfl (Nat.le_of_ble_eq_true rfl) ⟨Nat.zero_le _, Nat.zero_le _⟩ (fun H locs hP hD hS => ?_)
        have hP : va_P G vwCl [(jo, .inr (4, [.ref js, .ref jp, .ref ja, .ref jk, .int un, .ref jt, .int uy, .int y15, .ref jb, .int uq, .int uz])), (js, .inl (g 0, 388, .inl us)), (jp, .inl (g 0, 1552, .inl up)), (ja, .inl (g 0, 388, .inl ua)), (jk, .inl (g 0, 97, .inl uk)), (jt, .inl (g 0, 150, .inl ut)), (jb, .inl (g 0, 1000, .inl ub))] H := hP
        have hD : va_D A [(jo, .inr (4, [.ref js, .ref jp, .ref ja, .ref jk, .int un, .ref jt, .int uy, .int y15, .ref jb, .int uq, .int uz])), (js, .inl (g 0, 388, .inl us)), (jp, .inl (g 0, 1552, .inl up)), (ja, .inl (g 0, 388, .inl ua)), (jk, .inl (g 0, 97, .inl uk)), (jt, .inl (g 0, 150, .inl ut)), (jb, .inl (g 0, 1000, .inl ub))] := hD
        obtain rfl := q_rt hq
        exact rw_iret hx hb hr hk hP hD hS dX4_extreme_52
      · have hq := q_if_f hq c13
        refine lv_aload_n hx hb dX4_extreme_31 rfl (lv_at hl 0 rfl) ?_
        refine lv_aload_n hx hb dX4_extreme_32 rfl (lv_at hl 0 rfl) ?_
        refine lv_iload_n hx hb dX4_extreme_33 rfl (lv_at hl 1 rfl) ?_
        refine lv_iload_n hx hb dX4_extreme_34 rfl (lv_at hl 2 rfl) ?_
        refine lv_iload_n hx hb dX4_extreme_35 rfl (lv_at hl 3 rfl) ?_
        refine lv_iload hx hb dX4_extreme_36 (lv_at hl 4 rfl) ?_
        obtain ⟨⟨r18, y19⟩, hh20, hq⟩ := q_bd hq
        refine rwV (ci := 4) (wr := []) (As := [.int p1, .int p2, .int p3, .int p4]) (rest := [.ref jo]) X K (k_X4_extremeOf l G g jo js jp ja jk jt jb un uy uw uq uz us up ua uk ut ub p1 p2 p3 p4 _ hh20) hd_X4_extremeOf gX4_extreme_X4_extremeOf hP hD hS hA [0, 1, 2, 3, 4, 5, 6] [] rfl rfl ⟨by decide, by decide, by decide⟩ hl.1 dX4_extreme_38 rfl rfl ⟨Nat.le_of_ble_eq_true rfl, Nat.le_of_ble_eq_true rfl⟩ rfl rfl rfl (Nat.le_of_ble_eq_true rfl) ⟨Nat.zero_le _, Nat.zero_le _⟩ (fun H locs hP hD hS => ?_)
        have hP : va_P G vwCl [(jo, .inr (4, [.ref js, .ref jp, .ref ja, .ref jk, .int un, .ref jt, .int uy, .int uw, .ref jb, .int uq, .int uz])), (js, .inl (g 0, 388, .inl us)), (jp, .inl (g 0, 1552, .inl up)), (ja, .inl (g 0, 388, .inl ua)), (jk, .inl (g 0, 97, .inl uk)), (jt, .inl (g 0, 150, .inl ut)), (jb, .inl (g 0, 1000, .inl y19))] H := hP
        have hD : va_D A [(jo, .inr (4, [.ref js, .ref jp, .ref ja, .ref jk, .int un, .ref jt, .int uy, .int uw, .ref jb, .int uq, .int uz])), (js, .inl (g 0, 388, .inl us)), (jp, .inl (g 0, 1552, .inl up)), (ja, .inl (g 0, 388, .inl ua)), (jk, .inl (g 0, 97, .inl uk)), (jt, .inl (g 0, 150, .inl ut)), (jb, .inl (g 0, 1000, .inl y19))] := hD
        obtain ⟨⟨r22, y23⟩, hh24, hq⟩ := q_bd hq
        refine rwV (ci := 4) (wr := []) (As := [.int r18]) (rest := []) X K (k_X4_tells l G g jo js jp ja jk jt jb un uy uw uq uz us up ua uk ut y19 r18 _ hh24) hd_X4_tells gX4_extreme_X4_tells hP hD hS hA [0, 1, 2, 3, 4, 5, 6] [] rfl rfl ⟨by decide, by decide, by decide⟩ hl.1 dX4_extreme_41 rfl rfl ⟨Nat.le_of_ble_eq_true rfl, Nat.le_of_ble_eq_true rfl⟩ rfl rfl rfl (Nat.le_of_ble_eq_true rfl) ⟨Nat.zero_le _, Nat.zero_le _⟩ (fun H locs hP hD hS => ?_)
        have hP : va_P G vwCl [(jo, .inr (4, [.ref js, .ref jp, .ref ja, .ref jk, .int un, .ref jt, .int uy, .int y23, .ref jb, .int uq, .int uz])), (js, .inl (g 0, 388, .inl us)), (jp, .inl (g 0, 1552, .inl up)), (ja, .inl (g 0, 388, .inl ua)), (jk, .inl (g 0, 97, .inl uk)), (jt, .inl (g 0, 150, .inl ut)), (jb, .inl (g 0, 1000, .inl y19))] H := hP
        have hD : va_D A [(jo, .inr (4, [.ref js, .ref jp, .ref ja, .ref jk, .int un, .ref jt, .int uy, .int y23, .ref jb, .int uq, .int uz])), (js, .inl (g 0, 388, .inl us)), (jp, .inl (g 0, 1552, .inl up)), (ja, .inl (g 0, 388, .inl ua)), (jk, .inl (g 0, 97, .inl uk)), (jt, .inl (g 0, 150, .inl ut)), (jb, .inl (g 0, 1000, .inl y19))] := hD
        refine lv_goto (tgt := 52) hx hb dX4_extreme_44 (by decide) ?_
        obtain rfl := q_rt hq
        exact rw_iret hx hb hr hk hP hD hS dX4_extreme_52
  · have hq := q_if_t hq c3
    refine lv_aload_n hx hb dX4_extreme_7 rfl (lv_at hl 0 rfl) ?_
    refine lv_iconst (v := 1) hx hb dX4_extreme_8 (by decide) ?_
    obtain ⟨⟨r26, y27⟩, hh28, hq⟩ := q_bd hq
    refine rwV (ci := 4) (wr := []) (As := [.int 1]) (rest := []) X K (k_X4_fails l G g jo js jp ja jk jt jb un uy uw uq uz us up ua uk ut ub 1 _ hh28) hd_X4_fails gX4_extreme_X4_fails hP hD hS hA [0, 1, 2, 3, 4, 5, 6] [] rfl rfl ⟨by decide, by decide, by decide⟩ hl.1 dX4_extreme_9 rfl rfl ⟨Nat.le_of_ble_eq_true rfl, Nat.le_of_ble_eq_true rfl⟩ rfl rfl rfl (Nat.le_of_ble_eq_true rfl) ⟨Nat.zero_le _, Nat.zero_le _⟩ (fun H locs hP hD hS => ?_)
    have hP : va_P G vwCl [(jo, .inr (4, [.ref js, .ref jp, .ref ja, .ref jk, .int un, .ref jt, .int uy, .int y27, .ref jb, .int uq, .int uz])), (js, .inl (g 0, 388, .inl us)), (jp, .inl (g 0, 1552, .inl up)), (ja, .inl (g 0, 388, .inl ua)), (jk, .inl (g 0, 97, .inl uk)), (jt, .inl (g 0, 150, .inl ut)), (jb, .inl (g 0, 1000, .inl ub))] H := hP
    have hD : va_D A [(jo, .inr (4, [.ref js, .ref jp, .ref ja, .ref jk, .int un, .ref jt, .int uy, .int y27, .ref jb, .int uq, .int uz])), (js, .inl (g 0, 388, .inl us)), (jp, .inl (g 0, 1552, .inl up)), (ja, .inl (g 0, 388, .inl ua)), (jk, .inl (g 0, 97, .inl uk)), (jt, .inl (g 0, 150, .inl ut)), (jb, .inl (g 0, 1000, .inl ub))] := hD
    obtain rfl := q_rt hq
    exact rw_iret hx hb hr hk hP hD hS dX4_extreme_12
def F_X4_crossings_35 (uw : Int32) (us : Nat → Int32) (v1 : Int32) (v2 : Int32) : Nat → Int32 → Int32 → Option (Int32 × Int32)
  | 0, _, _ => none
  | n + 1, v3, v4 => if (999 : Int32) < v4 then ((F_X4_tells uw v3).bind fun o9 => some (o9.1, o9.2)) else ((F_X4_valueAt us v1 v4).bind fun r10 => if r10 < v2 then ((F_X4_valueAt us v1 (v4 - 1)).bind fun r13 => if r13 < v2 then (vlet (v3 + 0) fun x16 => vlet ((v4 : Int32) + 1) fun x17 => F_X4_crossings_35 uw us v1 v2 n x16 x17) else (vlet (v3 + 1) fun x18 => vlet ((v4 : Int32) + 1) fun x19 => F_X4_crossings_35 uw us v1 v2 n x18 x19)) else ((F_X4_valueAt us v1 (v4 - 1)).bind fun r20 => if r20 < v2 then (vlet (v3 + 1) fun x23 => vlet ((v4 : Int32) + 1) fun x24 => F_X4_crossings_35 uw us v1 v2 n x23 x24) else (vlet (v3 + 0) fun x25 => vlet ((v4 : Int32) + 1) fun x26 => F_X4_crossings_35 uw us v1 v2 n x25 x26)))
set_option maxHeartbeats 4000000 in
set_option maxRecDepth 100000 in
theorem w_X4_crossings_35 {p : Program} {l : Launch} {e : Env} {s : State} {m : MethodId} {args : Array Value} {below : List Frame} {meth : Method} {c : Code} {G : va_G} {g : Nat → ClassId} (X : cx p s m args meth c cX4_crossings 5 (some .int) RX4 wsX4_crossings) (K : amb G g s) {A : Nat → Prop} (hA : ∀ q : Nat, s.heap.size ≤ q → A q) (jo js jp ja jk jt jb : Nat) (un : Int32) (uy : Int32) (uq : Int32) (uz : Int32) (up : Nat → Int32) (ua : Nat → Int32) (uk : Nat → Int32) (ut : Nat → Int32) (ub : Nat → Int32) (uw : Int32) (us : Nat → Int32) (v1 : Int32) (v2 : Int32) (res : Int32 × Int32) : ∀ (n : Nat) (v3 : Int32) (v4 : Int32), F_X4_crossings_35 uw us v1 v2 n v3 v4 = some res → ∀ (H : Heap) (locs : List Loc), va_P G vwCl [(jo, .inr (4, [.ref js, .ref jp, .ref ja, .ref jk, .int un, .ref jt, .int uy, .int uw, .ref jb, .int uq, .int uz])), (js, .inl (g 0, 388, .inl us)), (jp, .inl (g 0, 1552, .inl up)), (ja, .inl (g 0, 388, .inl ua)), (jk, .inl (g 0, 97, .inl uk)), (jt, .inl (g 0, 150, .inl ut)), (jb, .inl (g 0, 1000, .inl ub))] H → va_D A [(jo, .inr (4, [.ref js, .ref jp, .ref ja, .ref jk, .int un, .ref jt, .int uy, .int uw, .ref jb, .int uq, .int uz])), (js, .inl (g 0, 388, .inl us)), (jp, .inl (g 0, 1552, .inl up)), (ja, .inl (g 0, 388, .inl ua)), (jk, .inl (g 0, 97, .inl uk)), (jt, .inl (g 0, 150, .inl ut)), (jb, .inl (g 0, 1000, .inl ub))] → va_S A s.heap H locs → ∀ (ls : Array Slot), lv_has ls 5 [(0, .ref jo), (1, .int v1), (2, .int v2), (3, .int v3), (4, .int v4)] → W p l e (rmF 4 110) s m args below meth c H locs 0 0 (rwM G A below (some (.int res.1)) [(jo, .inr (4, [.ref js, .ref jp, .ref ja, .ref jk, .int un, .ref jt, .int uy, .int res.2, .ref jb, .int uq, .int uz])), (js, .inl (g 0, 388, .inl us)), (jp, .inl (g 0, 1552, .inl up)), (ja, .inl (g 0, 388, .inl ua)), (jk, .inl (g 0, 97, .inl uk)), (jt, .inl (g 0, 150, .inl ut)), (jb, .inl (g 0, 1000, .inl ub))] args s) (F0 m 35 ls []) := by
  obtain ⟨hx, hb, hml, hr, hown, hts, hk⟩ := id X
  intro n
  induction n with
  | zero => intro v3 v4 hq; exact q_no hq
  | succ n ih =>
    intro v3 v4 hq H locs hP hD hS ls hl
    rw [F_X4_crossings_35] at hq
    refine lv_iload hx hb dX4_crossings_35 (lv_at hl 4 rfl) ?_
    refine lv_sipush (v := 999) hx hb dX4_crossings_37 (by decide) ?_
    refine lv_icmp_gt (tgt := 94) hx hb dX4_crossings_40 (by decide) (fun c5 => ?_) (fun c5 => ?_)
    · have hq := q_if_t hq c5
      refine lv_aload_n hx hb dX4_crossings_94 rfl (lv_at hl 0 rfl) ?_
      refine lv_iload_n hx hb dX4_crossings_95 rfl (lv_at hl 3 rfl) ?_
      obtain ⟨⟨r6, y7⟩, hh8, hq⟩ := q_bd hq
      refine rwV (ci := 4) (wr := []) (As := [.int v3]) (rest := []) X K (k_X4_tells l G g jo js jp ja jk jt jb un uy uw uq uz us up ua uk ut ub v3 _ hh8) hd_X4_tells gX4_crossings_X4_tells hP hD hS hA [0, 1, 2, 3, 4, 5, 6] [] rfl rfl ⟨by decide, by decide, by decide⟩ hl.1 dX4_crossings_96 rfl rfl ⟨Nat.le_of_ble_eq_true rfl, Nat.le_of_ble_eq_true rfl⟩ rfl rfl rfl (Nat.le_of_ble_eq_true rfl) ⟨Nat.zero_le _, Nat.zero_le _⟩ (fun H locs hP hD hS => ?_)
      have hP : va_P G vwCl [(jo, .inr (4, [.ref js, .ref jp, .ref ja, .ref jk, .int un, .ref jt, .int uy, .int y7, .ref jb, .int uq, .int uz])), (js, .inl (g 0, 388, .inl us)), (jp, .inl (g 0, 1552, .inl up)), (ja, .inl (g 0, 388, .inl ua)), (jk, .inl (g 0, 97, .inl uk)), (jt, .inl (g 0, 150, .inl ut)), (jb, .inl (g 0, 1000, .inl ub))] H := hP
      have hD : va_D A [(jo, .inr (4, [.ref js, .ref jp, .ref ja, .ref jk, .int un, .ref jt, .int uy, .int y7, .ref jb, .int uq, .int uz])), (js, .inl (g 0, 388, .inl us)), (jp, .inl (g 0, 1552, .inl up)), (ja, .inl (g 0, 388, .inl ua)), (jk, .inl (g 0, 97, .inl uk)), (jt, .inl (g 0, 150, .inl ut)), (jb, .inl (g 0, 1000, .inl ub))] := hD
      obtain rfl := q_rt hq
      exact rw_iret hx hb hr hk hP hD hS dX4_crossings_99
    · have hq := q_if_f hq c5
      refine lv_iload_n hx hb dX4_crossings_43 rfl (lv_at hl 3 rfl) ?_
      refine lv_aload_n hx hb dX4_crossings_44 rfl (lv_at hl 0 rfl) ?_
      refine lv_iload_n hx hb dX4_crossings_45 rfl (lv_at hl 1 rfl) ?_
      refine lv_iload hx hb dX4_crossings_46 (lv_at hl 4 rfl) ?_
      obtain ⟨r10, hh11, hq⟩ := q_bd hq
      refine roV (ci := 4) (As := [.int v1, .int v4]) (rest := [.int v3]) X K (k_X4_valueAt l G g jo js jp ja jk jt jb un uy uw uq uz us up ua uk ut ub v1 v4 _ hh11) hd_X4_valueAt gX4_crossings_X4_valueAt hP hl.1 dX4_crossings_48 rfl rfl ⟨Nat.le_of_ble_eq_true rfl, Nat.le_of_ble_eq_true rfl⟩ rfl rfl rfl (Nat.le_of_ble_eq_true rfl) ⟨Nat.zero_le _, Nat.zero_le _⟩ ?_
      refine lv_iload_n hx hb dX4_crossings_51 rfl (lv_at hl 2 rfl) ?_
      refine lv_icmp_lt (tgt := 59) hx hb dX4_crossings_52 (by decide) (fun c12 => ?_) (fun c12 => ?_)
      · have hq := q_if_t hq c12
        refine lv_iconst (v := 0) hx hb dX4_crossings_59 (by decide) ?_
        refine lv_aload_n hx hb dX4_crossings_60 rfl (lv_at hl 0 rfl) ?_
        refine lv_iload_n hx hb dX4_crossings_61 rfl (lv_at hl 1 rfl) ?_
        refine lv_iload hx hb dX4_crossings_62 (lv_at hl 4 rfl) ?_
        refine lv_iconst (v := 1) hx hb dX4_crossings_64 (by decide) ?_
        refine lv_isub hx hb dX4_crossings_65 ?_
        obtain ⟨r13, hh14, hq⟩ := q_bd hq
        refine roV (ci := 4) (As := [.int v1, .int (v4 - 1)]) (rest := [.int 0, .int v3]) X K (k_X4_valueAt l G g jo js jp ja jk jt jb un uy uw uq uz us up ua uk ut ub v1 (v4 - 1) _ hh14) hd_X4_valueAt gX4_crossings_X4_valueAt hP hl.1 dX4_crossings_66 rfl rfl ⟨Nat.le_of_ble_eq_true rfl, Nat.le_of_ble_eq_true rfl⟩ rfl rfl rfl (Nat.le_of_ble_eq_true rfl) ⟨Nat.zero_le _, Nat.zero_le _⟩ ?_
        refine lv_iload_n hx hb dX4_crossings_69 rfl (lv_at hl 2 rfl) ?_
        refine lv_icmp_lt (tgt := 77) hx hb dX4_crossings_70 (by decide) (fun c15 => ?_) (fun c15 => ?_)
        · have hq := q_if_t hq c15
          refine lv_iconst (v := 0) hx hb dX4_crossings_77 (by decide) ?_
          refine lv_icmp_ne (tgt := 85) hx hb dX4_crossings_78 (by decide) (fun h => absurd (by decide) h) (fun _ => ?_)
          refine lv_iconst (v := 0) hx hb dX4_crossings_81 (by decide) ?_
          refine lv_goto (tgt := 86) hx hb dX4_crossings_82 (by decide) ?_
          refine lv_iadd hx hb dX4_crossings_86 ?_
          refine lv_topi (fun x16 ex16 => ?_)
          have hq := q_let hq ex16
          refine lv_istore_n (lv' := [(3, .int x16), (0, .ref jo), (1, .int v1), (2, .int v2), (4, .int v4)]) hx hb dX4_crossings_87 rfl hl (by decide) rfl (fun ls hl => ?_)
          obtain ⟨x17, ex17⟩ : ∃ y : Int32, y = (v4 : Int32) + 1 := ⟨_, rfl⟩
          have hq := q_let hq ex17
          refine lv_iinc (v := x17) (lv' := [(4, .int x17), (3, .int x16), (0, .ref jo), (1, .int v1), (2, .int v2)]) hx hb dX4_crossings_88 hl (k := 4) rfl (by rw [ex17]; rfl) (by decide) rfl (fun ls hl => ?_)
          refine lv_goto (tgt := 35) hx hb dX4_crossings_91 (by decide) ?_
          exact ih x16 x17 hq _ _ hP hD hS ls (lv_sub hl [2, 3, 4, 1, 0] rfl)
        · have hq := q_if_f hq c15
          refine lv_iconst (v := 1) hx hb dX4_crossings_73 (by decide) ?_
          refine lv_goto (tgt := 78) hx hb dX4_crossings_74 (by decide) ?_
          refine lv_icmp_ne (tgt := 85) hx hb dX4_crossings_78 (by decide) (fun _ => ?_) (fun h => absurd h (by decide))
          refine lv_iconst (v := 1) hx hb dX4_crossings_85 (by decide) ?_
          refine lv_iadd hx hb dX4_crossings_86 ?_
          refine lv_topi (fun x18 ex18 => ?_)
          have hq := q_let hq ex18
          refine lv_istore_n (lv' := [(3, .int x18), (0, .ref jo), (1, .int v1), (2, .int v2), (4, .int v4)]) hx hb dX4_crossings_87 rfl hl (by decide) rfl (fun ls hl => ?_)
          obtain ⟨x19, ex19⟩ : ∃ y : Int32, y = (v4 : Int32) + 1 := ⟨_, rfl⟩
          have hq := q_let hq ex19
          refine lv_iinc (v := x19) (lv' := [(4, .int x19), (3, .int x18), (0, .ref jo), (1, .int v1), (2, .int v2)]) hx hb dX4_crossings_88 hl (k := 4) rfl (by rw [ex19]; rfl) (by decide) rfl (fun ls hl => ?_)
          refine lv_goto (tgt := 35) hx hb dX4_crossings_91 (by decide) ?_
          exact ih x18 x19 hq _ _ hP hD hS ls (lv_sub hl [2, 3, 4, 1, 0] rfl)
      · have hq := q_if_f hq c12
        refine lv_iconst (v := 1) hx hb dX4_crossings_55 (by decide) ?_
        refine lv_goto (tgt := 60) hx hb dX4_crossings_56 (by decide) ?_
        refine lv_aload_n hx hb dX4_crossings_60 rfl (lv_at hl 0 rfl) ?_
        refine lv_iload_n hx hb dX4_crossings_61 rfl (lv_at hl 1 rfl) ?_
        refine lv_iload hx hb dX4_crossings_62 (lv_at hl 4 rfl) ?_
        refine lv_iconst (v := 1) hx hb dX4_crossings_64 (by decide) ?_
        refine lv_isub hx hb dX4_crossings_65 ?_
        obtain ⟨r20, hh21, hq⟩ := q_bd hq
        refine roV (ci := 4) (As := [.int v1, .int (v4 - 1)]) (rest := [.int 1, .int v3]) X K (k_X4_valueAt l G g jo js jp ja jk jt jb un uy uw uq uz us up ua uk ut ub v1 (v4 - 1) _ hh21) hd_X4_valueAt gX4_crossings_X4_valueAt hP hl.1 dX4_crossings_66 rfl rfl ⟨Nat.le_of_ble_eq_true rfl, Nat.le_of_ble_eq_true rfl⟩ rfl rfl rfl (Nat.le_of_ble_eq_true rfl) ⟨Nat.zero_le _, Nat.zero_le _⟩ ?_
        refine lv_iload_n hx hb dX4_crossings_69 rfl (lv_at hl 2 rfl) ?_
        refine lv_icmp_lt (tgt := 77) hx hb dX4_crossings_70 (by decide) (fun c22 => ?_) (fun c22 => ?_)
        · have hq := q_if_t hq c22
          refine lv_iconst (v := 0) hx hb dX4_crossings_77 (by decide) ?_
          refine lv_icmp_ne (tgt := 85) hx hb dX4_crossings_78 (by decide) (fun _ => ?_) (fun h => absurd h (by decide))
          refine lv_iconst (v := 1) hx hb dX4_crossings_85 (by decide) ?_
          refine lv_iadd hx hb dX4_crossings_86 ?_
          refine lv_topi (fun x23 ex23 => ?_)
          have hq := q_let hq ex23
          refine lv_istore_n (lv' := [(3, .int x23), (0, .ref jo), (1, .int v1), (2, .int v2), (4, .int v4)]) hx hb dX4_crossings_87 rfl hl (by decide) rfl (fun ls hl => ?_)
          obtain ⟨x24, ex24⟩ : ∃ y : Int32, y = (v4 : Int32) + 1 := ⟨_, rfl⟩
          have hq := q_let hq ex24
          refine lv_iinc (v := x24) (lv' := [(4, .int x24), (3, .int x23), (0, .ref jo), (1, .int v1), (2, .int v2)]) hx hb dX4_crossings_88 hl (k := 4) rfl (by rw [ex24]; rfl) (by decide) rfl (fun ls hl => ?_)
          refine lv_goto (tgt := 35) hx hb dX4_crossings_91 (by decide) ?_
          exact ih x23 x24 hq _ _ hP hD hS ls (lv_sub hl [2, 3, 4, 1, 0] rfl)
        · have hq := q_if_f hq c22
          refine lv_iconst (v := 1) hx hb dX4_crossings_73 (by decide) ?_
          refine lv_goto (tgt := 78) hx hb dX4_crossings_74 (by decide) ?_
          refine lv_icmp_ne (tgt := 85) hx hb dX4_crossings_78 (by decide) (fun h => absurd (by decide) h) (fun _ => ?_)
          refine lv_iconst (v := 0) hx hb dX4_crossings_81 (by decide) ?_
          refine lv_goto (tgt := 86) hx hb dX4_crossings_82 (by decide) ?_
          refine lv_iadd hx hb dX4_crossings_86 ?_
          refine lv_topi (fun x25 ex25 => ?_)
          have hq := q_let hq ex25
          refine lv_istore_n (lv' := [(3, .int x25), (0, .ref jo), (1, .int v1), (2, .int v2), (4, .int v4)]) hx hb dX4_crossings_87 rfl hl (by decide) rfl (fun ls hl => ?_)
          obtain ⟨x26, ex26⟩ : ∃ y : Int32, y = (v4 : Int32) + 1 := ⟨_, rfl⟩
          have hq := q_let hq ex26
          refine lv_iinc (v := x26) (lv' := [(4, .int x26), (3, .int x25), (0, .ref jo), (1, .int v1), (2, .int v2)]) hx hb dX4_crossings_88 hl (k := 4) rfl (by rw [ex26]; rfl) (by decide) rfl (fun ls hl => ?_)
          refine lv_goto (tgt := 35) hx hb dX4_crossings_91 (by decide) ?_
          exact ih x25 x26 hq _ _ hP hD hS ls (lv_sub hl [2, 3, 4, 1, 0] rfl)
def F_X4_crossings (uw : Int32) (us : Nat → Int32) (p1 : Int32) (p2 : Int32) : Option (Int32 × Int32) := (F_X4_isCurve p1).bind fun r1 => if r1 = 0 then ((F_X4_fails uw 1).bind fun o14 => some (o14.1, o14.2)) else ((F_X4_in p2 (-99999) 99999).bind fun r4 => if r4 = 0 then ((F_X4_fails uw 2).bind fun o10 => some (o10.1, o10.2)) else (F_X4_crossings_35 uw us p1 p2 2000 0 1))
set_option maxHeartbeats 4000000 in
set_option maxRecDepth 100000 in
theorem k_X4_crossings (l : Launch) (G : va_G) (g : Nat → ClassId) (jo js jp ja jk jt jb : Nat) (un : Int32) (uy : Int32) (uw : Int32) (uq : Int32) (uz : Int32) (us : Nat → Int32) (up : Nat → Int32) (ua : Nat → Int32) (uk : Nat → Int32) (ut : Nat → Int32) (ub : Nat → Int32) (p1 : Int32) (p2 : Int32) (res : Int32 × Int32) (hq : F_X4_crossings uw us p1 p2 = some res) : rwC l yX4_crossings wsX4_crossings (rmF 4 110) G g [.ref jo, .int p1, .int p2] [(jo, .inr (4, [.ref js, .ref jp, .ref ja, .ref jk, .int un, .ref jt, .int uy, .int uw, .ref jb, .int uq, .int uz])), (js, .inl (g 0, 388, .inl us)), (jp, .inl (g 0, 1552, .inl up)), (ja, .inl (g 0, 388, .inl ua)), (jk, .inl (g 0, 97, .inl uk)), (jt, .inl (g 0, 150, .inl ut)), (jb, .inl (g 0, 1000, .inl ub))] (some (.int res.1)) [(jo, .inr (4, [.ref js, .ref jp, .ref ja, .ref jk, .int un, .ref jt, .int uy, .int res.2, .ref jb, .int uq, .int uz])), (js, .inl (g 0, 388, .inl us)), (jp, .inl (g 0, 1552, .inl up)), (ja, .inl (g 0, 388, .inl ua)), (jk, .inl (g 0, 97, .inl uk)), (jt, .inl (g 0, 150, .inl ut)), (jb, .inl (g 0, 1000, .inl ub))] := by
  refine rwC.of (cc := cX4_crossings) (maxL := 5) (ret := (some .int)) (by decide) rfl (Nat.le_of_ble_eq_true rfl) ?_
  intro p e s m below meth c ls A X K hA hP hD hS hl
  obtain ⟨hx, hb, hml, hr, hown, hts, hk⟩ := id X
  have hl : lv_has ls 5 [(0, .ref jo), (1, .int p1), (2, .int p2)] := hl
  unfold F_X4_crossings at hq
  refine lv_iload_n hx hb dX4_crossings_0 rfl (lv_at hl 1 rfl) ?_
  obtain ⟨r1, hh2, hq⟩ := q_bd hq
  refine roS (As := [.int p1]) (rest := []) X K (k_X4_isCurve l G g p1 _ hh2) hd_X4_isCurve gX4_crossings_X4_isCurve (hP.sub [] rfl) hl.1 dX4_crossings_1 rfl rfl ⟨Nat.le_of_ble_eq_true rfl, Nat.le_of_ble_eq_true rfl⟩ rfl (Nat.le_of_ble_eq_true rfl) ⟨Nat.zero_le _, Nat.zero_le _⟩ ?_
  refine lv_if_ne (tgt := 13) hx hb dX4_crossings_4 (by decide) (fun c3 => ?_) (fun c3 => ?_)
  · have hq := q_if_f hq c3
    refine lv_iload_n hx hb dX4_crossings_13 rfl (lv_at hl 2 rfl) ?_
    refine lv_ldc (v := (-99999)) hx hb hown (hts _ (List.mem_of_getElem? (i := 1) rfl)) dX4_crossings_14 ?_
    refine lv_ldc (v := 99999) hx hb hown (hts _ (List.mem_of_getElem? (i := 2) rfl)) dX4_crossings_16 ?_
    obtain ⟨r4, hh5, hq⟩ := q_bd hq
    refine roS (As := [.int p2, .int (-99999), .int 99999]) (rest := []) X K (k_X4_in l G g p2 (-99999) 99999 _ hh5) hd_X4_in gX4_crossings_X4_in (hP.sub [] rfl) hl.1 dX4_crossings_18 rfl rfl ⟨Nat.le_of_ble_eq_true rfl, Nat.le_of_ble_eq_true rfl⟩ rfl (Nat.le_of_ble_eq_true rfl) ⟨Nat.zero_le _, Nat.zero_le _⟩ ?_
    refine lv_if_ne (tgt := 30) hx hb dX4_crossings_21 (by decide) (fun c6 => ?_) (fun c6 => ?_)
    · have hq := q_if_f hq c6
      refine lv_iconst (v := 0) hx hb dX4_crossings_30 (by decide) ?_
      refine lv_istore_n (lv' := [(3, .int 0), (0, .ref jo), (1, .int p1), (2, .int p2)]) hx hb dX4_crossings_31 rfl hl (by decide) rfl (fun ls hl => ?_)
      refine lv_iconst (v := 1) hx hb dX4_crossings_32 (by decide) ?_
      refine lv_istore (lv' := [(4, .int 1), (3, .int 0), (0, .ref jo), (1, .int p1), (2, .int p2)]) hx hb dX4_crossings_33 hl (by decide) rfl (fun ls hl => ?_)
      exact w_X4_crossings_35 X K hA jo js jp ja jk jt jb un uy uq uz up ua uk ut ub uw us p1 p2 _ 2000 0 1 hq _ _ hP hD hS ls (lv_sub hl [2, 3, 4, 1, 0] rfl)
    · have hq := q_if_t hq c6
      refine lv_aload_n hx hb dX4_crossings_24 rfl (lv_at hl 0 rfl) ?_
      refine lv_iconst (v := 2) hx hb dX4_crossings_25 (by decide) ?_
      obtain ⟨⟨r7, y8⟩, hh9, hq⟩ := q_bd hq
      refine rwV (ci := 4) (wr := []) (As := [.int 2]) (rest := []) X K (k_X4_fails l G g jo js jp ja jk jt jb un uy uw uq uz us up ua uk ut ub 2 _ hh9) hd_X4_fails gX4_crossings_X4_fails hP hD hS hA [0, 1, 2, 3, 4, 5, 6] [] rfl rfl ⟨by decide, by decide, by decide⟩ hl.1 dX4_crossings_26 rfl rfl ⟨Nat.le_of_ble_eq_true rfl, Nat.le_of_ble_eq_true rfl⟩ rfl rfl rfl (Nat.le_of_ble_eq_true rfl) ⟨Nat.zero_le _, Nat.zero_le _⟩ (fun H locs hP hD hS => ?_)
      have hP : va_P G vwCl [(jo, .inr (4, [.ref js, .ref jp, .ref ja, .ref jk, .int un, .ref jt, .int uy, .int y8, .ref jb, .int uq, .int uz])), (js, .inl (g 0, 388, .inl us)), (jp, .inl (g 0, 1552, .inl up)), (ja, .inl (g 0, 388, .inl ua)), (jk, .inl (g 0, 97, .inl uk)), (jt, .inl (g 0, 150, .inl ut)), (jb, .inl (g 0, 1000, .inl ub))] H := hP
      have hD : va_D A [(jo, .inr (4, [.ref js, .ref jp, .ref ja, .ref jk, .int un, .ref jt, .int uy, .int y8, .ref jb, .int uq, .int uz])), (js, .inl (g 0, 388, .inl us)), (jp, .inl (g 0, 1552, .inl up)), (ja, .inl (g 0, 388, .inl ua)), (jk, .inl (g 0, 97, .inl uk)), (jt, .inl (g 0, 150, .inl ut)), (jb, .inl (g 0, 1000, .inl ub))] := hD
      obtain rfl := q_rt hq
      exact rw_iret hx hb hr hk hP hD hS dX4_crossings_29
  · have hq := q_if_t hq c3
    refine lv_aload_n hx hb dX4_crossings_7 rfl (lv_at hl 0 rfl) ?_
    refine lv_iconst (v := 1) hx hb dX4_crossings_8 (by decide) ?_
    obtain ⟨⟨r11, y12⟩, hh13, hq⟩ := q_bd hq
    refine rwV (ci := 4) (wr := []) (As := [.int 1]) (rest := []) X K (k_X4_fails l G g jo js jp ja jk jt jb un uy uw uq uz us up ua uk ut ub 1 _ hh13) hd_X4_fails gX4_crossings_X4_fails hP hD hS hA [0, 1, 2, 3, 4, 5, 6] [] rfl rfl ⟨by decide, by decide, by decide⟩ hl.1 dX4_crossings_9 rfl rfl ⟨Nat.le_of_ble_eq_true rfl, Nat.le_of_ble_eq_true rfl⟩ rfl rfl rfl (Nat.le_of_ble_eq_true rfl) ⟨Nat.zero_le _, Nat.zero_le _⟩ (fun H locs hP hD hS => ?_)
    have hP : va_P G vwCl [(jo, .inr (4, [.ref js, .ref jp, .ref ja, .ref jk, .int un, .ref jt, .int uy, .int y12, .ref jb, .int uq, .int uz])), (js, .inl (g 0, 388, .inl us)), (jp, .inl (g 0, 1552, .inl up)), (ja, .inl (g 0, 388, .inl ua)), (jk, .inl (g 0, 97, .inl uk)), (jt, .inl (g 0, 150, .inl ut)), (jb, .inl (g 0, 1000, .inl ub))] H := hP
    have hD : va_D A [(jo, .inr (4, [.ref js, .ref jp, .ref ja, .ref jk, .int un, .ref jt, .int uy, .int y12, .ref jb, .int uq, .int uz])), (js, .inl (g 0, 388, .inl us)), (jp, .inl (g 0, 1552, .inl up)), (ja, .inl (g 0, 388, .inl ua)), (jk, .inl (g 0, 97, .inl uk)), (jt, .inl (g 0, 150, .inl ut)), (jb, .inl (g 0, 1000, .inl ub))] := hD
    obtain rfl := q_rt hq
    exact rw_iret hx hb hr hk hP hD hS dX4_crossings_12
def F_X4_difference_25 (uw : Int32) (us : Nat → Int32) (v1 : Int32) (v2 : Int32) : Nat → Int32 → Int32 → Option (Int32 × Int32)
  | 0, _, _ => none
  | n + 1, v3, v4 => if (999 : Int32) < v4 then ((F_X4_tells uw v3).bind fun o9 => some (o9.1, o9.2)) else ((F_X4_valueAt us v1 v4).bind fun r10 => (F_X4_valueAt us v2 v4).bind fun r12 => (F_X4_apart r10 r12).bind fun r14 => if r14 ≤ v3 then (vlet ((v4 : Int32) + 1) fun x17 => F_X4_difference_25 uw us v1 v2 n v3 x17) else (vlet ((v4 : Int32) + 1) fun x18 => F_X4_difference_25 uw us v1 v2 n r14 x18))
set_option maxHeartbeats 4000000 in
set_option maxRecDepth 100000 in
theorem w_X4_difference_25 {p : Program} {l : Launch} {e : Env} {s : State} {m : MethodId} {args : Array Value} {below : List Frame} {meth : Method} {c : Code} {G : va_G} {g : Nat → ClassId} (X : cx p s m args meth c cX4_difference 6 (some .int) RX4 wsX4_difference) (K : amb G g s) {A : Nat → Prop} (hA : ∀ q : Nat, s.heap.size ≤ q → A q) (jo js jp ja jk jt jb : Nat) (un : Int32) (uy : Int32) (uq : Int32) (uz : Int32) (up : Nat → Int32) (ua : Nat → Int32) (uk : Nat → Int32) (ut : Nat → Int32) (ub : Nat → Int32) (uw : Int32) (us : Nat → Int32) (v1 : Int32) (v2 : Int32) (res : Int32 × Int32) : ∀ (n : Nat) (v3 : Int32) (v4 : Int32), F_X4_difference_25 uw us v1 v2 n v3 v4 = some res → ∀ (H : Heap) (locs : List Loc), va_P G vwCl [(jo, .inr (4, [.ref js, .ref jp, .ref ja, .ref jk, .int un, .ref jt, .int uy, .int uw, .ref jb, .int uq, .int uz])), (js, .inl (g 0, 388, .inl us)), (jp, .inl (g 0, 1552, .inl up)), (ja, .inl (g 0, 388, .inl ua)), (jk, .inl (g 0, 97, .inl uk)), (jt, .inl (g 0, 150, .inl ut)), (jb, .inl (g 0, 1000, .inl ub))] H → va_D A [(jo, .inr (4, [.ref js, .ref jp, .ref ja, .ref jk, .int un, .ref jt, .int uy, .int uw, .ref jb, .int uq, .int uz])), (js, .inl (g 0, 388, .inl us)), (jp, .inl (g 0, 1552, .inl up)), (ja, .inl (g 0, 388, .inl ua)), (jk, .inl (g 0, 97, .inl uk)), (jt, .inl (g 0, 150, .inl ut)), (jb, .inl (g 0, 1000, .inl ub))] → va_S A s.heap H locs → ∀ (ls : Array Slot), lv_has ls 6 [(0, .ref jo), (1, .int v1), (2, .int v2), (3, .int v3), (4, .int v4)] → W p l e (rmF 4 110) s m args below meth c H locs 0 0 (rwM G A below (some (.int res.1)) [(jo, .inr (4, [.ref js, .ref jp, .ref ja, .ref jk, .int un, .ref jt, .int uy, .int res.2, .ref jb, .int uq, .int uz])), (js, .inl (g 0, 388, .inl us)), (jp, .inl (g 0, 1552, .inl up)), (ja, .inl (g 0, 388, .inl ua)), (jk, .inl (g 0, 97, .inl uk)), (jt, .inl (g 0, 150, .inl ut)), (jb, .inl (g 0, 1000, .inl ub))] args s) (F0 m 25 ls []) := by
  obtain ⟨hx, hb, hml, hr, hown, hts, hk⟩ := id X
  intro n
  induction n with
  | zero => intro v3 v4 hq; exact q_no hq
  | succ n ih =>
    intro v3 v4 hq H locs hP hD hS ls hl
    rw [F_X4_difference_25] at hq
    refine lv_iload hx hb dX4_difference_25 (lv_at hl 4 rfl) ?_
    refine lv_sipush (v := 999) hx hb dX4_difference_27 (by decide) ?_
    refine lv_icmp_gt (tgt := 71) hx hb dX4_difference_30 (by decide) (fun c5 => ?_) (fun c5 => ?_)
    · have hq := q_if_t hq c5
      refine lv_aload_n hx hb dX4_difference_71 rfl (lv_at hl 0 rfl) ?_
      refine lv_iload_n hx hb dX4_difference_72 rfl (lv_at hl 3 rfl) ?_
      obtain ⟨⟨r6, y7⟩, hh8, hq⟩ := q_bd hq
      refine rwV (ci := 4) (wr := []) (As := [.int v3]) (rest := []) X K (k_X4_tells l G g jo js jp ja jk jt jb un uy uw uq uz us up ua uk ut ub v3 _ hh8) hd_X4_tells gX4_difference_X4_tells hP hD hS hA [0, 1, 2, 3, 4, 5, 6] [] rfl rfl ⟨by decide, by decide, by decide⟩ hl.1 dX4_difference_73 rfl rfl ⟨Nat.le_of_ble_eq_true rfl, Nat.le_of_ble_eq_true rfl⟩ rfl rfl rfl (Nat.le_of_ble_eq_true rfl) ⟨Nat.zero_le _, Nat.zero_le _⟩ (fun H locs hP hD hS => ?_)
      have hP : va_P G vwCl [(jo, .inr (4, [.ref js, .ref jp, .ref ja, .ref jk, .int un, .ref jt, .int uy, .int y7, .ref jb, .int uq, .int uz])), (js, .inl (g 0, 388, .inl us)), (jp, .inl (g 0, 1552, .inl up)), (ja, .inl (g 0, 388, .inl ua)), (jk, .inl (g 0, 97, .inl uk)), (jt, .inl (g 0, 150, .inl ut)), (jb, .inl (g 0, 1000, .inl ub))] H := hP
      have hD : va_D A [(jo, .inr (4, [.ref js, .ref jp, .ref ja, .ref jk, .int un, .ref jt, .int uy, .int y7, .ref jb, .int uq, .int uz])), (js, .inl (g 0, 388, .inl us)), (jp, .inl (g 0, 1552, .inl up)), (ja, .inl (g 0, 388, .inl ua)), (jk, .inl (g 0, 97, .inl uk)), (jt, .inl (g 0, 150, .inl ut)), (jb, .inl (g 0, 1000, .inl ub))] := hD
      obtain rfl := q_rt hq
      exact rw_iret hx hb hr hk hP hD hS dX4_difference_76
    · have hq := q_if_f hq c5
      refine lv_aload_n hx hb dX4_difference_33 rfl (lv_at hl 0 rfl) ?_
      refine lv_iload_n hx hb dX4_difference_34 rfl (lv_at hl 1 rfl) ?_
      refine lv_iload hx hb dX4_difference_35 (lv_at hl 4 rfl) ?_
      obtain ⟨r10, hh11, hq⟩ := q_bd hq
      refine roV (ci := 4) (As := [.int v1, .int v4]) (rest := []) X K (k_X4_valueAt l G g jo js jp ja jk jt jb un uy uw uq uz us up ua uk ut ub v1 v4 _ hh11) hd_X4_valueAt gX4_difference_X4_valueAt hP hl.1 dX4_difference_37 rfl rfl ⟨Nat.le_of_ble_eq_true rfl, Nat.le_of_ble_eq_true rfl⟩ rfl rfl rfl (Nat.le_of_ble_eq_true rfl) ⟨Nat.zero_le _, Nat.zero_le _⟩ ?_
      refine lv_aload_n hx hb dX4_difference_40 rfl (lv_at hl 0 rfl) ?_
      refine lv_iload_n hx hb dX4_difference_41 rfl (lv_at hl 2 rfl) ?_
      refine lv_iload hx hb dX4_difference_42 (lv_at hl 4 rfl) ?_
      obtain ⟨r12, hh13, hq⟩ := q_bd hq
      refine roV (ci := 4) (As := [.int v2, .int v4]) (rest := [.int r10]) X K (k_X4_valueAt l G g jo js jp ja jk jt jb un uy uw uq uz us up ua uk ut ub v2 v4 _ hh13) hd_X4_valueAt gX4_difference_X4_valueAt hP hl.1 dX4_difference_44 rfl rfl ⟨Nat.le_of_ble_eq_true rfl, Nat.le_of_ble_eq_true rfl⟩ rfl rfl rfl (Nat.le_of_ble_eq_true rfl) ⟨Nat.zero_le _, Nat.zero_le _⟩ ?_
      obtain ⟨r14, hh15, hq⟩ := q_bd hq
      refine roS (As := [.int r10, .int r12]) (rest := []) X K (k_X4_apart l G g r10 r12 _ hh15) hd_X4_apart gX4_difference_X4_apart (hP.sub [] rfl) hl.1 dX4_difference_47 rfl rfl ⟨Nat.le_of_ble_eq_true rfl, Nat.le_of_ble_eq_true rfl⟩ rfl (Nat.le_of_ble_eq_true rfl) ⟨Nat.zero_le _, Nat.zero_le _⟩ ?_
      refine lv_istore (lv' := [(5, .int r14), (0, .ref jo), (1, .int v1), (2, .int v2), (3, .int v3), (4, .int v4)]) hx hb dX4_difference_50 hl (by decide) rfl (fun ls hl => ?_)
      refine lv_iload hx hb dX4_difference_52 (lv_at hl 0 rfl) ?_
      refine lv_iload_n hx hb dX4_difference_54 rfl (lv_at hl 4 rfl) ?_
      refine lv_icmp_le (tgt := 63) hx hb dX4_difference_55 (by decide) (fun c16 => ?_) (fun c16 => ?_)
      · have hq := q_if_t hq c16
        refine lv_iload_n hx hb dX4_difference_63 rfl (lv_at hl 4 rfl) ?_
        refine lv_istore_n (lv' := [(3, .int v3), (5, .int r14), (0, .ref jo), (1, .int v1), (2, .int v2), (4, .int v4)]) hx hb dX4_difference_64 rfl hl (by decide) rfl (fun ls hl => ?_)
        obtain ⟨x17, ex17⟩ : ∃ y : Int32, y = (v4 : Int32) + 1 := ⟨_, rfl⟩
        have hq := q_let hq ex17
        refine lv_iinc (v := x17) (lv' := [(4, .int x17), (3, .int v3), (5, .int r14), (0, .ref jo), (1, .int v1), (2, .int v2)]) hx hb dX4_difference_65 hl (k := 5) rfl (by rw [ex17]; rfl) (by decide) rfl (fun ls hl => ?_)
        refine lv_goto (tgt := 25) hx hb dX4_difference_68 (by decide) ?_
        exact ih v3 x17 hq _ _ hP hD hS ls (lv_sub hl [3, 4, 5, 1, 0] rfl)
      · have hq := q_if_f hq c16
        refine lv_iload hx hb dX4_difference_58 (lv_at hl 0 rfl) ?_
        refine lv_goto (tgt := 64) hx hb dX4_difference_60 (by decide) ?_
        refine lv_istore_n (lv' := [(3, .int r14), (5, .int r14), (0, .ref jo), (1, .int v1), (2, .int v2), (4, .int v4)]) hx hb dX4_difference_64 rfl hl (by decide) rfl (fun ls hl => ?_)
        obtain ⟨x18, ex18⟩ : ∃ y : Int32, y = (v4 : Int32) + 1 := ⟨_, rfl⟩
        have hq := q_let hq ex18
        refine lv_iinc (v := x18) (lv' := [(4, .int x18), (3, .int r14), (5, .int r14), (0, .ref jo), (1, .int v1), (2, .int v2)]) hx hb dX4_difference_65 hl (k := 5) rfl (by rw [ex18]; rfl) (by decide) rfl (fun ls hl => ?_)
        refine lv_goto (tgt := 25) hx hb dX4_difference_68 (by decide) ?_
        exact ih r14 x18 hq _ _ hP hD hS ls (lv_sub hl [3, 4, 5, 1, 0] rfl)
def F_X4_difference (uw : Int32) (us : Nat → Int32) (p1 : Int32) (p2 : Int32) : Option (Int32 × Int32) := (F_X4_isCurve p1).bind fun r1 => if r1 = 0 then ((F_X4_fails uw 1).bind fun o7 => some (o7.1, o7.2)) else ((F_X4_isCurve p2).bind fun r8 => if r8 = 0 then ((F_X4_fails uw 1).bind fun o14 => some (o14.1, o14.2)) else (F_X4_difference_25 uw us p1 p2 2000 0 0))
set_option maxHeartbeats 4000000 in
set_option maxRecDepth 100000 in
theorem k_X4_difference (l : Launch) (G : va_G) (g : Nat → ClassId) (jo js jp ja jk jt jb : Nat) (un : Int32) (uy : Int32) (uw : Int32) (uq : Int32) (uz : Int32) (us : Nat → Int32) (up : Nat → Int32) (ua : Nat → Int32) (uk : Nat → Int32) (ut : Nat → Int32) (ub : Nat → Int32) (p1 : Int32) (p2 : Int32) (res : Int32 × Int32) (hq : F_X4_difference uw us p1 p2 = some res) : rwC l yX4_difference wsX4_difference (rmF 4 110) G g [.ref jo, .int p1, .int p2] [(jo, .inr (4, [.ref js, .ref jp, .ref ja, .ref jk, .int un, .ref jt, .int uy, .int uw, .ref jb, .int uq, .int uz])), (js, .inl (g 0, 388, .inl us)), (jp, .inl (g 0, 1552, .inl up)), (ja, .inl (g 0, 388, .inl ua)), (jk, .inl (g 0, 97, .inl uk)), (jt, .inl (g 0, 150, .inl ut)), (jb, .inl (g 0, 1000, .inl ub))] (some (.int res.1)) [(jo, .inr (4, [.ref js, .ref jp, .ref ja, .ref jk, .int un, .ref jt, .int uy, .int res.2, .ref jb, .int uq, .int uz])), (js, .inl (g 0, 388, .inl us)), (jp, .inl (g 0, 1552, .inl up)), (ja, .inl (g 0, 388, .inl ua)), (jk, .inl (g 0, 97, .inl uk)), (jt, .inl (g 0, 150, .inl ut)), (jb, .inl (g 0, 1000, .inl ub))] := by
  refine rwC.of (cc := cX4_difference) (maxL := 6) (ret := (some .int)) (by decide) rfl (Nat.le_of_ble_eq_true rfl) ?_
  intro p e s m below meth c ls A X K hA hP hD hS hl
  obtain ⟨hx, hb, hml, hr, hown, hts, hk⟩ := id X
  have hl : lv_has ls 6 [(0, .ref jo), (1, .int p1), (2, .int p2)] := hl
  unfold F_X4_difference at hq
  refine lv_iload_n hx hb dX4_difference_0 rfl (lv_at hl 1 rfl) ?_
  obtain ⟨r1, hh2, hq⟩ := q_bd hq
  refine roS (As := [.int p1]) (rest := []) X K (k_X4_isCurve l G g p1 _ hh2) hd_X4_isCurve gX4_difference_X4_isCurve (hP.sub [] rfl) hl.1 dX4_difference_1 rfl rfl ⟨Nat.le_of_ble_eq_true rfl, Nat.le_of_ble_eq_true rfl⟩ rfl (Nat.le_of_ble_eq_true rfl) ⟨Nat.zero_le _, Nat.zero_le _⟩ ?_
  refine lv_if_eq (tgt := 14) hx hb dX4_difference_4 (by decide) (fun c3 => ?_) (fun c3 => ?_)
  · have hq := q_if_t hq c3
    refine lv_aload_n hx hb dX4_difference_14 rfl (lv_at hl 0 rfl) ?_
    refine lv_iconst (v := 1) hx hb dX4_difference_15 (by decide) ?_
    obtain ⟨⟨r4, y5⟩, hh6, hq⟩ := q_bd hq
    refine rwV (ci := 4) (wr := []) (As := [.int 1]) (rest := []) X K (k_X4_fails l G g jo js jp ja jk jt jb un uy uw uq uz us up ua uk ut ub 1 _ hh6) hd_X4_fails gX4_difference_X4_fails hP hD hS hA [0, 1, 2, 3, 4, 5, 6] [] rfl rfl ⟨by decide, by decide, by decide⟩ hl.1 dX4_difference_16 rfl rfl ⟨Nat.le_of_ble_eq_true rfl, Nat.le_of_ble_eq_true rfl⟩ rfl rfl rfl (Nat.le_of_ble_eq_true rfl) ⟨Nat.zero_le _, Nat.zero_le _⟩ (fun H locs hP hD hS => ?_)
    have hP : va_P G vwCl [(jo, .inr (4, [.ref js, .ref jp, .ref ja, .ref jk, .int un, .ref jt, .int uy, .int y5, .ref jb, .int uq, .int uz])), (js, .inl (g 0, 388, .inl us)), (jp, .inl (g 0, 1552, .inl up)), (ja, .inl (g 0, 388, .inl ua)), (jk, .inl (g 0, 97, .inl uk)), (jt, .inl (g 0, 150, .inl ut)), (jb, .inl (g 0, 1000, .inl ub))] H := hP
    have hD : va_D A [(jo, .inr (4, [.ref js, .ref jp, .ref ja, .ref jk, .int un, .ref jt, .int uy, .int y5, .ref jb, .int uq, .int uz])), (js, .inl (g 0, 388, .inl us)), (jp, .inl (g 0, 1552, .inl up)), (ja, .inl (g 0, 388, .inl ua)), (jk, .inl (g 0, 97, .inl uk)), (jt, .inl (g 0, 150, .inl ut)), (jb, .inl (g 0, 1000, .inl ub))] := hD
    obtain rfl := q_rt hq
    exact rw_iret hx hb hr hk hP hD hS dX4_difference_19
  · have hq := q_if_f hq c3
    refine lv_iload_n hx hb dX4_difference_7 rfl (lv_at hl 2 rfl) ?_
    obtain ⟨r8, hh9, hq⟩ := q_bd hq
    refine roS (As := [.int p2]) (rest := []) X K (k_X4_isCurve l G g p2 _ hh9) hd_X4_isCurve gX4_difference_X4_isCurve (hP.sub [] rfl) hl.1 dX4_difference_8 rfl rfl ⟨Nat.le_of_ble_eq_true rfl, Nat.le_of_ble_eq_true rfl⟩ rfl (Nat.le_of_ble_eq_true rfl) ⟨Nat.zero_le _, Nat.zero_le _⟩ ?_
    refine lv_if_ne (tgt := 20) hx hb dX4_difference_11 (by decide) (fun c10 => ?_) (fun c10 => ?_)
    · have hq := q_if_f hq c10
      refine lv_iconst (v := 0) hx hb dX4_difference_20 (by decide) ?_
      refine lv_istore_n (lv' := [(3, .int 0), (0, .ref jo), (1, .int p1), (2, .int p2)]) hx hb dX4_difference_21 rfl hl (by decide) rfl (fun ls hl => ?_)
      refine lv_iconst (v := 0) hx hb dX4_difference_22 (by decide) ?_
      refine lv_istore (lv' := [(4, .int 0), (3, .int 0), (0, .ref jo), (1, .int p1), (2, .int p2)]) hx hb dX4_difference_23 hl (by decide) rfl (fun ls hl => ?_)
      exact w_X4_difference_25 X K hA jo js jp ja jk jt jb un uy uq uz up ua uk ut ub uw us p1 p2 _ 2000 0 0 hq _ _ hP hD hS ls (lv_sub hl [2, 3, 4, 1, 0] rfl)
    · have hq := q_if_t hq c10
      refine lv_aload_n hx hb dX4_difference_14 rfl (lv_at hl 0 rfl) ?_
      refine lv_iconst (v := 1) hx hb dX4_difference_15 (by decide) ?_
      obtain ⟨⟨r11, y12⟩, hh13, hq⟩ := q_bd hq
      refine rwV (ci := 4) (wr := []) (As := [.int 1]) (rest := []) X K (k_X4_fails l G g jo js jp ja jk jt jb un uy uw uq uz us up ua uk ut ub 1 _ hh13) hd_X4_fails gX4_difference_X4_fails hP hD hS hA [0, 1, 2, 3, 4, 5, 6] [] rfl rfl ⟨by decide, by decide, by decide⟩ hl.1 dX4_difference_16 rfl rfl ⟨Nat.le_of_ble_eq_true rfl, Nat.le_of_ble_eq_true rfl⟩ rfl rfl rfl (Nat.le_of_ble_eq_true rfl) ⟨Nat.zero_le _, Nat.zero_le _⟩ (fun H locs hP hD hS => ?_)
      have hP : va_P G vwCl [(jo, .inr (4, [.ref js, .ref jp, .ref ja, .ref jk, .int un, .ref jt, .int uy, .int y12, .ref jb, .int uq, .int uz])), (js, .inl (g 0, 388, .inl us)), (jp, .inl (g 0, 1552, .inl up)), (ja, .inl (g 0, 388, .inl ua)), (jk, .inl (g 0, 97, .inl uk)), (jt, .inl (g 0, 150, .inl ut)), (jb, .inl (g 0, 1000, .inl ub))] H := hP
      have hD : va_D A [(jo, .inr (4, [.ref js, .ref jp, .ref ja, .ref jk, .int un, .ref jt, .int uy, .int y12, .ref jb, .int uq, .int uz])), (js, .inl (g 0, 388, .inl us)), (jp, .inl (g 0, 1552, .inl up)), (ja, .inl (g 0, 388, .inl ua)), (jk, .inl (g 0, 97, .inl uk)), (jt, .inl (g 0, 150, .inl ut)), (jb, .inl (g 0, 1000, .inl ub))] := hD
      obtain rfl := q_rt hq
      exact rw_iret hx hb hr hk hP hD hS dX4_difference_19
def F_X4_error (uw : Int32) (us : Nat → Int32) (uk : Nat → Int32) (ub : Nat → Int32) (p1 : Int32) (p2 : Int32) : Option (Int32 × Int32 × (Nat → Int32) × (Nat → Int32) × (Nat → Int32)) := (F_X4_isKey us p1 p2).bind fun r1 => if r1 = 0 then ((F_X4_fails uw 1).bind fun o18 => some (o18.1, o18.2, us, uk, ub)) else ((F_X4_bakes us ub p1).bind fun y4 => (F_X4_errorOf us uk y4 p1 p2).bind fun o10 => (F_X4_tells uw o10.1).bind fun o14 => some (o14.1, o14.2, o10.2.1, o10.2.2, y4))
set_option maxHeartbeats 4000000 in
set_option maxRecDepth 100000 in
theorem k_X4_error (l : Launch) (G : va_G) (g : Nat → ClassId) (jo js jp ja jk jt jb : Nat) (un : Int32) (uy : Int32) (uw : Int32) (uq : Int32) (uz : Int32) (us : Nat → Int32) (up : Nat → Int32) (ua : Nat → Int32) (uk : Nat → Int32) (ut : Nat → Int32) (ub : Nat → Int32) (p1 : Int32) (p2 : Int32) (res : Int32 × Int32 × (Nat → Int32) × (Nat → Int32) × (Nat → Int32)) (hq : F_X4_error uw us uk ub p1 p2 = some res) : rwC l yX4_error wsX4_error (rmF 5 135) G g [.ref jo, .int p1, .int p2] [(jo, .inr (4, [.ref js, .ref jp, .ref ja, .ref jk, .int un, .ref jt, .int uy, .int uw, .ref jb, .int uq, .int uz])), (js, .inl (g 0, 388, .inl us)), (jp, .inl (g 0, 1552, .inl up)), (ja, .inl (g 0, 388, .inl ua)), (jk, .inl (g 0, 97, .inl uk)), (jt, .inl (g 0, 150, .inl ut)), (jb, .inl (g 0, 1000, .inl ub))] (some (.int res.1)) [(jo, .inr (4, [.ref js, .ref jp, .ref ja, .ref jk, .int un, .ref jt, .int uy, .int res.2.1, .ref jb, .int uq, .int uz])), (js, .inl (g 0, 388, .inl res.2.2.1)), (jp, .inl (g 0, 1552, .inl up)), (ja, .inl (g 0, 388, .inl ua)), (jk, .inl (g 0, 97, .inl res.2.2.2.1)), (jt, .inl (g 0, 150, .inl ut)), (jb, .inl (g 0, 1000, .inl res.2.2.2.2))] := by
  refine rwC.of (cc := cX4_error) (maxL := 3) (ret := (some .int)) (by decide) rfl (Nat.le_of_ble_eq_true rfl) ?_
  intro p e s m below meth c ls A X K hA hP hD hS hl
  obtain ⟨hx, hb, hml, hr, hown, hts, hk⟩ := id X
  have hl : lv_has ls 3 [(0, .ref jo), (1, .int p1), (2, .int p2)] := hl
  unfold F_X4_error at hq
  refine lv_aload_n hx hb dX4_error_0 rfl (lv_at hl 0 rfl) ?_
  refine lv_iload_n hx hb dX4_error_1 rfl (lv_at hl 1 rfl) ?_
  refine lv_iload_n hx hb dX4_error_2 rfl (lv_at hl 2 rfl) ?_
  obtain ⟨r1, hh2, hq⟩ := q_bd hq
  refine roV (ci := 4) (As := [.int p1, .int p2]) (rest := []) X K (k_X4_isKey l G g jo js jp ja jk jt jb un uy uw uq uz us up ua uk ut ub p1 p2 _ hh2) hd_X4_isKey gX4_error_X4_isKey hP hl.1 dX4_error_3 rfl rfl ⟨Nat.le_of_ble_eq_true rfl, Nat.le_of_ble_eq_true rfl⟩ rfl rfl rfl (Nat.le_of_ble_eq_true rfl) ⟨Nat.zero_le _, Nat.zero_le _⟩ ?_
  refine lv_if_ne (tgt := 15) hx hb dX4_error_6 (by decide) (fun c3 => ?_) (fun c3 => ?_)
  · have hq := q_if_f hq c3
    refine lv_aload_n hx hb dX4_error_15 rfl (lv_at hl 0 rfl) ?_
    refine lv_iload_n hx hb dX4_error_16 rfl (lv_at hl 1 rfl) ?_
    obtain ⟨y4, hh5, hq⟩ := q_bd hq
    refine rwV (ci := 4) (wr := []) (As := [.int p1]) (rest := []) X K (k_X4_bakes l G g jo js jp ja jk jt jb un uy uw uq uz us up ua uk ut ub p1 _ hh5) hd_X4_bakes gX4_error_X4_bakes hP hD hS hA [0, 1, 2, 3, 4, 5, 6] [] rfl rfl ⟨by decide, by decide, by decide⟩ hl.1 dX4_error_17 rfl rfl ⟨Nat.le_of_ble_eq_true rfl, Nat.le_of_ble_eq_true rfl⟩ rfl rfl rfl (Nat.le_of_ble_eq_true rfl) ⟨Nat.zero_le _, Nat.zero_le _⟩ (fun H locs hP hD hS => ?_)
    have hP : va_P G vwCl [(jo, .inr (4, [.ref js, .ref jp, .ref ja, .ref jk, .int un, .ref jt, .int uy, .int uw, .ref jb, .int uq, .int uz])), (js, .inl (g 0, 388, .inl us)), (jp, .inl (g 0, 1552, .inl up)), (ja, .inl (g 0, 388, .inl ua)), (jk, .inl (g 0, 97, .inl uk)), (jt, .inl (g 0, 150, .inl ut)), (jb, .inl (g 0, 1000, .inl y4))] H := hP
    have hD : va_D A [(jo, .inr (4, [.ref js, .ref jp, .ref ja, .ref jk, .int un, .ref jt, .int uy, .int uw, .ref jb, .int uq, .int uz])), (js, .inl (g 0, 388, .inl us)), (jp, .inl (g 0, 1552, .inl up)), (ja, .inl (g 0, 388, .inl ua)), (jk, .inl (g 0, 97, .inl uk)), (jt, .inl (g 0, 150, .inl ut)), (jb, .inl (g 0, 1000, .inl y4))] := hD
    refine lv_aload_n hx hb dX4_error_20 rfl (lv_at hl 0 rfl) ?_
    refine lv_aload_n hx hb dX4_error_21 rfl (lv_at hl 0 rfl) ?_
    refine lv_iload_n hx hb dX4_error_22 rfl (lv_at hl 1 rfl) ?_
    refine lv_iload_n hx hb dX4_error_23 rfl (lv_at hl 2 rfl) ?_
    obtain ⟨⟨r6, y7, y8⟩, hh9, hq⟩ := q_bd hq
    refine rwV (ci := 4) (wr := []) (As := [.int p1, .int p2]) (rest := [.ref jo]) X K (k_X4_errorOf l G g jo js jp ja jk jt jb un uy uw uq uz us up ua uk ut y4 p1 p2 _ hh9) hd_X4_errorOf gX4_error_X4_errorOf hP hD hS hA [0, 1, 2, 3, 4, 5, 6] [] rfl rfl ⟨by decide, by decide, by decide⟩ hl.1 dX4_error_24 rfl rfl ⟨Nat.le_of_ble_eq_true rfl, Nat.le_of_ble_eq_true rfl⟩ rfl rfl rfl (Nat.le_of_ble_eq_true rfl) ⟨Nat.zero_le _, Nat.zero_le _⟩ (fun H locs hP hD hS => ?_)
    have hP : va_P G vwCl [(jo, .inr (4, [.ref js, .ref jp, .ref ja, .ref jk, .int un, .ref jt, .int uy, .int uw, .ref jb, .int uq, .int uz])), (js, .inl (g 0, 388, .inl y7)), (jp, .inl (g 0, 1552, .inl up)), (ja, .inl (g 0, 388, .inl ua)), (jk, .inl (g 0, 97, .inl y8)), (jt, .inl (g 0, 150, .inl ut)), (jb, .inl (g 0, 1000, .inl y4))] H := hP
    have hD : va_D A [(jo, .inr (4, [.ref js, .ref jp, .ref ja, .ref jk, .int un, .ref jt, .int uy, .int uw, .ref jb, .int uq, .int uz])), (js, .inl (g 0, 388, .inl y7)), (jp, .inl (g 0, 1552, .inl up)), (ja, .inl (g 0, 388, .inl ua)), (jk, .inl (g 0, 97, .inl y8)), (jt, .inl (g 0, 150, .inl ut)), (jb, .inl (g 0, 1000, .inl y4))] := hD
    obtain ⟨⟨r11, y12⟩, hh13, hq⟩ := q_bd hq
    refine rwV (ci := 4) (wr := []) (As := [.int r6]) (rest := []) X K (k_X4_tells l G g jo js jp ja jk jt jb un uy uw uq uz y7 up ua y8 ut y4 r6 _ hh13) hd_X4_tells gX4_error_X4_tells hP hD hS hA [0, 1, 2, 3, 4, 5, 6] [] rfl rfl ⟨by decide, by decide, by decide⟩ hl.1 dX4_error_27 rfl rfl ⟨Nat.le_of_ble_eq_true rfl, Nat.le_of_ble_eq_true rfl⟩ rfl rfl rfl (Nat.le_of_ble_eq_true rfl) ⟨Nat.zero_le _, Nat.zero_le _⟩ (fun H locs hP hD hS => ?_)
    have hP : va_P G vwCl [(jo, .inr (4, [.ref js, .ref jp, .ref ja, .ref jk, .int un, .ref jt, .int uy, .int y12, .ref jb, .int uq, .int uz])), (js, .inl (g 0, 388, .inl y7)), (jp, .inl (g 0, 1552, .inl up)), (ja, .inl (g 0, 388, .inl ua)), (jk, .inl (g 0, 97, .inl y8)), (jt, .inl (g 0, 150, .inl ut)), (jb, .inl (g 0, 1000, .inl y4))] H := hP
    have hD : va_D A [(jo, .inr (4, [.ref js, .ref jp, .ref ja, .ref jk, .int un, .ref jt, .int uy, .int y12, .ref jb, .int uq, .int uz])), (js, .inl (g 0, 388, .inl y7)), (jp, .inl (g 0, 1552, .inl up)), (ja, .inl (g 0, 388, .inl ua)), (jk, .inl (g 0, 97, .inl y8)), (jt, .inl (g 0, 150, .inl ut)), (jb, .inl (g 0, 1000, .inl y4))] := hD
    obtain rfl := q_rt hq
    exact rw_iret hx hb hr hk hP hD hS dX4_error_30
  · have hq := q_if_t hq c3
    refine lv_aload_n hx hb dX4_error_9 rfl (lv_at hl 0 rfl) ?_
    refine lv_iconst (v := 1) hx hb dX4_error_10 (by decide) ?_
    obtain ⟨⟨r15, y16⟩, hh17, hq⟩ := q_bd hq
    refine rwV (ci := 4) (wr := []) (As := [.int 1]) (rest := []) X K (k_X4_fails l G g jo js jp ja jk jt jb un uy uw uq uz us up ua uk ut ub 1 _ hh17) hd_X4_fails gX4_error_X4_fails hP hD hS hA [0, 1, 2, 3, 4, 5, 6] [] rfl rfl ⟨by decide, by decide, by decide⟩ hl.1 dX4_error_11 rfl rfl ⟨Nat.le_of_ble_eq_true rfl, Nat.le_of_ble_eq_true rfl⟩ rfl rfl rfl (Nat.le_of_ble_eq_true rfl) ⟨Nat.zero_le _, Nat.zero_le _⟩ (fun H locs hP hD hS => ?_)
    have hP : va_P G vwCl [(jo, .inr (4, [.ref js, .ref jp, .ref ja, .ref jk, .int un, .ref jt, .int uy, .int y16, .ref jb, .int uq, .int uz])), (js, .inl (g 0, 388, .inl us)), (jp, .inl (g 0, 1552, .inl up)), (ja, .inl (g 0, 388, .inl ua)), (jk, .inl (g 0, 97, .inl uk)), (jt, .inl (g 0, 150, .inl ut)), (jb, .inl (g 0, 1000, .inl ub))] H := hP
    have hD : va_D A [(jo, .inr (4, [.ref js, .ref jp, .ref ja, .ref jk, .int un, .ref jt, .int uy, .int y16, .ref jb, .int uq, .int uz])), (js, .inl (g 0, 388, .inl us)), (jp, .inl (g 0, 1552, .inl up)), (ja, .inl (g 0, 388, .inl ua)), (jk, .inl (g 0, 97, .inl uk)), (jt, .inl (g 0, 150, .inl ut)), (jb, .inl (g 0, 1000, .inl ub))] := hD
    obtain rfl := q_rt hq
    exact rw_iret hx hb hr hk hP hD hS dX4_error_14
def F_X4_greatestStretch_32 (uw : Int32) (us : Nat → Int32) (v1 : Int32) (v2 : Int32) (v3 : Int32) : Nat → Int32 → Option (Int32 × Int32)
  | 0, _ => none
  | n + 1, v4 => if v4 < 10 then (if (10 : Int32) ≤ v4 then ((F_X4_tells uw v4).bind fun o10 => some (o10.1, o10.2)) else ((F_X4_tells uw (-1)).bind fun o14 => some (o14.1, o14.2))) else ((F_X4_mayStretch us v1 v2 v3 v4).bind fun r15 => if r15 = 0 then (vlet ((v4 : Int32) + (-10)) fun x27 => F_X4_greatestStretch_32 uw us v1 v2 v3 n x27) else (if (10 : Int32) ≤ v4 then ((F_X4_tells uw v4).bind fun o22 => some (o22.1, o22.2)) else ((F_X4_tells uw (-1)).bind fun o26 => some (o26.1, o26.2))))
set_option maxHeartbeats 4000000 in
set_option maxRecDepth 100000 in
theorem w_X4_greatestStretch_32 {p : Program} {l : Launch} {e : Env} {s : State} {m : MethodId} {args : Array Value} {below : List Frame} {meth : Method} {c : Code} {G : va_G} {g : Nat → ClassId} (X : cx p s m args meth c cX4_greatestStretch 5 (some .int) RX4 wsX4_greatestStretch) (K : amb G g s) {A : Nat → Prop} (hA : ∀ q : Nat, s.heap.size ≤ q → A q) (jo js jp ja jk jt jb : Nat) (un : Int32) (uy : Int32) (uq : Int32) (uz : Int32) (up : Nat → Int32) (ua : Nat → Int32) (uk : Nat → Int32) (ut : Nat → Int32) (ub : Nat → Int32) (uw : Int32) (us : Nat → Int32) (v1 : Int32) (v2 : Int32) (v3 : Int32) (res : Int32 × Int32) : ∀ (n : Nat) (v4 : Int32), F_X4_greatestStretch_32 uw us v1 v2 v3 n v4 = some res → ∀ (H : Heap) (locs : List Loc), va_P G vwCl [(jo, .inr (4, [.ref js, .ref jp, .ref ja, .ref jk, .int un, .ref jt, .int uy, .int uw, .ref jb, .int uq, .int uz])), (js, .inl (g 0, 388, .inl us)), (jp, .inl (g 0, 1552, .inl up)), (ja, .inl (g 0, 388, .inl ua)), (jk, .inl (g 0, 97, .inl uk)), (jt, .inl (g 0, 150, .inl ut)), (jb, .inl (g 0, 1000, .inl ub))] H → va_D A [(jo, .inr (4, [.ref js, .ref jp, .ref ja, .ref jk, .int un, .ref jt, .int uy, .int uw, .ref jb, .int uq, .int uz])), (js, .inl (g 0, 388, .inl us)), (jp, .inl (g 0, 1552, .inl up)), (ja, .inl (g 0, 388, .inl ua)), (jk, .inl (g 0, 97, .inl uk)), (jt, .inl (g 0, 150, .inl ut)), (jb, .inl (g 0, 1000, .inl ub))] → va_S A s.heap H locs → ∀ (ls : Array Slot), lv_has ls 5 [(0, .ref jo), (1, .int v1), (2, .int v2), (3, .int v3), (4, .int v4)] → W p l e (rmF 3 72) s m args below meth c H locs 0 0 (rwM G A below (some (.int res.1)) [(jo, .inr (4, [.ref js, .ref jp, .ref ja, .ref jk, .int un, .ref jt, .int uy, .int res.2, .ref jb, .int uq, .int uz])), (js, .inl (g 0, 388, .inl us)), (jp, .inl (g 0, 1552, .inl up)), (ja, .inl (g 0, 388, .inl ua)), (jk, .inl (g 0, 97, .inl uk)), (jt, .inl (g 0, 150, .inl ut)), (jb, .inl (g 0, 1000, .inl ub))] args s) (F0 m 32 ls []) := by
  obtain ⟨hx, hb, hml, hr, hown, hts, hk⟩ := id X
  intro n
  induction n with
  | zero => intro v4 hq; exact q_no hq
  | succ n ih =>
    intro v4 hq H locs hP hD hS ls hl
    rw [F_X4_greatestStretch_32] at hq
    refine lv_iload hx hb dX4_greatestStretch_32 (lv_at hl 4 rfl) ?_
    refine lv_bipush (v := 10) hx hb dX4_greatestStretch_34 (by decide) ?_
    refine lv_icmp_lt (tgt := 57) hx hb dX4_greatestStretch_36 (by decide) (fun c5 => ?_) (fun c5 => ?_)
    · have hq := q_if_t hq c5
      refine lv_aload_n hx hb dX4_greatestStretch_57 rfl (lv_at hl 0 rfl) ?_
      refine lv_iload hx hb dX4_greatestStretch_58 (lv_at hl 4 rfl) ?_
      refine lv_bipush (v := 10) hx hb dX4_greatestStretch_60 (by decide) ?_
      refine lv_icmp_ge (tgt := 69) hx hb dX4_greatestStretch_62 (by decide) (fun c6 => ?_) (fun c6 => ?_)
      · have hq := q_if_t hq c6
        refine lv_iload hx hb dX4_greatestStretch_69 (lv_at hl 4 rfl) ?_
        obtain ⟨⟨r7, y8⟩, hh9, hq⟩ := q_bd hq
        refine rwV (ci := 4) (wr := []) (As := [.int v4]) (rest := []) X K (k_X4_tells l G g jo js jp ja jk jt jb un uy uw uq uz us up ua uk ut ub v4 _ hh9) hd_X4_tells gX4_greatestStretch_X4_tells hP hD hS hA [0, 1, 2, 3, 4, 5, 6] [] rfl rfl ⟨by decide, by decide, by decide⟩ hl.1 dX4_greatestStretch_71 rfl rfl ⟨Nat.le_of_ble_eq_true rfl, Nat.le_of_ble_eq_true rfl⟩ rfl rfl rfl (Nat.le_of_ble_eq_true rfl) ⟨Nat.zero_le _, Nat.zero_le _⟩ (fun H locs hP hD hS => ?_)
        have hP : va_P G vwCl [(jo, .inr (4, [.ref js, .ref jp, .ref ja, .ref jk, .int un, .ref jt, .int uy, .int y8, .ref jb, .int uq, .int uz])), (js, .inl (g 0, 388, .inl us)), (jp, .inl (g 0, 1552, .inl up)), (ja, .inl (g 0, 388, .inl ua)), (jk, .inl (g 0, 97, .inl uk)), (jt, .inl (g 0, 150, .inl ut)), (jb, .inl (g 0, 1000, .inl ub))] H := hP
        have hD : va_D A [(jo, .inr (4, [.ref js, .ref jp, .ref ja, .ref jk, .int un, .ref jt, .int uy, .int y8, .ref jb, .int uq, .int uz])), (js, .inl (g 0, 388, .inl us)), (jp, .inl (g 0, 1552, .inl up)), (ja, .inl (g 0, 388, .inl ua)), (jk, .inl (g 0, 97, .inl uk)), (jt, .inl (g 0, 150, .inl ut)), (jb, .inl (g 0, 1000, .inl ub))] := hD
        obtain rfl := q_rt hq
        exact rw_iret hx hb hr hk hP hD hS dX4_greatestStretch_74
      · have hq := q_if_f hq c6
        refine lv_iconst (v := (-1)) hx hb dX4_greatestStretch_65 (by decide) ?_
        refine lv_goto (tgt := 71) hx hb dX4_greatestStretch_66 (by decide) ?_
        obtain ⟨⟨r11, y12⟩, hh13, hq⟩ := q_bd hq
        refine rwV (ci := 4) (wr := []) (As := [.int (-1)]) (rest := []) X K (k_X4_tells l G g jo js jp ja jk jt jb un uy uw uq uz us up ua uk ut ub (-1) _ hh13) hd_X4_tells gX4_greatestStretch_X4_tells hP hD hS hA [0, 1, 2, 3, 4, 5, 6] [] rfl rfl ⟨by decide, by decide, by decide⟩ hl.1 dX4_greatestStretch_71 rfl rfl ⟨Nat.le_of_ble_eq_true rfl, Nat.le_of_ble_eq_true rfl⟩ rfl rfl rfl (Nat.le_of_ble_eq_true rfl) ⟨Nat.zero_le _, Nat.zero_le _⟩ (fun H locs hP hD hS => ?_)
        have hP : va_P G vwCl [(jo, .inr (4, [.ref js, .ref jp, .ref ja, .ref jk, .int un, .ref jt, .int uy, .int y12, .ref jb, .int uq, .int uz])), (js, .inl (g 0, 388, .inl us)), (jp, .inl (g 0, 1552, .inl up)), (ja, .inl (g 0, 388, .inl ua)), (jk, .inl (g 0, 97, .inl uk)), (jt, .inl (g 0, 150, .inl ut)), (jb, .inl (g 0, 1000, .inl ub))] H := hP
        have hD : va_D A [(jo, .inr (4, [.ref js, .ref jp, .ref ja, .ref jk, .int un, .ref jt, .int uy, .int y12, .ref jb, .int uq, .int uz])), (js, .inl (g 0, 388, .inl us)), (jp, .inl (g 0, 1552, .inl up)), (ja, .inl (g 0, 388, .inl ua)), (jk, .inl (g 0, 97, .inl uk)), (jt, .inl (g 0, 150, .inl ut)), (jb, .inl (g 0, 1000, .inl ub))] := hD
        obtain rfl := q_rt hq
        exact rw_iret hx hb hr hk hP hD hS dX4_greatestStretch_74
    · have hq := q_if_f hq c5
      refine lv_aload_n hx hb dX4_greatestStretch_39 rfl (lv_at hl 0 rfl) ?_
      refine lv_iload_n hx hb dX4_greatestStretch_40 rfl (lv_at hl 1 rfl) ?_
      refine lv_iload_n hx hb dX4_greatestStretch_41 rfl (lv_at hl 2 rfl) ?_
      refine lv_iload_n hx hb dX4_greatestStretch_42 rfl (lv_at hl 3 rfl) ?_
      refine lv_iload hx hb dX4_greatestStretch_43 (lv_at hl 4 rfl) ?_
      obtain ⟨r15, hh16, hq⟩ := q_bd hq
      refine roV (ci := 4) (As := [.int v1, .int v2, .int v3, .int v4]) (rest := []) X K (k_X4_mayStretch l G g jo js jp ja jk jt jb un uy uw uq uz us up ua uk ut ub v1 v2 v3 v4 _ hh16) hd_X4_mayStretch gX4_greatestStretch_X4_mayStretch hP hl.1 dX4_greatestStretch_45 rfl rfl ⟨Nat.le_of_ble_eq_true rfl, Nat.le_of_ble_eq_true rfl⟩ rfl rfl rfl (Nat.le_of_ble_eq_true rfl) ⟨Nat.zero_le _, Nat.zero_le _⟩ ?_
      refine lv_if_ne (tgt := 57) hx hb dX4_greatestStretch_48 (by decide) (fun c17 => ?_) (fun c17 => ?_)
      · have hq := q_if_f hq c17
        refine lv_aload_n hx hb dX4_greatestStretch_57 rfl (lv_at hl 0 rfl) ?_
        refine lv_iload hx hb dX4_greatestStretch_58 (lv_at hl 4 rfl) ?_
        refine lv_bipush (v := 10) hx hb dX4_greatestStretch_60 (by decide) ?_
        refine lv_icmp_ge (tgt := 69) hx hb dX4_greatestStretch_62 (by decide) (fun c18 => ?_) (fun c18 => ?_)
        · have hq := q_if_t hq c18
          refine lv_iload hx hb dX4_greatestStretch_69 (lv_at hl 4 rfl) ?_
          obtain ⟨⟨r19, y20⟩, hh21, hq⟩ := q_bd hq
          refine rwV (ci := 4) (wr := []) (As := [.int v4]) (rest := []) X K (k_X4_tells l G g jo js jp ja jk jt jb un uy uw uq uz us up ua uk ut ub v4 _ hh21) hd_X4_tells gX4_greatestStretch_X4_tells hP hD hS hA [0, 1, 2, 3, 4, 5, 6] [] rfl rfl ⟨by decide, by decide, by decide⟩ hl.1 dX4_greatestStretch_71 rfl rfl ⟨Nat.le_of_ble_eq_true rfl, Nat.le_of_ble_eq_true rfl⟩ rfl rfl rfl (Nat.le_of_ble_eq_true rfl) ⟨Nat.zero_le _, Nat.zero_le _⟩ (fun H locs hP hD hS => ?_)
          have hP : va_P G vwCl [(jo, .inr (4, [.ref js, .ref jp, .ref ja, .ref jk, .int un, .ref jt, .int uy, .int y20, .ref jb, .int uq, .int uz])), (js, .inl (g 0, 388, .inl us)), (jp, .inl (g 0, 1552, .inl up)), (ja, .inl (g 0, 388, .inl ua)), (jk, .inl (g 0, 97, .inl uk)), (jt, .inl (g 0, 150, .inl ut)), (jb, .inl (g 0, 1000, .inl ub))] H := hP
          have hD : va_D A [(jo, .inr (4, [.ref js, .ref jp, .ref ja, .ref jk, .int un, .ref jt, .int uy, .int y20, .ref jb, .int uq, .int uz])), (js, .inl (g 0, 388, .inl us)), (jp, .inl (g 0, 1552, .inl up)), (ja, .inl (g 0, 388, .inl ua)), (jk, .inl (g 0, 97, .inl uk)), (jt, .inl (g 0, 150, .inl ut)), (jb, .inl (g 0, 1000, .inl ub))] := hD
          obtain rfl := q_rt hq
          exact rw_iret hx hb hr hk hP hD hS dX4_greatestStretch_74
        · have hq := q_if_f hq c18
          refine lv_iconst (v := (-1)) hx hb dX4_greatestStretch_65 (by decide) ?_
          refine lv_goto (tgt := 71) hx hb dX4_greatestStretch_66 (by decide) ?_
          obtain ⟨⟨r23, y24⟩, hh25, hq⟩ := q_bd hq
          refine rwV (ci := 4) (wr := []) (As := [.int (-1)]) (rest := []) X K (k_X4_tells l G g jo js jp ja jk jt jb un uy uw uq uz us up ua uk ut ub (-1) _ hh25) hd_X4_tells gX4_greatestStretch_X4_tells hP hD hS hA [0, 1, 2, 3, 4, 5, 6] [] rfl rfl ⟨by decide, by decide, by decide⟩ hl.1 dX4_greatestStretch_71 rfl rfl ⟨Nat.le_of_ble_eq_true rfl, Nat.le_of_ble_eq_true rfl⟩ rfl rfl rfl (Nat.le_of_ble_eq_true rfl) ⟨Nat.zero_le _, Nat.zero_le _⟩ (fun H locs hP hD hS => ?_)
          have hP : va_P G vwCl [(jo, .inr (4, [.ref js, .ref jp, .ref ja, .ref jk, .int un, .ref jt, .int uy, .int y24, .ref jb, .int uq, .int uz])), (js, .inl (g 0, 388, .inl us)), (jp, .inl (g 0, 1552, .inl up)), (ja, .inl (g 0, 388, .inl ua)), (jk, .inl (g 0, 97, .inl uk)), (jt, .inl (g 0, 150, .inl ut)), (jb, .inl (g 0, 1000, .inl ub))] H := hP
          have hD : va_D A [(jo, .inr (4, [.ref js, .ref jp, .ref ja, .ref jk, .int un, .ref jt, .int uy, .int y24, .ref jb, .int uq, .int uz])), (js, .inl (g 0, 388, .inl us)), (jp, .inl (g 0, 1552, .inl up)), (ja, .inl (g 0, 388, .inl ua)), (jk, .inl (g 0, 97, .inl uk)), (jt, .inl (g 0, 150, .inl ut)), (jb, .inl (g 0, 1000, .inl ub))] := hD
          obtain rfl := q_rt hq
          exact rw_iret hx hb hr hk hP hD hS dX4_greatestStretch_74
      · have hq := q_if_t hq c17
        obtain ⟨x27, ex27⟩ : ∃ y : Int32, y = (v4 : Int32) + (-10) := ⟨_, rfl⟩
        have hq := q_let hq ex27
        refine lv_iinc (v := x27) (lv' := [(4, .int x27), (0, .ref jo), (1, .int v1), (2, .int v2), (3, .int v3)]) hx hb dX4_greatestStretch_51 hl (k := 4) rfl (by rw [ex27]; rfl) (by decide) rfl (fun ls hl => ?_)
        refine lv_goto (tgt := 32) hx hb dX4_greatestStretch_54 (by decide) ?_
        exact ih x27 hq _ _ hP hD hS ls (lv_sub hl [1, 2, 3, 4, 0] rfl)
def F_X4_greatestStretch (uw : Int32) (us : Nat → Int32) (p1 : Int32) (p2 : Int32) (p3 : Int32) : Option (Int32 × Int32) := (F_X4_isCurve p1).bind fun r1 => if r1 = 0 then ((F_X4_fails uw 1).bind fun o14 => some (o14.1, o14.2)) else ((F_X4_isSpan p2 p3).bind fun r4 => if r4 = 0 then ((F_X4_fails uw 2).bind fun o10 => some (o10.1, o10.2)) else (F_X4_greatestStretch_32 uw us p1 p2 p3 2000 500))
set_option maxHeartbeats 4000000 in
set_option maxRecDepth 100000 in
theorem k_X4_greatestStretch (l : Launch) (G : va_G) (g : Nat → ClassId) (jo js jp ja jk jt jb : Nat) (un : Int32) (uy : Int32) (uw : Int32) (uq : Int32) (uz : Int32) (us : Nat → Int32) (up : Nat → Int32) (ua : Nat → Int32) (uk : Nat → Int32) (ut : Nat → Int32) (ub : Nat → Int32) (p1 : Int32) (p2 : Int32) (p3 : Int32) (res : Int32 × Int32) (hq : F_X4_greatestStretch uw us p1 p2 p3 = some res) : rwC l yX4_greatestStretch wsX4_greatestStretch (rmF 3 72) G g [.ref jo, .int p1, .int p2, .int p3] [(jo, .inr (4, [.ref js, .ref jp, .ref ja, .ref jk, .int un, .ref jt, .int uy, .int uw, .ref jb, .int uq, .int uz])), (js, .inl (g 0, 388, .inl us)), (jp, .inl (g 0, 1552, .inl up)), (ja, .inl (g 0, 388, .inl ua)), (jk, .inl (g 0, 97, .inl uk)), (jt, .inl (g 0, 150, .inl ut)), (jb, .inl (g 0, 1000, .inl ub))] (some (.int res.1)) [(jo, .inr (4, [.ref js, .ref jp, .ref ja, .ref jk, .int un, .ref jt, .int uy, .int res.2, .ref jb, .int uq, .int uz])), (js, .inl (g 0, 388, .inl us)), (jp, .inl (g 0, 1552, .inl up)), (ja, .inl (g 0, 388, .inl ua)), (jk, .inl (g 0, 97, .inl uk)), (jt, .inl (g 0, 150, .inl ut)), (jb, .inl (g 0, 1000, .inl ub))] := by
  refine rwC.of (cc := cX4_greatestStretch) (maxL := 5) (ret := (some .int)) (by decide) rfl (Nat.le_of_ble_eq_true rfl) ?_
  intro p e s m below meth c ls A X K hA hP hD hS hl
  obtain ⟨hx, hb, hml, hr, hown, hts, hk⟩ := id X
  have hl : lv_has ls 5 [(0, .ref jo), (1, .int p1), (2, .int p2), (3, .int p3)] := hl
  unfold F_X4_greatestStretch at hq
  refine lv_iload_n hx hb dX4_greatestStretch_0 rfl (lv_at hl 1 rfl) ?_
  obtain ⟨r1, hh2, hq⟩ := q_bd hq
  refine roS (As := [.int p1]) (rest := []) X K (k_X4_isCurve l G g p1 _ hh2) hd_X4_isCurve gX4_greatestStretch_X4_isCurve (hP.sub [] rfl) hl.1 dX4_greatestStretch_1 rfl rfl ⟨Nat.le_of_ble_eq_true rfl, Nat.le_of_ble_eq_true rfl⟩ rfl (Nat.le_of_ble_eq_true rfl) ⟨Nat.zero_le _, Nat.zero_le _⟩ ?_
  refine lv_if_ne (tgt := 13) hx hb dX4_greatestStretch_4 (by decide) (fun c3 => ?_) (fun c3 => ?_)
  · have hq := q_if_f hq c3
    refine lv_iload_n hx hb dX4_greatestStretch_13 rfl (lv_at hl 2 rfl) ?_
    refine lv_iload_n hx hb dX4_greatestStretch_14 rfl (lv_at hl 3 rfl) ?_
    obtain ⟨r4, hh5, hq⟩ := q_bd hq
    refine roS (As := [.int p2, .int p3]) (rest := []) X K (k_X4_isSpan l G g p2 p3 _ hh5) hd_X4_isSpan gX4_greatestStretch_X4_isSpan (hP.sub [] rfl) hl.1 dX4_greatestStretch_15 rfl rfl ⟨Nat.le_of_ble_eq_true rfl, Nat.le_of_ble_eq_true rfl⟩ rfl (Nat.le_of_ble_eq_true rfl) ⟨Nat.zero_le _, Nat.zero_le _⟩ ?_
    refine lv_if_ne (tgt := 27) hx hb dX4_greatestStretch_18 (by decide) (fun c6 => ?_) (fun c6 => ?_)
    · have hq := q_if_f hq c6
      refine lv_sipush (v := 500) hx hb dX4_greatestStretch_27 (by decide) ?_
      refine lv_istore (lv' := [(4, .int 500), (0, .ref jo), (1, .int p1), (2, .int p2), (3, .int p3)]) hx hb dX4_greatestStretch_30 hl (by decide) rfl (fun ls hl => ?_)
      exact w_X4_greatestStretch_32 X K hA jo js jp ja jk jt jb un uy uq uz up ua uk ut ub uw us p1 p2 p3 _ 2000 500 hq _ _ hP hD hS ls (lv_sub hl [1, 2, 3, 4, 0] rfl)
    · have hq := q_if_t hq c6
      refine lv_aload_n hx hb dX4_greatestStretch_21 rfl (lv_at hl 0 rfl) ?_
      refine lv_iconst (v := 2) hx hb dX4_greatestStretch_22 (by decide) ?_
      obtain ⟨⟨r7, y8⟩, hh9, hq⟩ := q_bd hq
      refine rwV (ci := 4) (wr := []) (As := [.int 2]) (rest := []) X K (k_X4_fails l G g jo js jp ja jk jt jb un uy uw uq uz us up ua uk ut ub 2 _ hh9) hd_X4_fails gX4_greatestStretch_X4_fails hP hD hS hA [0, 1, 2, 3, 4, 5, 6] [] rfl rfl ⟨by decide, by decide, by decide⟩ hl.1 dX4_greatestStretch_23 rfl rfl ⟨Nat.le_of_ble_eq_true rfl, Nat.le_of_ble_eq_true rfl⟩ rfl rfl rfl (Nat.le_of_ble_eq_true rfl) ⟨Nat.zero_le _, Nat.zero_le _⟩ (fun H locs hP hD hS => ?_)
      have hP : va_P G vwCl [(jo, .inr (4, [.ref js, .ref jp, .ref ja, .ref jk, .int un, .ref jt, .int uy, .int y8, .ref jb, .int uq, .int uz])), (js, .inl (g 0, 388, .inl us)), (jp, .inl (g 0, 1552, .inl up)), (ja, .inl (g 0, 388, .inl ua)), (jk, .inl (g 0, 97, .inl uk)), (jt, .inl (g 0, 150, .inl ut)), (jb, .inl (g 0, 1000, .inl ub))] H := hP
      have hD : va_D A [(jo, .inr (4, [.ref js, .ref jp, .ref ja, .ref jk, .int un, .ref jt, .int uy, .int y8, .ref jb, .int uq, .int uz])), (js, .inl (g 0, 388, .inl us)), (jp, .inl (g 0, 1552, .inl up)), (ja, .inl (g 0, 388, .inl ua)), (jk, .inl (g 0, 97, .inl uk)), (jt, .inl (g 0, 150, .inl ut)), (jb, .inl (g 0, 1000, .inl ub))] := hD
      obtain rfl := q_rt hq
      exact rw_iret hx hb hr hk hP hD hS dX4_greatestStretch_26
  · have hq := q_if_t hq c3
    refine lv_aload_n hx hb dX4_greatestStretch_7 rfl (lv_at hl 0 rfl) ?_
    refine lv_iconst (v := 1) hx hb dX4_greatestStretch_8 (by decide) ?_
    obtain ⟨⟨r11, y12⟩, hh13, hq⟩ := q_bd hq
    refine rwV (ci := 4) (wr := []) (As := [.int 1]) (rest := []) X K (k_X4_fails l G g jo js jp ja jk jt jb un uy uw uq uz us up ua uk ut ub 1 _ hh13) hd_X4_fails gX4_greatestStretch_X4_fails hP hD hS hA [0, 1, 2, 3, 4, 5, 6] [] rfl rfl ⟨by decide, by decide, by decide⟩ hl.1 dX4_greatestStretch_9 rfl rfl ⟨Nat.le_of_ble_eq_true rfl, Nat.le_of_ble_eq_true rfl⟩ rfl rfl rfl (Nat.le_of_ble_eq_true rfl) ⟨Nat.zero_le _, Nat.zero_le _⟩ (fun H locs hP hD hS => ?_)
    have hP : va_P G vwCl [(jo, .inr (4, [.ref js, .ref jp, .ref ja, .ref jk, .int un, .ref jt, .int uy, .int y12, .ref jb, .int uq, .int uz])), (js, .inl (g 0, 388, .inl us)), (jp, .inl (g 0, 1552, .inl up)), (ja, .inl (g 0, 388, .inl ua)), (jk, .inl (g 0, 97, .inl uk)), (jt, .inl (g 0, 150, .inl ut)), (jb, .inl (g 0, 1000, .inl ub))] H := hP
    have hD : va_D A [(jo, .inr (4, [.ref js, .ref jp, .ref ja, .ref jk, .int un, .ref jt, .int uy, .int y12, .ref jb, .int uq, .int uz])), (js, .inl (g 0, 388, .inl us)), (jp, .inl (g 0, 1552, .inl up)), (ja, .inl (g 0, 388, .inl ua)), (jk, .inl (g 0, 97, .inl uk)), (jt, .inl (g 0, 150, .inl ut)), (jb, .inl (g 0, 1000, .inl ub))] := hD
    obtain rfl := q_rt hq
    exact rw_iret hx hb hr hk hP hD hS dX4_greatestStretch_12
theorem in_X4_leastEase_X4 : ∀ w ∈ wsX40, w ∈ wsX4_leastEase := fun _ h => List.mem_cons_of_mem _ (List.mem_append_right _ h)
def F_X4_leastEase_51 (uw : Int32) (v1 : Int32) (v2 : Int32) (v3 : Int32) (v4 : Int32) : Nat → (Nat → Int32) → Int32 → Int64 → Int32 → Option (Int32 × Int32 × (Nat → Int32))
  | 0, _, _, _, _ => none
  | n + 1, us, v5, v6, v7 => if (6 : Int32) ≤ v7 then (vgd (ix (v3) 388) <| vlet (upd us v3.toNatClampNeg v4) fun f10 => (F_X4_tells uw v5).bind fun o14 => some (o14.1, o14.2, f10)) else (vgd (ix (v3) 388) <| vlet (upd us v3.toNatClampNeg v7) fun f16 => (F_X4_of f16 v1 v2 0).bind fun r17 => (F_X4_of f16 v1 (v2 + 1) 0).bind fun r19 => (F_X4_sumOf f16 v1 r17 r19).bind fun r21 => if v5 = (-1) then (vlet ((v7 : Int32) + 1) fun x24 => F_X4_leastEase_51 uw v1 v2 v3 v4 n f16 v7 r21 x24) else (if (0 : Int32) ≤ (lg_cmp r21 v6) then (vlet ((v7 : Int32) + 1) fun x26 => F_X4_leastEase_51 uw v1 v2 v3 v4 n f16 v5 v6 x26) else (vlet ((v7 : Int32) + 1) fun x27 => F_X4_leastEase_51 uw v1 v2 v3 v4 n f16 v7 r21 x27)))
set_option maxHeartbeats 4000000 in
set_option maxRecDepth 100000 in
theorem w_X4_leastEase_51 {p : Program} {l : Launch} {e : Env} {s : State} {m : MethodId} {args : Array Value} {below : List Frame} {meth : Method} {c : Code} {G : va_G} {g : Nat → ClassId} (X : cx p s m args meth c cX4_leastEase 12 (some .int) RX4 wsX4_leastEase) (K : amb G g s) {A : Nat → Prop} (hA : ∀ q : Nat, s.heap.size ≤ q → A q) (jo js jp ja jk jt jb : Nat) (un : Int32) (uy : Int32) (uq : Int32) (uz : Int32) (up : Nat → Int32) (ua : Nat → Int32) (uk : Nat → Int32) (ut : Nat → Int32) (ub : Nat → Int32) (uw : Int32) (v1 : Int32) (v2 : Int32) (v3 : Int32) (v4 : Int32) (res : Int32 × Int32 × (Nat → Int32)) : ∀ (n : Nat) (us : Nat → Int32) (v5 : Int32) (v6 : Int64) (v7 : Int32), F_X4_leastEase_51 uw v1 v2 v3 v4 n us v5 v6 v7 = some res → ∀ (H : Heap) (locs : List Loc), va_P G vwCl [(jo, .inr (4, [.ref js, .ref jp, .ref ja, .ref jk, .int un, .ref jt, .int uy, .int uw, .ref jb, .int uq, .int uz])), (js, .inl (g 0, 388, .inl us)), (jp, .inl (g 0, 1552, .inl up)), (ja, .inl (g 0, 388, .inl ua)), (jk, .inl (g 0, 97, .inl uk)), (jt, .inl (g 0, 150, .inl ut)), (jb, .inl (g 0, 1000, .inl ub))] H → va_D A [(jo, .inr (4, [.ref js, .ref jp, .ref ja, .ref jk, .int un, .ref jt, .int uy, .int uw, .ref jb, .int uq, .int uz])), (js, .inl (g 0, 388, .inl us)), (jp, .inl (g 0, 1552, .inl up)), (ja, .inl (g 0, 388, .inl ua)), (jk, .inl (g 0, 97, .inl uk)), (jt, .inl (g 0, 150, .inl ut)), (jb, .inl (g 0, 1000, .inl ub))] → va_S A s.heap H locs → ∀ (ls : Array Slot), lv_has ls 12 [(0, .ref jo), (1, .int v1), (2, .int v2), (3, .int v3), (4, .int v4), (5, .int v5), (6, .long v6), (8, .int v7)] → W p l e (rmF 5 136) s m args below meth c H locs 0 0 (rwM G A below (some (.int res.1)) [(jo, .inr (4, [.ref js, .ref jp, .ref ja, .ref jk, .int un, .ref jt, .int uy, .int res.2.1, .ref jb, .int uq, .int uz])), (js, .inl (g 0, 388, .inl res.2.2)), (jp, .inl (g 0, 1552, .inl up)), (ja, .inl (g 0, 388, .inl ua)), (jk, .inl (g 0, 97, .inl uk)), (jt, .inl (g 0, 150, .inl ut)), (jb, .inl (g 0, 1000, .inl ub))] args s) (F0 m 51 ls []) := by
  obtain ⟨hx, hb, hml, hr, hown, hts, hk⟩ := id X
  intro n
  induction n with
  | zero => intro us v5 v6 v7 hq; exact q_no hq
  | succ n ih =>
    intro us v5 v6 v7 hq H locs hP hD hS ls hl
    rw [F_X4_leastEase_51] at hq
    refine lv_iload hx hb dX4_leastEase_51 (lv_at hl 7 rfl) ?_
    refine lv_bipush (v := 6) hx hb dX4_leastEase_53 (by decide) ?_
    refine lv_icmp_ge (tgt := 144) hx hb dX4_leastEase_55 (by decide) (fun c8 => ?_) (fun c8 => ?_)
    · have hq := q_if_t hq c8
      refine lv_aload_n hx hb dX4_leastEase_144 rfl (lv_at hl 0 rfl) ?_
      refine va_get (D := G) (ci := 4) (v := .ref js) (C := RX4) (T := TX4) (N := 11) hx hb hts in_X4_leastEase_X4 hown K.1 hP 0 rfl rfl 0 (by decide) (hts _ (List.mem_of_getElem? (i := 1) rfl)) (fun _ h9 => h9) rfl dX4_leastEase_145 ?_
      refine lv_iload_n hx hb dX4_leastEase_148 rfl (lv_at hl 3 rfl) ?_
      refine lv_iload hx hb dX4_leastEase_149 (lv_at hl 4 rfl) ?_
      obtain ⟨hh9, hq⟩ := q_gd hq
      refine va_iast hx hb K.1 hP hD hS 1 0 rfl rfl (vp_in_iff.mpr hh9) dX4_leastEase_151 (fun H locs hP hD hS => ?_)
      obtain ⟨f10, ef10⟩ : ∃ y, y = upd us v3.toNatClampNeg v4 := ⟨_, rfl⟩
      have hq := q_let hq ef10
      have hP : va_P G vwCl [(jo, .inr (4, [.ref js, .ref jp, .ref ja, .ref jk, .int un, .ref jt, .int uy, .int uw, .ref jb, .int uq, .int uz])), (js, .inl (g 0, 388, .inl f10)), (jp, .inl (g 0, 1552, .inl up)), (ja, .inl (g 0, 388, .inl ua)), (jk, .inl (g 0, 97, .inl uk)), (jt, .inl (g 0, 150, .inl ut)), (jb, .inl (g 0, 1000, .inl ub))] H := by rw [ef10]; exact hP
      have hD : va_D A [(jo, .inr (4, [.ref js, .ref jp, .ref ja, .ref jk, .int un, .ref jt, .int uy, .int uw, .ref jb, .int uq, .int uz])), (js, .inl (g 0, 388, .inl f10)), (jp, .inl (g 0, 1552, .inl up)), (ja, .inl (g 0, 388, .inl ua)), (jk, .inl (g 0, 97, .inl uk)), (jt, .inl (g 0, 150, .inl ut)), (jb, .inl (g 0, 1000, .inl ub))] := by rw [ef10]; exact hD
      refine lv_aload_n hx hb dX4_leastEase_152 rfl (lv_at hl 0 rfl) ?_
      refine lv_iload hx hb dX4_leastEase_153 (lv_at hl 5 rfl) ?_
      obtain ⟨⟨r11, y12⟩, hh13, hq⟩ := q_bd hq
      refine rwV (ci := 4) (wr := []) (As := [.int v5]) (rest := []) X K (k_X4_tells l G g jo js jp ja jk jt jb un uy uw uq uz f10 up ua uk ut ub v5 _ hh13) hd_X4_tells gX4_leastEase_X4_tells hP hD hS hA [0, 1, 2, 3, 4, 5, 6] [] rfl rfl ⟨by decide, by decide, by decide⟩ hl.1 dX4_leastEase_155 rfl rfl ⟨Nat.le_of_ble_eq_true rfl, Nat.le_of_ble_eq_true rfl⟩ rfl rfl rfl (Nat.le_of_ble_eq_true rfl) ⟨Nat.zero_le _, Nat.zero_le _⟩ (fun H locs hP hD hS => ?_)
      have hP : va_P G vwCl [(jo, .inr (4, [.ref js, .ref jp, .ref ja, .ref jk, .int un, .ref jt, .int uy, .int y12, .ref jb, .int uq, .int uz])), (js, .inl (g 0, 388, .inl f10)), (jp, .inl (g 0, 1552, .inl up)), (ja, .inl (g 0, 388, .inl ua)), (jk, .inl (g 0, 97, .inl uk)), (jt, .inl (g 0, 150, .inl ut)), (jb, .inl (g 0, 1000, .inl ub))] H := hP
      have hD : va_D A [(jo, .inr (4, [.ref js, .ref jp, .ref ja, .ref jk, .int un, .ref jt, .int uy, .int y12, .ref jb, .int uq, .int uz])), (js, .inl (g 0, 388, .inl f10)), (jp, .inl (g 0, 1552, .inl up)), (ja, .inl (g 0, 388, .inl ua)), (jk, .inl (g 0, 97, .inl uk)), (jt, .inl (g 0, 150, .inl ut)), (jb, .inl (g 0, 1000, .inl ub))] := hD
      obtain rfl := q_rt hq
      exact rw_iret hx hb hr hk hP hD hS dX4_leastEase_158
    · have hq := q_if_f hq c8
      refine lv_aload_n hx hb dX4_leastEase_58 rfl (lv_at hl 0 rfl) ?_
      refine va_get (D := G) (ci := 4) (v := .ref js) (C := RX4) (T := TX4) (N := 11) hx hb hts in_X4_leastEase_X4 hown K.1 hP 0 rfl rfl 0 (by decide) (hts _ (List.mem_of_getElem? (i := 1) rfl)) (fun _ h9 => h9) rfl dX4_leastEase_59 ?_
      refine lv_iload_n hx hb dX4_leastEase_62 rfl (lv_at hl 3 rfl) ?_
      refine lv_iload hx hb dX4_leastEase_63 (lv_at hl 7 rfl) ?_
      obtain ⟨hh15, hq⟩ := q_gd hq
      refine va_iast hx hb K.1 hP hD hS 1 0 rfl rfl (vp_in_iff.mpr hh15) dX4_leastEase_65 (fun H locs hP hD hS => ?_)
      obtain ⟨f16, ef16⟩ : ∃ y, y = upd us v3.toNatClampNeg v7 := ⟨_, rfl⟩
      have hq := q_let hq ef16
      have hP : va_P G vwCl [(jo, .inr (4, [.ref js, .ref jp, .ref ja, .ref jk, .int un, .ref jt, .int uy, .int uw, .ref jb, .int uq, .int uz])), (js, .inl (g 0, 388, .inl f16)), (jp, .inl (g 0, 1552, .inl up)), (ja, .inl (g 0, 388, .inl ua)), (jk, .inl (g 0, 97, .inl uk)), (jt, .inl (g 0, 150, .inl ut)), (jb, .inl (g 0, 1000, .inl ub))] H := by rw [ef16]; exact hP
      have hD : va_D A [(jo, .inr (4, [.ref js, .ref jp, .ref ja, .ref jk, .int un, .ref jt, .int uy, .int uw, .ref jb, .int uq, .int uz])), (js, .inl (g 0, 388, .inl f16)), (jp, .inl (g 0, 1552, .inl up)), (ja, .inl (g 0, 388, .inl ua)), (jk, .inl (g 0, 97, .inl uk)), (jt, .inl (g 0, 150, .inl ut)), (jb, .inl (g 0, 1000, .inl ub))] := by rw [ef16]; exact hD
      refine lv_aload_n hx hb dX4_leastEase_66 rfl (lv_at hl 0 rfl) ?_
      refine lv_iload_n hx hb dX4_leastEase_67 rfl (lv_at hl 1 rfl) ?_
      refine lv_aload_n hx hb dX4_leastEase_68 rfl (lv_at hl 0 rfl) ?_
      refine lv_iload_n hx hb dX4_leastEase_69 rfl (lv_at hl 1 rfl) ?_
      refine lv_iload_n hx hb dX4_leastEase_70 rfl (lv_at hl 2 rfl) ?_
      refine lv_iconst (v := 0) hx hb dX4_leastEase_71 (by decide) ?_
      obtain ⟨r17, hh18, hq⟩ := q_bd hq
      refine roV (ci := 4) (As := [.int v1, .int v2, .int 0]) (rest := [.int v1, .ref jo]) X K (k_X4_of l G g jo js jp ja jk jt jb un uy uw uq uz f16 up ua uk ut ub v1 v2 0 _ hh18) hd_X4_of gX4_leastEase_X4_of hP hl.1 dX4_leastEase_72 rfl rfl ⟨Nat.le_of_ble_eq_true rfl, Nat.le_of_ble_eq_true rfl⟩ rfl rfl rfl (Nat.le_of_ble_eq_true rfl) ⟨Nat.zero_le _, Nat.zero_le _⟩ ?_
      refine lv_aload_n hx hb dX4_leastEase_75 rfl (lv_at hl 0 rfl) ?_
      refine lv_iload_n hx hb dX4_leastEase_76 rfl (lv_at hl 1 rfl) ?_
      refine lv_iload_n hx hb dX4_leastEase_77 rfl (lv_at hl 2 rfl) ?_
      refine lv_iconst (v := 1) hx hb dX4_leastEase_78 (by decide) ?_
      refine lv_iadd hx hb dX4_leastEase_79 ?_
      refine lv_iconst (v := 0) hx hb dX4_leastEase_80 (by decide) ?_
      obtain ⟨r19, hh20, hq⟩ := q_bd hq
      refine roV (ci := 4) (As := [.int v1, .int (v2 + 1), .int 0]) (rest := [.int r17, .int v1, .ref jo]) X K (k_X4_of l G g jo js jp ja jk jt jb un uy uw uq uz f16 up ua uk ut ub v1 (v2 + 1) 0 _ hh20) hd_X4_of gX4_leastEase_X4_of hP hl.1 dX4_leastEase_81 rfl rfl ⟨Nat.le_of_ble_eq_true rfl, Nat.le_of_ble_eq_true rfl⟩ rfl rfl rfl (Nat.le_of_ble_eq_true rfl) ⟨Nat.zero_le _, Nat.zero_le _⟩ ?_
      obtain ⟨r21, hh22, hq⟩ := q_bd hq
      refine roV (ci := 4) (As := [.int v1, .int r17, .int r19]) (rest := []) X K (k_X4_sumOf l G g jo js jp ja jk jt jb un uy uw uq uz f16 up ua uk ut ub v1 r17 r19 _ hh22) hd_X4_sumOf gX4_leastEase_X4_sumOf hP hl.1 dX4_leastEase_84 rfl rfl ⟨Nat.le_of_ble_eq_true rfl, Nat.le_of_ble_eq_true rfl⟩ rfl rfl rfl (Nat.le_of_ble_eq_true rfl) ⟨Nat.zero_le _, Nat.zero_le _⟩ ?_
      refine lv_lstore (lv' := [(9, .long r21), (0, .ref jo), (1, .int v1), (2, .int v2), (3, .int v3), (4, .int v4), (5, .int v5), (6, .long v6), (8, .int v7)]) hx hb dX4_leastEase_87 hl (by decide) rfl (fun ls hl => ?_)
      refine lv_iload hx hb dX4_leastEase_89 (lv_at hl 6 rfl) ?_
      refine lv_iconst (v := (-1)) hx hb dX4_leastEase_91 (by decide) ?_
      refine lv_icmp_eq (tgt := 103) hx hb dX4_leastEase_92 (by decide) (fun c23 => ?_) (fun c23 => ?_)
      · have hq := q_if_t hq c23
        refine lv_iconst (v := 1) hx hb dX4_leastEase_103 (by decide) ?_
        refine lv_goto (tgt := 108) hx hb dX4_leastEase_104 (by decide) ?_
        refine lv_istore (lv' := [(11, .int 1), (9, .long r21), (0, .ref jo), (1, .int v1), (2, .int v2), (3, .int v3), (4, .int v4), (5, .int v5), (6, .long v6), (8, .int v7)]) hx hb dX4_leastEase_108 hl (by decide) rfl (fun ls hl => ?_)
        refine lv_iload hx hb dX4_leastEase_110 (lv_at hl 0 rfl) ?_
        refine lv_if_eq (tgt := 120) hx hb dX4_leastEase_112 (by decide) (fun h => absurd h (by decide)) (fun _ => ?_)
        refine lv_iload hx hb dX4_leastEase_115 (lv_at hl 9 rfl) ?_
        refine lv_goto (tgt := 122) hx hb dX4_leastEase_117 (by decide) ?_
        refine lv_istore (lv' := [(5, .int v7), (11, .int 1), (9, .long r21), (0, .ref jo), (1, .int v1), (2, .int v2), (3, .int v3), (4, .int v4), (6, .long v6), (8, .int v7)]) hx hb dX4_leastEase_122 hl (by decide) rfl (fun ls hl => ?_)
        refine lv_iload hx hb dX4_leastEase_124 (lv_at hl 1 rfl) ?_
        refine lv_if_eq (tgt := 134) hx hb dX4_leastEase_126 (by decide) (fun h => absurd h (by decide)) (fun _ => ?_)
        refine lv_lload hx hb dX4_leastEase_129 (lv_at hl 2 rfl) ?_
        refine lv_goto (tgt := 136) hx hb dX4_leastEase_131 (by decide) ?_
        refine lv_lstore (lv' := [(6, .long r21), (5, .int v7), (11, .int 1), (9, .long r21), (0, .ref jo), (1, .int v1), (2, .int v2), (3, .int v3), (4, .int v4), (8, .int v7)]) hx hb dX4_leastEase_136 hl (by decide) rfl (fun ls hl => ?_)
        obtain ⟨x24, ex24⟩ : ∃ y : Int32, y = (v7 : Int32) + 1 := ⟨_, rfl⟩
        have hq := q_let hq ex24
        refine lv_iinc (v := x24) (lv' := [(8, .int x24), (6, .long r21), (5, .int v7), (11, .int 1), (9, .long r21), (0, .ref jo), (1, .int v1), (2, .int v2), (3, .int v3), (4, .int v4)]) hx hb dX4_leastEase_138 hl (k := 9) rfl (by rw [ex24]; rfl) (by decide) rfl (fun ls hl => ?_)
        refine lv_goto (tgt := 51) hx hb dX4_leastEase_141 (by decide) ?_
        exact ih f16 v7 r21 x24 hq _ _ hP hD hS ls (lv_sub hl [5, 6, 7, 8, 9, 2, 1, 0] rfl)
      · have hq := q_if_f hq c23
        refine lv_lload hx hb dX4_leastEase_95 (lv_at hl 0 rfl) ?_
        refine lv_lload hx hb dX4_leastEase_97 (lv_at hl 7 rfl) ?_
        refine W.lcmp hx hb dX4_leastEase_99 ?_
        refine lv_if_ge (tgt := 107) hx hb dX4_leastEase_100 (by decide) (fun c25 => ?_) (fun c25 => ?_)
        · have hq := q_if_t hq c25
          refine lv_iconst (v := 0) hx hb dX4_leastEase_107 (by decide) ?_
          refine lv_istore (lv' := [(11, .int 0), (9, .long r21), (0, .ref jo), (1, .int v1), (2, .int v2), (3, .int v3), (4, .int v4), (5, .int v5), (6, .long v6), (8, .int v7)]) hx hb dX4_leastEase_108 hl (by decide) rfl (fun ls hl => ?_)
          refine lv_iload hx hb dX4_leastEase_110 (lv_at hl 0 rfl) ?_
          refine lv_if_eq (tgt := 120) hx hb dX4_leastEase_112 (by decide) (fun _ => ?_) (fun h => absurd (by decide) h)
          refine lv_iload hx hb dX4_leastEase_120 (lv_at hl 7 rfl) ?_
          refine lv_istore (lv' := [(5, .int v5), (11, .int 0), (9, .long r21), (0, .ref jo), (1, .int v1), (2, .int v2), (3, .int v3), (4, .int v4), (6, .long v6), (8, .int v7)]) hx hb dX4_leastEase_122 hl (by decide) rfl (fun ls hl => ?_)
          refine lv_iload hx hb dX4_leastEase_124 (lv_at hl 1 rfl) ?_
          refine lv_if_eq (tgt := 134) hx hb dX4_leastEase_126 (by decide) (fun _ => ?_) (fun h => absurd (by decide) h)
          refine lv_lload hx hb dX4_leastEase_134 (lv_at hl 8 rfl) ?_
          refine lv_lstore (lv' := [(6, .long v6), (5, .int v5), (11, .int 0), (9, .long r21), (0, .ref jo), (1, .int v1), (2, .int v2), (3, .int v3), (4, .int v4), (8, .int v7)]) hx hb dX4_leastEase_136 hl (by decide) rfl (fun ls hl => ?_)
          obtain ⟨x26, ex26⟩ : ∃ y : Int32, y = (v7 : Int32) + 1 := ⟨_, rfl⟩
          have hq := q_let hq ex26
          refine lv_iinc (v := x26) (lv' := [(8, .int x26), (6, .long v6), (5, .int v5), (11, .int 0), (9, .long r21), (0, .ref jo), (1, .int v1), (2, .int v2), (3, .int v3), (4, .int v4)]) hx hb dX4_leastEase_138 hl (k := 9) rfl (by rw [ex26]; rfl) (by decide) rfl (fun ls hl => ?_)
          refine lv_goto (tgt := 51) hx hb dX4_leastEase_141 (by decide) ?_
          exact ih f16 v5 v6 x26 hq _ _ hP hD hS ls (lv_sub hl [5, 6, 7, 8, 9, 2, 1, 0] rfl)
        · have hq := q_if_f hq c25
          refine lv_iconst (v := 1) hx hb dX4_leastEase_103 (by decide) ?_
          refine lv_goto (tgt := 108) hx hb dX4_leastEase_104 (by decide) ?_
          refine lv_istore (lv' := [(11, .int 1), (9, .long r21), (0, .ref jo), (1, .int v1), (2, .int v2), (3, .int v3), (4, .int v4), (5, .int v5), (6, .long v6), (8, .int v7)]) hx hb dX4_leastEase_108 hl (by decide) rfl (fun ls hl => ?_)
          refine lv_iload hx hb dX4_leastEase_110 (lv_at hl 0 rfl) ?_
          refine lv_if_eq (tgt := 120) hx hb dX4_leastEase_112 (by decide) (fun h => absurd h (by decide)) (fun _ => ?_)
          refine lv_iload hx hb dX4_leastEase_115 (lv_at hl 9 rfl) ?_
          refine lv_goto (tgt := 122) hx hb dX4_leastEase_117 (by decide) ?_
          refine lv_istore (lv' := [(5, .int v7), (11, .int 1), (9, .long r21), (0, .ref jo), (1, .int v1), (2, .int v2), (3, .int v3), (4, .int v4), (6, .long v6), (8, .int v7)]) hx hb dX4_leastEase_122 hl (by decide) rfl (fun ls hl => ?_)
          refine lv_iload hx hb dX4_leastEase_124 (lv_at hl 1 rfl) ?_
          refine lv_if_eq (tgt := 134) hx hb dX4_leastEase_126 (by decide) (fun h => absurd h (by decide)) (fun _ => ?_)
          refine lv_lload hx hb dX4_leastEase_129 (lv_at hl 2 rfl) ?_
          refine lv_goto (tgt := 136) hx hb dX4_leastEase_131 (by decide) ?_
          refine lv_lstore (lv' := [(6, .long r21), (5, .int v7), (11, .int 1), (9, .long r21), (0, .ref jo), (1, .int v1), (2, .int v2), (3, .int v3), (4, .int v4), (8, .int v7)]) hx hb dX4_leastEase_136 hl (by decide) rfl (fun ls hl => ?_)
          obtain ⟨x27, ex27⟩ : ∃ y : Int32, y = (v7 : Int32) + 1 := ⟨_, rfl⟩
          have hq := q_let hq ex27
          refine lv_iinc (v := x27) (lv' := [(8, .int x27), (6, .long r21), (5, .int v7), (11, .int 1), (9, .long r21), (0, .ref jo), (1, .int v1), (2, .int v2), (3, .int v3), (4, .int v4)]) hx hb dX4_leastEase_138 hl (k := 9) rfl (by rw [ex27]; rfl) (by decide) rfl (fun ls hl => ?_)
          refine lv_goto (tgt := 51) hx hb dX4_leastEase_141 (by decide) ?_
          exact ih f16 v7 r21 x27 hq _ _ hP hD hS ls (lv_sub hl [5, 6, 7, 8, 9, 2, 1, 0] rfl)
def F_X4_leastEase (uw : Int32) (us : Nat → Int32) (p1 : Int32) (p2 : Int32) : Option (Int32 × Int32 × (Nat → Int32)) := (F_X4_isKey us p1 p2).bind fun r1 => if r1 = 0 then ((F_X4_fails uw 1).bind fun o7 => some (o7.1, o7.2, us)) else ((F_X4_many us p1).bind fun r8 => if p2 = (r8 - 1) then ((F_X4_fails uw 1).bind fun o19 => some (o19.1, o19.2, us)) else ((F_X4_spot p1 p2).bind fun r11 => vlet (r11 + 2) fun x13 => vgd (ix (x13) 388) <| vlet (us x13.toNatClampNeg) fun x15 => F_X4_leastEase_51 uw p1 p2 x13 x15 2000 us (-1) 0 0))
set_option maxHeartbeats 4000000 in
set_option maxRecDepth 100000 in
theorem k_X4_leastEase (l : Launch) (G : va_G) (g : Nat → ClassId) (jo js jp ja jk jt jb : Nat) (un : Int32) (uy : Int32) (uw : Int32) (uq : Int32) (uz : Int32) (us : Nat → Int32) (up : Nat → Int32) (ua : Nat → Int32) (uk : Nat → Int32) (ut : Nat → Int32) (ub : Nat → Int32) (p1 : Int32) (p2 : Int32) (res : Int32 × Int32 × (Nat → Int32)) (hq : F_X4_leastEase uw us p1 p2 = some res) : rwC l yX4_leastEase wsX4_leastEase (rmF 5 136) G g [.ref jo, .int p1, .int p2] [(jo, .inr (4, [.ref js, .ref jp, .ref ja, .ref jk, .int un, .ref jt, .int uy, .int uw, .ref jb, .int uq, .int uz])), (js, .inl (g 0, 388, .inl us)), (jp, .inl (g 0, 1552, .inl up)), (ja, .inl (g 0, 388, .inl ua)), (jk, .inl (g 0, 97, .inl uk)), (jt, .inl (g 0, 150, .inl ut)), (jb, .inl (g 0, 1000, .inl ub))] (some (.int res.1)) [(jo, .inr (4, [.ref js, .ref jp, .ref ja, .ref jk, .int un, .ref jt, .int uy, .int res.2.1, .ref jb, .int uq, .int uz])), (js, .inl (g 0, 388, .inl res.2.2)), (jp, .inl (g 0, 1552, .inl up)), (ja, .inl (g 0, 388, .inl ua)), (jk, .inl (g 0, 97, .inl uk)), (jt, .inl (g 0, 150, .inl ut)), (jb, .inl (g 0, 1000, .inl ub))] := by
  refine rwC.of (cc := cX4_leastEase) (maxL := 12) (ret := (some .int)) (by decide) rfl (Nat.le_of_ble_eq_true rfl) ?_
  intro p e s m below meth c ls A X K hA hP hD hS hl
  obtain ⟨hx, hb, hml, hr, hown, hts, hk⟩ := id X
  have hl : lv_has ls 12 [(0, .ref jo), (1, .int p1), (2, .int p2)] := hl
  unfold F_X4_leastEase at hq
  refine lv_aload_n hx hb dX4_leastEase_0 rfl (lv_at hl 0 rfl) ?_
  refine lv_iload_n hx hb dX4_leastEase_1 rfl (lv_at hl 1 rfl) ?_
  refine lv_iload_n hx hb dX4_leastEase_2 rfl (lv_at hl 2 rfl) ?_
  obtain ⟨r1, hh2, hq⟩ := q_bd hq
  refine roV (ci := 4) (As := [.int p1, .int p2]) (rest := []) X K (k_X4_isKey l G g jo js jp ja jk jt jb un uy uw uq uz us up ua uk ut ub p1 p2 _ hh2) hd_X4_isKey gX4_leastEase_X4_isKey hP hl.1 dX4_leastEase_3 rfl rfl ⟨Nat.le_of_ble_eq_true rfl, Nat.le_of_ble_eq_true rfl⟩ rfl rfl rfl (Nat.le_of_ble_eq_true rfl) ⟨Nat.zero_le _, Nat.zero_le _⟩ ?_
  refine lv_if_eq (tgt := 20) hx hb dX4_leastEase_6 (by decide) (fun c3 => ?_) (fun c3 => ?_)
  · have hq := q_if_t hq c3
    refine lv_aload_n hx hb dX4_leastEase_20 rfl (lv_at hl 0 rfl) ?_
    refine lv_iconst (v := 1) hx hb dX4_leastEase_21 (by decide) ?_
    obtain ⟨⟨r4, y5⟩, hh6, hq⟩ := q_bd hq
    refine rwV (ci := 4) (wr := []) (As := [.int 1]) (rest := []) X K (k_X4_fails l G g jo js jp ja jk jt jb un uy uw uq uz us up ua uk ut ub 1 _ hh6) hd_X4_fails gX4_leastEase_X4_fails hP hD hS hA [0, 1, 2, 3, 4, 5, 6] [] rfl rfl ⟨by decide, by decide, by decide⟩ hl.1 dX4_leastEase_22 rfl rfl ⟨Nat.le_of_ble_eq_true rfl, Nat.le_of_ble_eq_true rfl⟩ rfl rfl rfl (Nat.le_of_ble_eq_true rfl) ⟨Nat.zero_le _, Nat.zero_le _⟩ (fun H locs hP hD hS => ?_)
    have hP : va_P G vwCl [(jo, .inr (4, [.ref js, .ref jp, .ref ja, .ref jk, .int un, .ref jt, .int uy, .int y5, .ref jb, .int uq, .int uz])), (js, .inl (g 0, 388, .inl us)), (jp, .inl (g 0, 1552, .inl up)), (ja, .inl (g 0, 388, .inl ua)), (jk, .inl (g 0, 97, .inl uk)), (jt, .inl (g 0, 150, .inl ut)), (jb, .inl (g 0, 1000, .inl ub))] H := hP
    have hD : va_D A [(jo, .inr (4, [.ref js, .ref jp, .ref ja, .ref jk, .int un, .ref jt, .int uy, .int y5, .ref jb, .int uq, .int uz])), (js, .inl (g 0, 388, .inl us)), (jp, .inl (g 0, 1552, .inl up)), (ja, .inl (g 0, 388, .inl ua)), (jk, .inl (g 0, 97, .inl uk)), (jt, .inl (g 0, 150, .inl ut)), (jb, .inl (g 0, 1000, .inl ub))] := hD
    obtain rfl := q_rt hq
    exact rw_iret hx hb hr hk hP hD hS dX4_leastEase_25
  · have hq := q_if_f hq c3
    refine lv_iload_n hx hb dX4_leastEase_9 rfl (lv_at hl 2 rfl) ?_
    refine lv_aload_n hx hb dX4_leastEase_10 rfl (lv_at hl 0 rfl) ?_
    refine lv_iload_n hx hb dX4_leastEase_11 rfl (lv_at hl 1 rfl) ?_
    obtain ⟨r8, hh9, hq⟩ := q_bd hq
    refine roV (ci := 4) (As := [.int p1]) (rest := [.int p2]) X K (k_X4_many l G g jo js jp ja jk jt jb un uy uw uq uz us up ua uk ut ub p1 _ hh9) hd_X4_many gX4_leastEase_X4_many hP hl.1 dX4_leastEase_12 rfl rfl ⟨Nat.le_of_ble_eq_true rfl, Nat.le_of_ble_eq_true rfl⟩ rfl rfl rfl (Nat.le_of_ble_eq_true rfl) ⟨Nat.zero_le _, Nat.zero_le _⟩ ?_
    refine lv_iconst (v := 1) hx hb dX4_leastEase_15 (by decide) ?_
    refine lv_isub hx hb dX4_leastEase_16 ?_
    refine lv_icmp_ne (tgt := 26) hx hb dX4_leastEase_17 (by decide) (fun c10 => ?_) (fun c10 => ?_)
    · have hq := q_if_f hq c10
      refine lv_iload_n hx hb dX4_leastEase_26 rfl (lv_at hl 1 rfl) ?_
      refine lv_iload_n hx hb dX4_leastEase_27 rfl (lv_at hl 2 rfl) ?_
      obtain ⟨r11, hh12, hq⟩ := q_bd hq
      refine roS (As := [.int p1, .int p2]) (rest := []) X K (k_X4_spot l G g p1 p2 _ hh12) hd_X4_spot gX4_leastEase_X4_spot (hP.sub [] rfl) hl.1 dX4_leastEase_28 rfl rfl ⟨Nat.le_of_ble_eq_true rfl, Nat.le_of_ble_eq_true rfl⟩ rfl (Nat.le_of_ble_eq_true rfl) ⟨Nat.zero_le _, Nat.zero_le _⟩ ?_
      refine lv_iconst (v := 2) hx hb dX4_leastEase_31 (by decide) ?_
      refine lv_iadd hx hb dX4_leastEase_32 ?_
      refine lv_topi (fun x13 ex13 => ?_)
      have hq := q_let hq ex13
      refine lv_istore_n (lv' := [(3, .int x13), (0, .ref jo), (1, .int p1), (2, .int p2)]) hx hb dX4_leastEase_33 rfl hl (by decide) rfl (fun ls hl => ?_)
      refine lv_aload_n hx hb dX4_leastEase_34 rfl (lv_at hl 1 rfl) ?_
      refine va_get (D := G) (ci := 4) (v := .ref js) (C := RX4) (T := TX4) (N := 11) hx hb hts in_X4_leastEase_X4 hown K.1 hP 0 rfl rfl 0 (by decide) (hts _ (List.mem_of_getElem? (i := 1) rfl)) (fun _ h9 => h9) rfl dX4_leastEase_35 ?_
      refine lv_iload_n hx hb dX4_leastEase_38 rfl (lv_at hl 0 rfl) ?_
      obtain ⟨hh14, hq⟩ := q_gd hq
      refine va_iald hx hb K.1 hP 1 0 rfl rfl (vp_in_iff.mpr hh14) dX4_leastEase_39 ?_
      refine lv_topi (fun x15 ex15 => ?_)
      have hq := q_let hq ex15
      refine lv_istore (lv' := [(4, .int x15), (3, .int x13), (0, .ref jo), (1, .int p1), (2, .int p2)]) hx hb dX4_leastEase_40 hl (by decide) rfl (fun ls hl => ?_)
      refine lv_iconst (v := (-1)) hx hb dX4_leastEase_42 (by decide) ?_
      refine lv_istore (lv' := [(5, .int (-1)), (4, .int x15), (3, .int x13), (0, .ref jo), (1, .int p1), (2, .int p2)]) hx hb dX4_leastEase_43 hl (by decide) rfl (fun ls hl => ?_)
      refine lv_lconst (v := 0) hx hb dX4_leastEase_45 (by decide) ?_
      refine lv_lstore (lv' := [(6, .long 0), (5, .int (-1)), (4, .int x15), (3, .int x13), (0, .ref jo), (1, .int p1), (2, .int p2)]) hx hb dX4_leastEase_46 hl (by decide) rfl (fun ls hl => ?_)
      refine lv_iconst (v := 0) hx hb dX4_leastEase_48 (by decide) ?_
      refine lv_istore (lv' := [(8, .int 0), (6, .long 0), (5, .int (-1)), (4, .int x15), (3, .int x13), (0, .ref jo), (1, .int p1), (2, .int p2)]) hx hb dX4_leastEase_49 hl (by decide) rfl (fun ls hl => ?_)
      exact w_X4_leastEase_51 X K hA jo js jp ja jk jt jb un uy uq uz up ua uk ut ub uw p1 p2 x13 x15 _ 2000 us (-1) 0 0 hq _ _ hP hD hS ls (lv_sub hl [5, 6, 7, 4, 3, 2, 1, 0] rfl)
    · have hq := q_if_t hq c10
      refine lv_aload_n hx hb dX4_leastEase_20 rfl (lv_at hl 0 rfl) ?_
      refine lv_iconst (v := 1) hx hb dX4_leastEase_21 (by decide) ?_
      obtain ⟨⟨r16, y17⟩, hh18, hq⟩ := q_bd hq
      refine rwV (ci := 4) (wr := []) (As := [.int 1]) (rest := []) X K (k_X4_fails l G g jo js jp ja jk jt jb un uy uw uq uz us up ua uk ut ub 1 _ hh18) hd_X4_fails gX4_leastEase_X4_fails hP hD hS hA [0, 1, 2, 3, 4, 5, 6] [] rfl rfl ⟨by decide, by decide, by decide⟩ hl.1 dX4_leastEase_22 rfl rfl ⟨Nat.le_of_ble_eq_true rfl, Nat.le_of_ble_eq_true rfl⟩ rfl rfl rfl (Nat.le_of_ble_eq_true rfl) ⟨Nat.zero_le _, Nat.zero_le _⟩ (fun H locs hP hD hS => ?_)
      have hP : va_P G vwCl [(jo, .inr (4, [.ref js, .ref jp, .ref ja, .ref jk, .int un, .ref jt, .int uy, .int y17, .ref jb, .int uq, .int uz])), (js, .inl (g 0, 388, .inl us)), (jp, .inl (g 0, 1552, .inl up)), (ja, .inl (g 0, 388, .inl ua)), (jk, .inl (g 0, 97, .inl uk)), (jt, .inl (g 0, 150, .inl ut)), (jb, .inl (g 0, 1000, .inl ub))] H := hP
      have hD : va_D A [(jo, .inr (4, [.ref js, .ref jp, .ref ja, .ref jk, .int un, .ref jt, .int uy, .int y17, .ref jb, .int uq, .int uz])), (js, .inl (g 0, 388, .inl us)), (jp, .inl (g 0, 1552, .inl up)), (ja, .inl (g 0, 388, .inl ua)), (jk, .inl (g 0, 97, .inl uk)), (jt, .inl (g 0, 150, .inl ut)), (jb, .inl (g 0, 1000, .inl ub))] := hD
      obtain rfl := q_rt hq
      exact rw_iret hx hb hr hk hP hD hS dX4_leastEase_25
theorem in_X4_append_X4 : ∀ w ∈ wsX40, w ∈ wsX4_append := fun _ h => List.mem_cons_of_mem _ (List.mem_append_right _ h)
def F_X4_append (uy : Int32) (uw : Int32) (ut : Nat → Int32) (p1 : Int32) : Option (Int32 × Int32 × Int32 × (Nat → Int32)) := (F_X4_in p1 0 127).bind fun r1 => if r1 = 0 then ((F_X4_fails uw 1).bind fun o19 => some (o19.1, uy, o19.2, ut)) else (if uy = 150 then ((F_X4_fails uw 2).bind fun o15 => some (o15.1, uy, o15.2, ut)) else (vgd (ix (uy) 150) <| vlet (upd ut uy.toNatClampNeg p1) fun f6 => vlet (uy + 1) fun x7 => (F_X4_tells uw x7).bind fun o11 => some (o11.1, x7, o11.2, f6)))
set_option maxHeartbeats 4000000 in
set_option maxRecDepth 100000 in
theorem k_X4_append (l : Launch) (G : va_G) (g : Nat → ClassId) (jo js jp ja jk jt jb : Nat) (un : Int32) (uy : Int32) (uw : Int32) (uq : Int32) (uz : Int32) (us : Nat → Int32) (up : Nat → Int32) (ua : Nat → Int32) (uk : Nat → Int32) (ut : Nat → Int32) (ub : Nat → Int32) (p1 : Int32) (res : Int32 × Int32 × Int32 × (Nat → Int32)) (hq : F_X4_append uy uw ut p1 = some res) : rwC l yX4_append wsX4_append (rmF 1 22) G g [.ref jo, .int p1] [(jo, .inr (4, [.ref js, .ref jp, .ref ja, .ref jk, .int un, .ref jt, .int uy, .int uw, .ref jb, .int uq, .int uz])), (js, .inl (g 0, 388, .inl us)), (jp, .inl (g 0, 1552, .inl up)), (ja, .inl (g 0, 388, .inl ua)), (jk, .inl (g 0, 97, .inl uk)), (jt, .inl (g 0, 150, .inl ut)), (jb, .inl (g 0, 1000, .inl ub))] (some (.int res.1)) [(jo, .inr (4, [.ref js, .ref jp, .ref ja, .ref jk, .int un, .ref jt, .int res.2.1, .int res.2.2.1, .ref jb, .int uq, .int uz])), (js, .inl (g 0, 388, .inl us)), (jp, .inl (g 0, 1552, .inl up)), (ja, .inl (g 0, 388, .inl ua)), (jk, .inl (g 0, 97, .inl uk)), (jt, .inl (g 0, 150, .inl res.2.2.2)), (jb, .inl (g 0, 1000, .inl ub))] := by
  refine rwC.of (cc := cX4_append) (maxL := 2) (ret := (some .int)) (by decide) rfl (Nat.le_of_ble_eq_true rfl) ?_
  intro p e s m below meth c ls A X K hA hP hD hS hl
  obtain ⟨hx, hb, hml, hr, hown, hts, hk⟩ := id X
  have hl : lv_has ls 2 [(0, .ref jo), (1, .int p1)] := hl
  unfold F_X4_append at hq
  refine lv_iload_n hx hb dX4_append_0 rfl (lv_at hl 1 rfl) ?_
  refine lv_iconst (v := 0) hx hb dX4_append_1 (by decide) ?_
  refine lv_bipush (v := 127) hx hb dX4_append_2 (by decide) ?_
  obtain ⟨r1, hh2, hq⟩ := q_bd hq
  refine roS (As := [.int p1, .int 0, .int 127]) (rest := []) X K (k_X4_in l G g p1 0 127 _ hh2) hd_X4_in gX4_append_X4_in (hP.sub [] rfl) hl.1 dX4_append_4 rfl rfl ⟨Nat.le_of_ble_eq_true rfl, Nat.le_of_ble_eq_true rfl⟩ rfl (Nat.le_of_ble_eq_true rfl) ⟨Nat.zero_le _, Nat.zero_le _⟩ ?_
  refine lv_if_ne (tgt := 16) hx hb dX4_append_7 (by decide) (fun c3 => ?_) (fun c3 => ?_)
  · have hq := q_if_f hq c3
    refine lv_aload_n hx hb dX4_append_16 rfl (lv_at hl 0 rfl) ?_
    refine va_get (D := G) (ci := 4) (v := .int uy) (C := RX4) (T := TX4) (N := 11) hx hb hts in_X4_append_X4 hown K.1 hP 0 rfl rfl 6 (by decide) (hts _ (List.mem_of_getElem? (i := 1) rfl)) (fun _ h9 => h9) rfl dX4_append_17 ?_
    refine lv_sipush (v := 150) hx hb dX4_append_20 (by decide) ?_
    refine lv_icmp_ne (tgt := 32) hx hb dX4_append_23 (by decide) (fun c4 => ?_) (fun c4 => ?_)
    · have hq := q_if_f hq c4
      refine lv_aload_n hx hb dX4_append_32 rfl (lv_at hl 0 rfl) ?_
      refine va_get (D := G) (ci := 4) (v := .ref jt) (C := RX4) (T := TX4) (N := 11) hx hb hts in_X4_append_X4 hown K.1 hP 0 rfl rfl 5 (by decide) (hts _ (List.mem_of_getElem? (i := 2) rfl)) (fun _ h9 => h9) rfl dX4_append_33 ?_
      refine lv_aload_n hx hb dX4_append_36 rfl (lv_at hl 0 rfl) ?_
      refine va_get (D := G) (ci := 4) (v := .int uy) (C := RX4) (T := TX4) (N := 11) hx hb hts in_X4_append_X4 hown K.1 hP 0 rfl rfl 6 (by decide) (hts _ (List.mem_of_getElem? (i := 1) rfl)) (fun _ h9 => h9) rfl dX4_append_37 ?_
      refine lv_iload_n hx hb dX4_append_40 rfl (lv_at hl 1 rfl) ?_
      obtain ⟨hh5, hq⟩ := q_gd hq
      refine va_iast hx hb K.1 hP hD hS 5 0 rfl rfl (vp_in_iff.mpr hh5) dX4_append_41 (fun H locs hP hD hS => ?_)
      obtain ⟨f6, ef6⟩ : ∃ y, y = upd ut uy.toNatClampNeg p1 := ⟨_, rfl⟩
      have hq := q_let hq ef6
      have hP : va_P G vwCl [(jo, .inr (4, [.ref js, .ref jp, .ref ja, .ref jk, .int un, .ref jt, .int uy, .int uw, .ref jb, .int uq, .int uz])), (js, .inl (g 0, 388, .inl us)), (jp, .inl (g 0, 1552, .inl up)), (ja, .inl (g 0, 388, .inl ua)), (jk, .inl (g 0, 97, .inl uk)), (jt, .inl (g 0, 150, .inl f6)), (jb, .inl (g 0, 1000, .inl ub))] H := by rw [ef6]; exact hP
      have hD : va_D A [(jo, .inr (4, [.ref js, .ref jp, .ref ja, .ref jk, .int un, .ref jt, .int uy, .int uw, .ref jb, .int uq, .int uz])), (js, .inl (g 0, 388, .inl us)), (jp, .inl (g 0, 1552, .inl up)), (ja, .inl (g 0, 388, .inl ua)), (jk, .inl (g 0, 97, .inl uk)), (jt, .inl (g 0, 150, .inl f6)), (jb, .inl (g 0, 1000, .inl ub))] := by rw [ef6]; exact hD
      refine lv_aload_n hx hb dX4_append_42 rfl (lv_at hl 0 rfl) ?_
      refine lv_dup hx hb dX4_append_43 rfl ?_
      refine va_get (D := G) (ci := 4) (v := .int uy) (C := RX4) (T := TX4) (N := 11) hx hb hts in_X4_append_X4 hown K.1 hP 0 rfl rfl 6 (by decide) (hts _ (List.mem_of_getElem? (i := 1) rfl)) (fun _ h9 => h9) rfl dX4_append_44 ?_
      refine lv_iconst (v := 1) hx hb dX4_append_47 (by decide) ?_
      refine lv_iadd hx hb dX4_append_48 ?_
      refine lv_topi (fun x7 ex7 => ?_)
      have hq := q_let hq ex7
      refine va_put (D := G) (ci := 4) (v := .int x7) (ty := .int) (C := RX4) (T := TX4) (N := 11) hx hb hts in_X4_append_X4 tyX4 tyX4_ok nmX4 hown K.1 hP hD hS 0 rfl rfl 6 (by decide) (hts _ (List.mem_of_getElem? (i := 1) rfl)) (fun _ h9 => h9) rfl (by decide +kernel) rfl rfl (Nat.le_of_ble_eq_true rfl) dX4_append_49 (fun H locs hP hD hS => ?_)
      have hP : va_P G vwCl [(jo, .inr (4, [.ref js, .ref jp, .ref ja, .ref jk, .int un, .ref jt, .int x7, .int uw, .ref jb, .int uq, .int uz])), (js, .inl (g 0, 388, .inl us)), (jp, .inl (g 0, 1552, .inl up)), (ja, .inl (g 0, 388, .inl ua)), (jk, .inl (g 0, 97, .inl uk)), (jt, .inl (g 0, 150, .inl f6)), (jb, .inl (g 0, 1000, .inl ub))] H := hP
      have hD : va_D A [(jo, .inr (4, [.ref js, .ref jp, .ref ja, .ref jk, .int un, .ref jt, .int x7, .int uw, .ref jb, .int uq, .int uz])), (js, .inl (g 0, 388, .inl us)), (jp, .inl (g 0, 1552, .inl up)), (ja, .inl (g 0, 388, .inl ua)), (jk, .inl (g 0, 97, .inl uk)), (jt, .inl (g 0, 150, .inl f6)), (jb, .inl (g 0, 1000, .inl ub))] := hD
      refine lv_aload_n hx hb dX4_append_52 rfl (lv_at hl 0 rfl) ?_
      refine lv_aload_n hx hb dX4_append_53 rfl (lv_at hl 0 rfl) ?_
      refine va_get (D := G) (ci := 4) (v := .int x7) (C := RX4) (T := TX4) (N := 11) hx hb hts in_X4_append_X4 hown K.1 hP 0 rfl rfl 6 (by decide) (hts _ (List.mem_of_getElem? (i := 1) rfl)) (fun _ h9 => h9) rfl dX4_append_54 ?_
      obtain ⟨⟨r8, y9⟩, hh10, hq⟩ := q_bd hq
      refine rwV (ci := 4) (wr := []) (As := [.int x7]) (rest := []) X K (k_X4_tells l G g jo js jp ja jk jt jb un x7 uw uq uz us up ua uk f6 ub x7 _ hh10) hd_X4_tells gX4_append_X4_tells hP hD hS hA [0, 1, 2, 3, 4, 5, 6] [] rfl rfl ⟨by decide, by decide, by decide⟩ hl.1 dX4_append_57 rfl rfl ⟨Nat.le_of_ble_eq_true rfl, Nat.le_of_ble_eq_true rfl⟩ rfl rfl rfl (Nat.le_of_ble_eq_true rfl) ⟨Nat.zero_le _, Nat.zero_le _⟩ (fun H locs hP hD hS => ?_)
      have hP : va_P G vwCl [(jo, .inr (4, [.ref js, .ref jp, .ref ja, .ref jk, .int un, .ref jt, .int x7, .int y9, .ref jb, .int uq, .int uz])), (js, .inl (g 0, 388, .inl us)), (jp, .inl (g 0, 1552, .inl up)), (ja, .inl (g 0, 388, .inl ua)), (jk, .inl (g 0, 97, .inl uk)), (jt, .inl (g 0, 150, .inl f6)), (jb, .inl (g 0, 1000, .inl ub))] H := hP
      have hD : va_D A [(jo, .inr (4, [.ref js, .ref jp, .ref ja, .ref jk, .int un, .ref jt, .int x7, .int y9, .ref jb, .int uq, .int uz])), (js, .inl (g 0, 388, .inl us)), (jp, .inl (g 0, 1552, .inl up)), (ja, .inl (g 0, 388, .inl ua)), (jk, .inl (g 0, 97, .inl uk)), (jt, .inl (g 0, 150, .inl f6)), (jb, .inl (g 0, 1000, .inl ub))] := hD
      obtain rfl := q_rt hq
      exact rw_iret hx hb hr hk hP hD hS dX4_append_60
    · have hq := q_if_t hq c4
      refine lv_aload_n hx hb dX4_append_26 rfl (lv_at hl 0 rfl) ?_
      refine lv_iconst (v := 2) hx hb dX4_append_27 (by decide) ?_
      obtain ⟨⟨r12, y13⟩, hh14, hq⟩ := q_bd hq
      refine rwV (ci := 4) (wr := []) (As := [.int 2]) (rest := []) X K (k_X4_fails l G g jo js jp ja jk jt jb un uy uw uq uz us up ua uk ut ub 2 _ hh14) hd_X4_fails gX4_append_X4_fails hP hD hS hA [0, 1, 2, 3, 4, 5, 6] [] rfl rfl ⟨by decide, by decide, by decide⟩ hl.1 dX4_append_28 rfl rfl ⟨Nat.le_of_ble_eq_true rfl, Nat.le_of_ble_eq_true rfl⟩ rfl rfl rfl (Nat.le_of_ble_eq_true rfl) ⟨Nat.zero_le _, Nat.zero_le _⟩ (fun H locs hP hD hS => ?_)
      have hP : va_P G vwCl [(jo, .inr (4, [.ref js, .ref jp, .ref ja, .ref jk, .int un, .ref jt, .int uy, .int y13, .ref jb, .int uq, .int uz])), (js, .inl (g 0, 388, .inl us)), (jp, .inl (g 0, 1552, .inl up)), (ja, .inl (g 0, 388, .inl ua)), (jk, .inl (g 0, 97, .inl uk)), (jt, .inl (g 0, 150, .inl ut)), (jb, .inl (g 0, 1000, .inl ub))] H := hP
      have hD : va_D A [(jo, .inr (4, [.ref js, .ref jp, .ref ja, .ref jk, .int un, .ref jt, .int uy, .int y13, .ref jb, .int uq, .int uz])), (js, .inl (g 0, 388, .inl us)), (jp, .inl (g 0, 1552, .inl up)), (ja, .inl (g 0, 388, .inl ua)), (jk, .inl (g 0, 97, .inl uk)), (jt, .inl (g 0, 150, .inl ut)), (jb, .inl (g 0, 1000, .inl ub))] := hD
      obtain rfl := q_rt hq
      exact rw_iret hx hb hr hk hP hD hS dX4_append_31
  · have hq := q_if_t hq c3
    refine lv_aload_n hx hb dX4_append_10 rfl (lv_at hl 0 rfl) ?_
    refine lv_iconst (v := 1) hx hb dX4_append_11 (by decide) ?_
    obtain ⟨⟨r16, y17⟩, hh18, hq⟩ := q_bd hq
    refine rwV (ci := 4) (wr := []) (As := [.int 1]) (rest := []) X K (k_X4_fails l G g jo js jp ja jk jt jb un uy uw uq uz us up ua uk ut ub 1 _ hh18) hd_X4_fails gX4_append_X4_fails hP hD hS hA [0, 1, 2, 3, 4, 5, 6] [] rfl rfl ⟨by decide, by decide, by decide⟩ hl.1 dX4_append_12 rfl rfl ⟨Nat.le_of_ble_eq_true rfl, Nat.le_of_ble_eq_true rfl⟩ rfl rfl rfl (Nat.le_of_ble_eq_true rfl) ⟨Nat.zero_le _, Nat.zero_le _⟩ (fun H locs hP hD hS => ?_)
    have hP : va_P G vwCl [(jo, .inr (4, [.ref js, .ref jp, .ref ja, .ref jk, .int un, .ref jt, .int uy, .int y17, .ref jb, .int uq, .int uz])), (js, .inl (g 0, 388, .inl us)), (jp, .inl (g 0, 1552, .inl up)), (ja, .inl (g 0, 388, .inl ua)), (jk, .inl (g 0, 97, .inl uk)), (jt, .inl (g 0, 150, .inl ut)), (jb, .inl (g 0, 1000, .inl ub))] H := hP
    have hD : va_D A [(jo, .inr (4, [.ref js, .ref jp, .ref ja, .ref jk, .int un, .ref jt, .int uy, .int y17, .ref jb, .int uq, .int uz])), (js, .inl (g 0, 388, .inl us)), (jp, .inl (g 0, 1552, .inl up)), (ja, .inl (g 0, 388, .inl ua)), (jk, .inl (g 0, 97, .inl uk)), (jt, .inl (g 0, 150, .inl ut)), (jb, .inl (g 0, 1000, .inl ub))] := hD
    obtain rfl := q_rt hq
    exact rw_iret hx hb hr hk hP hD hS dX4_append_15
theorem in_X4_clearText_X4 : ∀ w ∈ wsX40, w ∈ wsX4_clearText := fun _ h => List.mem_cons_of_mem _ (List.mem_append_right _ h)
def F_X4_clearText (uy : Int32) (uw : Int32) : Option (Int32 × Int32 × Int32) := (F_X4_tells uw uy).bind fun o4 => some (o4.1, 0, o4.2)
set_option maxHeartbeats 4000000 in
set_option maxRecDepth 100000 in
theorem k_X4_clearText (l : Launch) (G : va_G) (g : Nat → ClassId) (jo js jp ja jk jt jb : Nat) (un : Int32) (uy : Int32) (uw : Int32) (uq : Int32) (uz : Int32) (us : Nat → Int32) (up : Nat → Int32) (ua : Nat → Int32) (uk : Nat → Int32) (ut : Nat → Int32) (ub : Nat → Int32) (res : Int32 × Int32 × Int32) (hq : F_X4_clearText uy uw = some res) : rwC l yX4_clearText wsX4_clearText (rmF 1 21) G g [.ref jo] [(jo, .inr (4, [.ref js, .ref jp, .ref ja, .ref jk, .int un, .ref jt, .int uy, .int uw, .ref jb, .int uq, .int uz])), (js, .inl (g 0, 388, .inl us)), (jp, .inl (g 0, 1552, .inl up)), (ja, .inl (g 0, 388, .inl ua)), (jk, .inl (g 0, 97, .inl uk)), (jt, .inl (g 0, 150, .inl ut)), (jb, .inl (g 0, 1000, .inl ub))] (some (.int res.1)) [(jo, .inr (4, [.ref js, .ref jp, .ref ja, .ref jk, .int un, .ref jt, .int res.2.1, .int res.2.2, .ref jb, .int uq, .int uz])), (js, .inl (g 0, 388, .inl us)), (jp, .inl (g 0, 1552, .inl up)), (ja, .inl (g 0, 388, .inl ua)), (jk, .inl (g 0, 97, .inl uk)), (jt, .inl (g 0, 150, .inl ut)), (jb, .inl (g 0, 1000, .inl ub))] := by
  refine rwC.of (cc := cX4_clearText) (maxL := 2) (ret := (some .int)) (by decide) rfl (Nat.le_of_ble_eq_true rfl) ?_
  intro p e s m below meth c ls A X K hA hP hD hS hl
  obtain ⟨hx, hb, hml, hr, hown, hts, hk⟩ := id X
  have hl : lv_has ls 2 [(0, .ref jo)] := hl
  unfold F_X4_clearText at hq
  refine lv_aload_n hx hb dX4_clearText_0 rfl (lv_at hl 0 rfl) ?_
  refine va_get (D := G) (ci := 4) (v := .int uy) (C := RX4) (T := TX4) (N := 11) hx hb hts in_X4_clearText_X4 hown K.1 hP 0 rfl rfl 6 (by decide) (hts _ (List.mem_of_getElem? (i := 1) rfl)) (fun _ h9 => h9) rfl dX4_clearText_1 ?_
  refine lv_istore_n (lv' := [(1, .int uy), (0, .ref jo)]) hx hb dX4_clearText_4 rfl hl (by decide) rfl (fun ls hl => ?_)
  refine lv_aload_n hx hb dX4_clearText_5 rfl (lv_at hl 1 rfl) ?_
  refine lv_iconst (v := 0) hx hb dX4_clearText_6 (by decide) ?_
  refine va_put (D := G) (ci := 4) (v := .int 0) (ty := .int) (C := RX4) (T := TX4) (N := 11) hx hb hts in_X4_clearText_X4 tyX4 tyX4_ok nmX4 hown K.1 hP hD hS 0 rfl rfl 6 (by decide) (hts _ (List.mem_of_getElem? (i := 1) rfl)) (fun _ h9 => h9) rfl (by decide +kernel) rfl rfl (Nat.le_of_ble_eq_true rfl) dX4_clearText_7 (fun H locs hP hD hS => ?_)
  have hP : va_P G vwCl [(jo, .inr (4, [.ref js, .ref jp, .ref ja, .ref jk, .int un, .ref jt, .int 0, .int uw, .ref jb, .int uq, .int uz])), (js, .inl (g 0, 388, .inl us)), (jp, .inl (g 0, 1552, .inl up)), (ja, .inl (g 0, 388, .inl ua)), (jk, .inl (g 0, 97, .inl uk)), (jt, .inl (g 0, 150, .inl ut)), (jb, .inl (g 0, 1000, .inl ub))] H := hP
  have hD : va_D A [(jo, .inr (4, [.ref js, .ref jp, .ref ja, .ref jk, .int un, .ref jt, .int 0, .int uw, .ref jb, .int uq, .int uz])), (js, .inl (g 0, 388, .inl us)), (jp, .inl (g 0, 1552, .inl up)), (ja, .inl (g 0, 388, .inl ua)), (jk, .inl (g 0, 97, .inl uk)), (jt, .inl (g 0, 150, .inl ut)), (jb, .inl (g 0, 1000, .inl ub))] := hD
  refine lv_aload_n hx hb dX4_clearText_10 rfl (lv_at hl 1 rfl) ?_
  refine lv_iload_n hx hb dX4_clearText_11 rfl (lv_at hl 0 rfl) ?_
  obtain ⟨⟨r1, y2⟩, hh3, hq⟩ := q_bd hq
  refine rwV (ci := 4) (wr := []) (As := [.int uy]) (rest := []) X K (k_X4_tells l G g jo js jp ja jk jt jb un 0 uw uq uz us up ua uk ut ub uy _ hh3) hd_X4_tells gX4_clearText_X4_tells hP hD hS hA [0, 1, 2, 3, 4, 5, 6] [] rfl rfl ⟨by decide, by decide, by decide⟩ hl.1 dX4_clearText_12 rfl rfl ⟨Nat.le_of_ble_eq_true rfl, Nat.le_of_ble_eq_true rfl⟩ rfl rfl rfl (Nat.le_of_ble_eq_true rfl) ⟨Nat.zero_le _, Nat.zero_le _⟩ (fun H locs hP hD hS => ?_)
  have hP : va_P G vwCl [(jo, .inr (4, [.ref js, .ref jp, .ref ja, .ref jk, .int un, .ref jt, .int 0, .int y2, .ref jb, .int uq, .int uz])), (js, .inl (g 0, 388, .inl us)), (jp, .inl (g 0, 1552, .inl up)), (ja, .inl (g 0, 388, .inl ua)), (jk, .inl (g 0, 97, .inl uk)), (jt, .inl (g 0, 150, .inl ut)), (jb, .inl (g 0, 1000, .inl ub))] H := hP
  have hD : va_D A [(jo, .inr (4, [.ref js, .ref jp, .ref ja, .ref jk, .int un, .ref jt, .int 0, .int y2, .ref jb, .int uq, .int uz])), (js, .inl (g 0, 388, .inl us)), (jp, .inl (g 0, 1552, .inl up)), (ja, .inl (g 0, 388, .inl ua)), (jk, .inl (g 0, 97, .inl uk)), (jt, .inl (g 0, 150, .inl ut)), (jb, .inl (g 0, 1000, .inl ub))] := hD
  obtain rfl := q_rt hq
  exact rw_iret hx hb hr hk hP hD hS dX4_clearText_15
theorem hd_X4_isItem : ynm yX4_isItem 1 := by unfold ynm; decide +kernel
theorem in_X4_parse_X4 : ∀ w ∈ wsX40, w ∈ wsX4_parse := fun _ h => List.mem_cons_of_mem _ (List.mem_append_right _ h)
def F_X4_parse_82 (un : Int32) (uy : Int32) (uw : Int32) (uq : Int32) (uz : Int32) (up : Nat → Int32) (ua : Nat → Int32) (ut : Nat → Int32) (v1 : Int32) : Nat → (Nat → Int32) → Int32 → Option (Int32 × Int32 × Int32 × Int32 × Int32 × (Nat → Int32) × (Nat → Int32) × (Nat → Int32))
  | 0, _, _ => none
  | n + 1, us, v2 => if (388 : Int32) ≤ v2 then (if v1 = 0 then ((F_X4_tells uw (((-10) : Int32) - uq)).bind fun o8 => some (o8.1, un, o8.2, uq, uz, us, up, ua)) else ((F_X4_fails uw 2).bind fun o12 => some (o12.1, un, o12.2, uq, uz, us, up, ua))) else (vgd (ix (v2) 388) <| vgd (ix (v2) 388) <| vlet (upd us v2.toNatClampNeg (ua v2.toNatClampNeg)) fun f15 => vlet ((v2 : Int32) + 1) fun x16 => F_X4_parse_82 un uy uw uq uz up ua ut v1 n f15 x16)
set_option maxHeartbeats 4000000 in
set_option maxRecDepth 100000 in
theorem w_X4_parse_82 {p : Program} {l : Launch} {e : Env} {s : State} {m : MethodId} {args : Array Value} {below : List Frame} {meth : Method} {c : Code} {G : va_G} {g : Nat → ClassId} (X : cx p s m args meth c cX4_parse 6 (some .int) RX4 wsX4_parse) (K : amb G g s) {A : Nat → Prop} (hA : ∀ q : Nat, s.heap.size ≤ q → A q) (jo js jp ja jk jt jb : Nat) (uk : Nat → Int32) (ub : Nat → Int32) (un : Int32) (uy : Int32) (uw : Int32) (uq : Int32) (uz : Int32) (up : Nat → Int32) (ua : Nat → Int32) (ut : Nat → Int32) (v1 : Int32) (res : Int32 × Int32 × Int32 × Int32 × Int32 × (Nat → Int32) × (Nat → Int32) × (Nat → Int32)) : ∀ (n : Nat) (us : Nat → Int32) (v2 : Int32), F_X4_parse_82 un uy uw uq uz up ua ut v1 n us v2 = some res → ∀ (H : Heap) (locs : List Loc), va_P G vwCl [(jo, .inr (4, [.ref js, .ref jp, .ref ja, .ref jk, .int un, .ref jt, .int uy, .int uw, .ref jb, .int uq, .int uz])), (js, .inl (g 0, 388, .inl us)), (jp, .inl (g 0, 1552, .inl up)), (ja, .inl (g 0, 388, .inl ua)), (jk, .inl (g 0, 97, .inl uk)), (jt, .inl (g 0, 150, .inl ut)), (jb, .inl (g 0, 1000, .inl ub))] H → va_D A [(jo, .inr (4, [.ref js, .ref jp, .ref ja, .ref jk, .int un, .ref jt, .int uy, .int uw, .ref jb, .int uq, .int uz])), (js, .inl (g 0, 388, .inl us)), (jp, .inl (g 0, 1552, .inl up)), (ja, .inl (g 0, 388, .inl ua)), (jk, .inl (g 0, 97, .inl uk)), (jt, .inl (g 0, 150, .inl ut)), (jb, .inl (g 0, 1000, .inl ub))] → va_S A s.heap H locs → ∀ (ls : Array Slot), lv_has ls 6 [(0, .ref jo), (3, .int v1), (5, .int v2)] → W p l e (rmF 4 100) s m args below meth c H locs 0 0 (rwM G A below (some (.int res.1)) [(jo, .inr (4, [.ref js, .ref jp, .ref ja, .ref jk, .int res.2.1, .ref jt, .int uy, .int res.2.2.1, .ref jb, .int res.2.2.2.1, .int res.2.2.2.2.1])), (js, .inl (g 0, 388, .inl res.2.2.2.2.2.1)), (jp, .inl (g 0, 1552, .inl res.2.2.2.2.2.2.1)), (ja, .inl (g 0, 388, .inl res.2.2.2.2.2.2.2)), (jk, .inl (g 0, 97, .inl uk)), (jt, .inl (g 0, 150, .inl ut)), (jb, .inl (g 0, 1000, .inl ub))] args s) (F0 m 82 ls []) := by
  obtain ⟨hx, hb, hml, hr, hown, hts, hk⟩ := id X
  intro n
  induction n with
  | zero => intro us v2 hq; exact q_no hq
  | succ n ih =>
    intro us v2 hq H locs hP hD hS ls hl
    rw [F_X4_parse_82] at hq
    refine lv_iload hx hb dX4_parse_82 (lv_at hl 2 rfl) ?_
    refine lv_sipush (v := 388) hx hb dX4_parse_84 (by decide) ?_
    refine lv_icmp_ge (tgt := 110) hx hb dX4_parse_87 (by decide) (fun c3 => ?_) (fun c3 => ?_)
    · have hq := q_if_t hq c3
      refine lv_iload_n hx hb dX4_parse_110 rfl (lv_at hl 1 rfl) ?_
      refine lv_if_eq (tgt := 122) hx hb dX4_parse_111 (by decide) (fun c4 => ?_) (fun c4 => ?_)
      · have hq := q_if_t hq c4
        refine lv_aload_n hx hb dX4_parse_122 rfl (lv_at hl 0 rfl) ?_
        refine lv_bipush (v := (-10)) hx hb dX4_parse_123 (by decide) ?_
        refine lv_aload_n hx hb dX4_parse_125 rfl (lv_at hl 0 rfl) ?_
        refine va_get (D := G) (ci := 4) (v := .int uq) (C := RX4) (T := TX4) (N := 11) hx hb hts in_X4_parse_X4 hown K.1 hP 0 rfl rfl 9 (by decide) (hts _ (List.mem_of_getElem? (i := 2) rfl)) (fun _ h9 => h9) rfl dX4_parse_126 ?_
        refine lv_isub hx hb dX4_parse_129 ?_
        obtain ⟨⟨r5, y6⟩, hh7, hq⟩ := q_bd hq
        refine rwV (ci := 4) (wr := []) (As := [.int (((-10) : Int32) - uq)]) (rest := []) X K (k_X4_tells l G g jo js jp ja jk jt jb un uy uw uq uz us up ua uk ut ub (((-10) : Int32) - uq) _ hh7) hd_X4_tells gX4_parse_X4_tells hP hD hS hA [0, 1, 2, 3, 4, 5, 6] [] rfl rfl ⟨by decide, by decide, by decide⟩ hl.1 dX4_parse_130 rfl rfl ⟨Nat.le_of_ble_eq_true rfl, Nat.le_of_ble_eq_true rfl⟩ rfl rfl rfl (Nat.le_of_ble_eq_true rfl) ⟨Nat.zero_le _, Nat.zero_le _⟩ (fun H locs hP hD hS => ?_)
        have hP : va_P G vwCl [(jo, .inr (4, [.ref js, .ref jp, .ref ja, .ref jk, .int un, .ref jt, .int uy, .int y6, .ref jb, .int uq, .int uz])), (js, .inl (g 0, 388, .inl us)), (jp, .inl (g 0, 1552, .inl up)), (ja, .inl (g 0, 388, .inl ua)), (jk, .inl (g 0, 97, .inl uk)), (jt, .inl (g 0, 150, .inl ut)), (jb, .inl (g 0, 1000, .inl ub))] H := hP
        have hD : va_D A [(jo, .inr (4, [.ref js, .ref jp, .ref ja, .ref jk, .int un, .ref jt, .int uy, .int y6, .ref jb, .int uq, .int uz])), (js, .inl (g 0, 388, .inl us)), (jp, .inl (g 0, 1552, .inl up)), (ja, .inl (g 0, 388, .inl ua)), (jk, .inl (g 0, 97, .inl uk)), (jt, .inl (g 0, 150, .inl ut)), (jb, .inl (g 0, 1000, .inl ub))] := hD
        obtain rfl := q_rt hq
        exact rw_iret hx hb hr hk hP hD hS dX4_parse_133
      · have hq := q_if_f hq c4
        refine lv_aload_n hx hb dX4_parse_114 rfl (lv_at hl 0 rfl) ?_
        refine lv_iconst (v := 2) hx hb dX4_parse_115 (by decide) ?_
        obtain ⟨⟨r9, y10⟩, hh11, hq⟩ := q_bd hq
        refine rwV (ci := 4) (wr := []) (As := [.int 2]) (rest := []) X K (k_X4_fails l G g jo js jp ja jk jt jb un uy uw uq uz us up ua uk ut ub 2 _ hh11) hd_X4_fails gX4_parse_X4_fails hP hD hS hA [0, 1, 2, 3, 4, 5, 6] [] rfl rfl ⟨by decide, by decide, by decide⟩ hl.1 dX4_parse_116 rfl rfl ⟨Nat.le_of_ble_eq_true rfl, Nat.le_of_ble_eq_true rfl⟩ rfl rfl rfl (Nat.le_of_ble_eq_true rfl) ⟨Nat.zero_le _, Nat.zero_le _⟩ (fun H locs hP hD hS => ?_)
        have hP : va_P G vwCl [(jo, .inr (4, [.ref js, .ref jp, .ref ja, .ref jk, .int un, .ref jt, .int uy, .int y10, .ref jb, .int uq, .int uz])), (js, .inl (g 0, 388, .inl us)), (jp, .inl (g 0, 1552, .inl up)), (ja, .inl (g 0, 388, .inl ua)), (jk, .inl (g 0, 97, .inl uk)), (jt, .inl (g 0, 150, .inl ut)), (jb, .inl (g 0, 1000, .inl ub))] H := hP
        have hD : va_D A [(jo, .inr (4, [.ref js, .ref jp, .ref ja, .ref jk, .int un, .ref jt, .int uy, .int y10, .ref jb, .int uq, .int uz])), (js, .inl (g 0, 388, .inl us)), (jp, .inl (g 0, 1552, .inl up)), (ja, .inl (g 0, 388, .inl ua)), (jk, .inl (g 0, 97, .inl uk)), (jt, .inl (g 0, 150, .inl ut)), (jb, .inl (g 0, 1000, .inl ub))] := hD
        refine lv_goto (tgt := 133) hx hb dX4_parse_119 (by decide) ?_
        obtain rfl := q_rt hq
        exact rw_iret hx hb hr hk hP hD hS dX4_parse_133
    · have hq := q_if_f hq c3
      refine lv_aload_n hx hb dX4_parse_90 rfl (lv_at hl 0 rfl) ?_
      refine va_get (D := G) (ci := 4) (v := .ref js) (C := RX4) (T := TX4) (N := 11) hx hb hts in_X4_parse_X4 hown K.1 hP 0 rfl rfl 0 (by decide) (hts _ (List.mem_of_getElem? (i := 1) rfl)) (fun _ h9 => h9) rfl dX4_parse_91 ?_
      refine lv_iload hx hb dX4_parse_94 (lv_at hl 2 rfl) ?_
      refine lv_aload_n hx hb dX4_parse_96 rfl (lv_at hl 0 rfl) ?_
      refine va_get (D := G) (ci := 4) (v := .ref ja) (C := RX4) (T := TX4) (N := 11) hx hb hts in_X4_parse_X4 hown K.1 hP 0 rfl rfl 2 (by decide) (hts _ (List.mem_of_getElem? (i := 4) rfl)) (fun _ h9 => h9) rfl dX4_parse_97 ?_
      refine lv_iload hx hb dX4_parse_100 (lv_at hl 2 rfl) ?_
      obtain ⟨hh13, hq⟩ := q_gd hq
      refine va_iald hx hb K.1 hP 3 0 rfl rfl (vp_in_iff.mpr hh13) dX4_parse_102 ?_
      obtain ⟨hh14, hq⟩ := q_gd hq
      refine va_iast hx hb K.1 hP hD hS 1 0 rfl rfl (vp_in_iff.mpr hh14) dX4_parse_103 (fun H locs hP hD hS => ?_)
      obtain ⟨f15, ef15⟩ : ∃ y, y = upd us v2.toNatClampNeg (ua v2.toNatClampNeg) := ⟨_, rfl⟩
      have hq := q_let hq ef15
      have hP : va_P G vwCl [(jo, .inr (4, [.ref js, .ref jp, .ref ja, .ref jk, .int un, .ref jt, .int uy, .int uw, .ref jb, .int uq, .int uz])), (js, .inl (g 0, 388, .inl f15)), (jp, .inl (g 0, 1552, .inl up)), (ja, .inl (g 0, 388, .inl ua)), (jk, .inl (g 0, 97, .inl uk)), (jt, .inl (g 0, 150, .inl ut)), (jb, .inl (g 0, 1000, .inl ub))] H := by rw [ef15]; exact hP
      have hD : va_D A [(jo, .inr (4, [.ref js, .ref jp, .ref ja, .ref jk, .int un, .ref jt, .int uy, .int uw, .ref jb, .int uq, .int uz])), (js, .inl (g 0, 388, .inl f15)), (jp, .inl (g 0, 1552, .inl up)), (ja, .inl (g 0, 388, .inl ua)), (jk, .inl (g 0, 97, .inl uk)), (jt, .inl (g 0, 150, .inl ut)), (jb, .inl (g 0, 1000, .inl ub))] := by rw [ef15]; exact hD
      obtain ⟨x16, ex16⟩ : ∃ y : Int32, y = (v2 : Int32) + 1 := ⟨_, rfl⟩
      have hq := q_let hq ex16
      refine lv_iinc (v := x16) (lv' := [(5, .int x16), (0, .ref jo), (3, .int v1)]) hx hb dX4_parse_104 hl (k := 2) rfl (by rw [ex16]; rfl) (by decide) rfl (fun ls hl => ?_)
      refine lv_goto (tgt := 82) hx hb dX4_parse_107 (by decide) ?_
      exact ih f15 x16 hq _ _ hP hD hS ls (lv_sub hl [1, 2, 0] rfl)
def F_X4_parse_79 (un : Int32) (uy : Int32) (uw : Int32) (uq : Int32) (uz : Int32) (us : Nat → Int32) (up : Nat → Int32) (ua : Nat → Int32) (ut : Nat → Int32) (v1 : Int32) : Option (Int32 × Int32 × Int32 × Int32 × Int32 × (Nat → Int32) × (Nat → Int32) × (Nat → Int32)) := F_X4_parse_82 un uy uw uq uz up ua ut v1 2000 us 0
set_option maxHeartbeats 4000000 in
set_option maxRecDepth 100000 in
theorem w_X4_parse_79 {p : Program} {l : Launch} {e : Env} {s : State} {m : MethodId} {args : Array Value} {below : List Frame} {meth : Method} {c : Code} {G : va_G} {g : Nat → ClassId} (X : cx p s m args meth c cX4_parse 6 (some .int) RX4 wsX4_parse) (K : amb G g s) {A : Nat → Prop} (hA : ∀ q : Nat, s.heap.size ≤ q → A q) (jo js jp ja jk jt jb : Nat) (uk : Nat → Int32) (ub : Nat → Int32) (un : Int32) (uy : Int32) (uw : Int32) (uq : Int32) (uz : Int32) (us : Nat → Int32) (up : Nat → Int32) (ua : Nat → Int32) (ut : Nat → Int32) (v1 : Int32) (res : Int32 × Int32 × Int32 × Int32 × Int32 × (Nat → Int32) × (Nat → Int32) × (Nat → Int32)) (hq : F_X4_parse_79 un uy uw uq uz us up ua ut v1 = some res) : ∀ (H : Heap) (locs : List Loc), va_P G vwCl [(jo, .inr (4, [.ref js, .ref jp, .ref ja, .ref jk, .int un, .ref jt, .int uy, .int uw, .ref jb, .int uq, .int uz])), (js, .inl (g 0, 388, .inl us)), (jp, .inl (g 0, 1552, .inl up)), (ja, .inl (g 0, 388, .inl ua)), (jk, .inl (g 0, 97, .inl uk)), (jt, .inl (g 0, 150, .inl ut)), (jb, .inl (g 0, 1000, .inl ub))] H → va_D A [(jo, .inr (4, [.ref js, .ref jp, .ref ja, .ref jk, .int un, .ref jt, .int uy, .int uw, .ref jb, .int uq, .int uz])), (js, .inl (g 0, 388, .inl us)), (jp, .inl (g 0, 1552, .inl up)), (ja, .inl (g 0, 388, .inl ua)), (jk, .inl (g 0, 97, .inl uk)), (jt, .inl (g 0, 150, .inl ut)), (jb, .inl (g 0, 1000, .inl ub))] → va_S A s.heap H locs → ∀ (ls : Array Slot), lv_has ls 6 [(0, .ref jo), (3, .int v1)] → W p l e (rmF 4 100) s m args below meth c H locs 0 0 (rwM G A below (some (.int res.1)) [(jo, .inr (4, [.ref js, .ref jp, .ref ja, .ref jk, .int res.2.1, .ref jt, .int uy, .int res.2.2.1, .ref jb, .int res.2.2.2.1, .int res.2.2.2.2.1])), (js, .inl (g 0, 388, .inl res.2.2.2.2.2.1)), (jp, .inl (g 0, 1552, .inl res.2.2.2.2.2.2.1)), (ja, .inl (g 0, 388, .inl res.2.2.2.2.2.2.2)), (jk, .inl (g 0, 97, .inl uk)), (jt, .inl (g 0, 150, .inl ut)), (jb, .inl (g 0, 1000, .inl ub))] args s) (F0 m 79 ls []) := by
  obtain ⟨hx, hb, hml, hr, hown, hts, hk⟩ := id X
  intro H locs hP hD hS ls hl
  unfold F_X4_parse_79 at hq
  refine lv_iconst (v := 0) hx hb dX4_parse_79 (by decide) ?_
  refine lv_istore (lv' := [(5, .int 0), (0, .ref jo), (3, .int v1)]) hx hb dX4_parse_80 hl (by decide) rfl (fun ls hl => ?_)
  exact w_X4_parse_82 X K hA jo js jp ja jk jt jb uk ub un uy uw uq uz up ua ut v1 _ 2000 us 0 hq _ _ hP hD hS ls (lv_sub hl [1, 2, 0] rfl)
def F_X4_parse_64 (un : Int32) (uy : Int32) (uw : Int32) (uq : Int32) (uz : Int32) (us : Nat → Int32) (up : Nat → Int32) (ua : Nat → Int32) (ut : Nat → Int32) (v1 : Int32) (v2 : Int32) (v3 : Int32) : Option (Int32 × Int32 × Int32 × Int32 × Int32 × (Nat → Int32) × (Nat → Int32) × (Nat → Int32)) := (F_X4_many us v1).bind fun r4 => if v3 = 0 then (F_X4_parse_79 un uy uw uq uz us up ua ut v3) else (if v2 = 0 then ((F_X4_ends un uw up ua r4).bind fun o13 => some (o13.1, o13.2.1, o13.2.2.1, uq, uz, us, o13.2.2.2, ua)) else (F_X4_parse_79 un uy uw uq uz us up ua ut v3))
set_option maxHeartbeats 4000000 in
set_option maxRecDepth 100000 in
theorem w_X4_parse_64 {p : Program} {l : Launch} {e : Env} {s : State} {m : MethodId} {args : Array Value} {below : List Frame} {meth : Method} {c : Code} {G : va_G} {g : Nat → ClassId} (X : cx p s m args meth c cX4_parse 6 (some .int) RX4 wsX4_parse) (K : amb G g s) {A : Nat → Prop} (hA : ∀ q : Nat, s.heap.size ≤ q → A q) (jo js jp ja jk jt jb : Nat) (uk : Nat → Int32) (ub : Nat → Int32) (un : Int32) (uy : Int32) (uw : Int32) (uq : Int32) (uz : Int32) (us : Nat → Int32) (up : Nat → Int32) (ua : Nat → Int32) (ut : Nat → Int32) (v1 : Int32) (v2 : Int32) (v3 : Int32) (res : Int32 × Int32 × Int32 × Int32 × Int32 × (Nat → Int32) × (Nat → Int32) × (Nat → Int32)) (hq : F_X4_parse_64 un uy uw uq uz us up ua ut v1 v2 v3 = some res) : ∀ (H : Heap) (locs : List Loc), va_P G vwCl [(jo, .inr (4, [.ref js, .ref jp, .ref ja, .ref jk, .int un, .ref jt, .int uy, .int uw, .ref jb, .int uq, .int uz])), (js, .inl (g 0, 388, .inl us)), (jp, .inl (g 0, 1552, .inl up)), (ja, .inl (g 0, 388, .inl ua)), (jk, .inl (g 0, 97, .inl uk)), (jt, .inl (g 0, 150, .inl ut)), (jb, .inl (g 0, 1000, .inl ub))] H → va_D A [(jo, .inr (4, [.ref js, .ref jp, .ref ja, .ref jk, .int un, .ref jt, .int uy, .int uw, .ref jb, .int uq, .int uz])), (js, .inl (g 0, 388, .inl us)), (jp, .inl (g 0, 1552, .inl up)), (ja, .inl (g 0, 388, .inl ua)), (jk, .inl (g 0, 97, .inl uk)), (jt, .inl (g 0, 150, .inl ut)), (jb, .inl (g 0, 1000, .inl ub))] → va_S A s.heap H locs → ∀ (ls : Array Slot), lv_has ls 6 [(0, .ref jo), (1, .int v1), (2, .int v2), (3, .int v3)] → W p l e (rmF 4 100) s m args below meth c H locs 0 0 (rwM G A below (some (.int res.1)) [(jo, .inr (4, [.ref js, .ref jp, .ref ja, .ref jk, .int res.2.1, .ref jt, .int uy, .int res.2.2.1, .ref jb, .int res.2.2.2.1, .int res.2.2.2.2.1])), (js, .inl (g 0, 388, .inl res.2.2.2.2.2.1)), (jp, .inl (g 0, 1552, .inl res.2.2.2.2.2.2.1)), (ja, .inl (g 0, 388, .inl res.2.2.2.2.2.2.2)), (jk, .inl (g 0, 97, .inl uk)), (jt, .inl (g 0, 150, .inl ut)), (jb, .inl (g 0, 1000, .inl ub))] args s) (F0 m 64 ls []) := by
  obtain ⟨hx, hb, hml, hr, hown, hts, hk⟩ := id X
  intro H locs hP hD hS ls hl
  unfold F_X4_parse_64 at hq
  refine lv_aload_n hx hb dX4_parse_64 rfl (lv_at hl 0 rfl) ?_
  refine lv_iload_n hx hb dX4_parse_65 rfl (lv_at hl 1 rfl) ?_
  obtain ⟨r4, hh5, hq⟩ := q_bd hq
  refine roV (ci := 4) (As := [.int v1]) (rest := []) X K (k_X4_many l G g jo js jp ja jk jt jb un uy uw uq uz us up ua uk ut ub v1 _ hh5) hd_X4_many gX4_parse_X4_many hP hl.1 dX4_parse_66 rfl rfl ⟨Nat.le_of_ble_eq_true rfl, Nat.le_of_ble_eq_true rfl⟩ rfl rfl rfl (Nat.le_of_ble_eq_true rfl) ⟨Nat.zero_le _, Nat.zero_le _⟩ ?_
  refine lv_istore (lv' := [(4, .int r4), (0, .ref jo), (1, .int v1), (2, .int v2), (3, .int v3)]) hx hb dX4_parse_69 hl (by decide) rfl (fun ls hl => ?_)
  refine lv_iload_n hx hb dX4_parse_71 rfl (lv_at hl 4 rfl) ?_
  refine lv_if_eq (tgt := 79) hx hb dX4_parse_72 (by decide) (fun c6 => ?_) (fun c6 => ?_)
  · have hq := q_if_t hq c6
    exact w_X4_parse_79 X K hA jo js jp ja jk jt jb uk ub un uy uw uq uz us up ua ut v3 _ hq _ _ hP hD hS ls (lv_sub hl [1, 4] rfl)
  · have hq := q_if_f hq c6
    refine lv_iload_n hx hb dX4_parse_75 rfl (lv_at hl 3 rfl) ?_
    refine lv_if_eq (tgt := 134) hx hb dX4_parse_76 (by decide) (fun c7 => ?_) (fun c7 => ?_)
    · have hq := q_if_t hq c7
      refine lv_aload_n hx hb dX4_parse_134 rfl (lv_at hl 1 rfl) ?_
      refine lv_iload hx hb dX4_parse_135 (lv_at hl 0 rfl) ?_
      obtain ⟨⟨r8, y9, y10, y11⟩, hh12, hq⟩ := q_bd hq
      refine rwV (ci := 4) (wr := []) (As := [.int r4]) (rest := []) X K (k_X4_ends l G g jo js jp ja jk jt jb un uy uw uq uz us up ua uk ut ub r4 _ hh12) hd_X4_ends gX4_parse_X4_ends hP hD hS hA [0, 1, 2, 3, 4, 5, 6] [] rfl rfl ⟨by decide, by decide, by decide⟩ hl.1 dX4_parse_137 rfl rfl ⟨Nat.le_of_ble_eq_true rfl, Nat.le_of_ble_eq_true rfl⟩ rfl rfl rfl (Nat.le_of_ble_eq_true rfl) ⟨Nat.zero_le _, Nat.zero_le _⟩ (fun H locs hP hD hS => ?_)
      have hP : va_P G vwCl [(jo, .inr (4, [.ref js, .ref jp, .ref ja, .ref jk, .int y9, .ref jt, .int uy, .int y10, .ref jb, .int uq, .int uz])), (js, .inl (g 0, 388, .inl us)), (jp, .inl (g 0, 1552, .inl y11)), (ja, .inl (g 0, 388, .inl ua)), (jk, .inl (g 0, 97, .inl uk)), (jt, .inl (g 0, 150, .inl ut)), (jb, .inl (g 0, 1000, .inl ub))] H := hP
      have hD : va_D A [(jo, .inr (4, [.ref js, .ref jp, .ref ja, .ref jk, .int y9, .ref jt, .int uy, .int y10, .ref jb, .int uq, .int uz])), (js, .inl (g 0, 388, .inl us)), (jp, .inl (g 0, 1552, .inl y11)), (ja, .inl (g 0, 388, .inl ua)), (jk, .inl (g 0, 97, .inl uk)), (jt, .inl (g 0, 150, .inl ut)), (jb, .inl (g 0, 1000, .inl ub))] := hD
      obtain rfl := q_rt hq
      exact rw_iret hx hb hr hk hP hD hS dX4_parse_140
    · have hq := q_if_f hq c7
      exact w_X4_parse_79 X K hA jo js jp ja jk jt jb uk ub un uy uw uq uz us up ua ut v3 _ hq _ _ hP hD hS ls (lv_sub hl [1, 4] rfl)
def F_X4_parse_40 (un : Int32) (uy : Int32) (uw : Int32) (up : Nat → Int32) (ua : Nat → Int32) (ut : Nat → Int32) (v1 : Int32) (v2 : Int32) : Nat → Int32 → Int32 → (Nat → Int32) → Int32 → Option (Int32 × Int32 × Int32 × Int32 × Int32 × (Nat → Int32) × (Nat → Int32) × (Nat → Int32))
  | 0, _, _, _, _ => none
  | n + 1, uq, uz, us, v3 => if uy ≤ uq then (F_X4_parse_64 un uy uw uq uz us up ua ut v1 v2 v3) else (if v3 = 0 then (F_X4_parse_64 un uy uw uq uz us up ua ut v1 v2 v3) else ((F_X4_isItem uy uq uz us ut v1).bind fun o11 => F_X4_parse_40 un uy uw up ua ut v1 v2 n o11.2.1 o11.2.2.1 o11.2.2.2 o11.1))
set_option maxHeartbeats 4000000 in
set_option maxRecDepth 100000 in
theorem w_X4_parse_40 {p : Program} {l : Launch} {e : Env} {s : State} {m : MethodId} {args : Array Value} {below : List Frame} {meth : Method} {c : Code} {G : va_G} {g : Nat → ClassId} (X : cx p s m args meth c cX4_parse 6 (some .int) RX4 wsX4_parse) (K : amb G g s) {A : Nat → Prop} (hA : ∀ q : Nat, s.heap.size ≤ q → A q) (jo js jp ja jk jt jb : Nat) (uk : Nat → Int32) (ub : Nat → Int32) (un : Int32) (uy : Int32) (uw : Int32) (up : Nat → Int32) (ua : Nat → Int32) (ut : Nat → Int32) (v1 : Int32) (v2 : Int32) (res : Int32 × Int32 × Int32 × Int32 × Int32 × (Nat → Int32) × (Nat → Int32) × (Nat → Int32)) : ∀ (n : Nat) (uq : Int32) (uz : Int32) (us : Nat → Int32) (v3 : Int32), F_X4_parse_40 un uy uw up ua ut v1 v2 n uq uz us v3 = some res → ∀ (H : Heap) (locs : List Loc), va_P G vwCl [(jo, .inr (4, [.ref js, .ref jp, .ref ja, .ref jk, .int un, .ref jt, .int uy, .int uw, .ref jb, .int uq, .int uz])), (js, .inl (g 0, 388, .inl us)), (jp, .inl (g 0, 1552, .inl up)), (ja, .inl (g 0, 388, .inl ua)), (jk, .inl (g 0, 97, .inl uk)), (jt, .inl (g 0, 150, .inl ut)), (jb, .inl (g 0, 1000, .inl ub))] H → va_D A [(jo, .inr (4, [.ref js, .ref jp, .ref ja, .ref jk, .int un, .ref jt, .int uy, .int uw, .ref jb, .int uq, .int uz])), (js, .inl (g 0, 388, .inl us)), (jp, .inl (g 0, 1552, .inl up)), (ja, .inl (g 0, 388, .inl ua)), (jk, .inl (g 0, 97, .inl uk)), (jt, .inl (g 0, 150, .inl ut)), (jb, .inl (g 0, 1000, .inl ub))] → va_S A s.heap H locs → ∀ (ls : Array Slot), lv_has ls 6 [(0, .ref jo), (1, .int v1), (2, .int v2), (3, .int v3)] → W p l e (rmF 4 100) s m args below meth c H locs 0 0 (rwM G A below (some (.int res.1)) [(jo, .inr (4, [.ref js, .ref jp, .ref ja, .ref jk, .int res.2.1, .ref jt, .int uy, .int res.2.2.1, .ref jb, .int res.2.2.2.1, .int res.2.2.2.2.1])), (js, .inl (g 0, 388, .inl res.2.2.2.2.2.1)), (jp, .inl (g 0, 1552, .inl res.2.2.2.2.2.2.1)), (ja, .inl (g 0, 388, .inl res.2.2.2.2.2.2.2)), (jk, .inl (g 0, 97, .inl uk)), (jt, .inl (g 0, 150, .inl ut)), (jb, .inl (g 0, 1000, .inl ub))] args s) (F0 m 40 ls []) := by
  obtain ⟨hx, hb, hml, hr, hown, hts, hk⟩ := id X
  intro n
  induction n with
  | zero => intro uq uz us v3 hq; exact q_no hq
  | succ n ih =>
    intro uq uz us v3 hq H locs hP hD hS ls hl
    rw [F_X4_parse_40] at hq
    refine lv_aload_n hx hb dX4_parse_40 rfl (lv_at hl 0 rfl) ?_
    refine va_get (D := G) (ci := 4) (v := .int uq) (C := RX4) (T := TX4) (N := 11) hx hb hts in_X4_parse_X4 hown K.1 hP 0 rfl rfl 9 (by decide) (hts _ (List.mem_of_getElem? (i := 2) rfl)) (fun _ h9 => h9) rfl dX4_parse_41 ?_
    refine lv_aload_n hx hb dX4_parse_44 rfl (lv_at hl 0 rfl) ?_
    refine va_get (D := G) (ci := 4) (v := .int uy) (C := RX4) (T := TX4) (N := 11) hx hb hts in_X4_parse_X4 hown K.1 hP 0 rfl rfl 6 (by decide) (hts _ (List.mem_of_getElem? (i := 3) rfl)) (fun _ h9 => h9) rfl dX4_parse_45 ?_
    refine lv_icmp_ge (tgt := 64) hx hb dX4_parse_48 (by decide) (fun c4 => ?_) (fun c4 => ?_)
    · have hq := q_if_t hq c4
      exact w_X4_parse_64 X K hA jo js jp ja jk jt jb uk ub un uy uw uq uz us up ua ut v1 v2 v3 _ hq _ _ hP hD hS ls (lv_sub hl [0, 1, 2, 3] rfl)
    · have hq := q_if_f hq c4
      refine lv_iload_n hx hb dX4_parse_51 rfl (lv_at hl 3 rfl) ?_
      refine lv_if_eq (tgt := 64) hx hb dX4_parse_52 (by decide) (fun c5 => ?_) (fun c5 => ?_)
      · have hq := q_if_t hq c5
        exact w_X4_parse_64 X K hA jo js jp ja jk jt jb uk ub un uy uw uq uz us up ua ut v1 v2 v3 _ hq _ _ hP hD hS ls (lv_sub hl [0, 1, 2, 3] rfl)
      · have hq := q_if_f hq c5
        refine lv_aload_n hx hb dX4_parse_55 rfl (lv_at hl 0 rfl) ?_
        refine lv_iload_n hx hb dX4_parse_56 rfl (lv_at hl 1 rfl) ?_
        obtain ⟨⟨r6, y7, y8, y9⟩, hh10, hq⟩ := q_bd hq
        refine rwV (ci := 4) (wr := []) (As := [.int v1]) (rest := []) X K (k_X4_isItem l G g jo js jp ja jk jt jb un uy uw uq uz us up ua uk ut ub v1 _ hh10) hd_X4_isItem gX4_parse_X4_isItem hP hD hS hA [0, 1, 2, 3, 4, 5, 6] [] rfl rfl ⟨by decide, by decide, by decide⟩ hl.1 dX4_parse_57 rfl rfl ⟨Nat.le_of_ble_eq_true rfl, Nat.le_of_ble_eq_true rfl⟩ rfl rfl rfl (Nat.le_of_ble_eq_true rfl) ⟨Nat.zero_le _, Nat.zero_le _⟩ (fun H locs hP hD hS => ?_)
        have hP : va_P G vwCl [(jo, .inr (4, [.ref js, .ref jp, .ref ja, .ref jk, .int un, .ref jt, .int uy, .int uw, .ref jb, .int y7, .int y8])), (js, .inl (g 0, 388, .inl y9)), (jp, .inl (g 0, 1552, .inl up)), (ja, .inl (g 0, 388, .inl ua)), (jk, .inl (g 0, 97, .inl uk)), (jt, .inl (g 0, 150, .inl ut)), (jb, .inl (g 0, 1000, .inl ub))] H := hP
        have hD : va_D A [(jo, .inr (4, [.ref js, .ref jp, .ref ja, .ref jk, .int un, .ref jt, .int uy, .int uw, .ref jb, .int y7, .int y8])), (js, .inl (g 0, 388, .inl y9)), (jp, .inl (g 0, 1552, .inl up)), (ja, .inl (g 0, 388, .inl ua)), (jk, .inl (g 0, 97, .inl uk)), (jt, .inl (g 0, 150, .inl ut)), (jb, .inl (g 0, 1000, .inl ub))] := hD
        refine lv_istore_n (lv' := [(3, .int r6), (0, .ref jo), (1, .int v1), (2, .int v2)]) hx hb dX4_parse_60 rfl hl (by decide) rfl (fun ls hl => ?_)
        refine lv_goto (tgt := 40) hx hb dX4_parse_61 (by decide) ?_
        exact ih y7 y8 y9 r6 hq _ _ hP hD hS ls (lv_sub hl [1, 2, 3, 0] rfl)
def F_X4_parse (un : Int32) (uy : Int32) (uw : Int32) (uq : Int32) (uz : Int32) (us : Nat → Int32) (up : Nat → Int32) (ua : Nat → Int32) (ut : Nat → Int32) (p1 : Int32) : Option (Int32 × Int32 × Int32 × Int32 × Int32 × (Nat → Int32) × (Nat → Int32) × (Nat → Int32)) := (F_X4_isCurve p1).bind fun r1 => if r1 = 0 then ((F_X4_fails uw 1).bind fun o13 => some (o13.1, un, o13.2, uq, uz, us, up, ua)) else ((F_X4_hold us ua).bind fun y4 => (F_X4_hasLock us p1).bind fun r6 => vgd (ix ((97 : Int32) * p1) 388) <| vlet (upd us ((97 : Int32) * p1).toNatClampNeg 0) fun f9 => F_X4_parse_40 un uy uw up y4 ut p1 r6 2000 0 uz f9 1)
set_option maxHeartbeats 4000000 in
set_option maxRecDepth 100000 in
theorem k_X4_parse (l : Launch) (G : va_G) (g : Nat → ClassId) (jo js jp ja jk jt jb : Nat) (un : Int32) (uy : Int32) (uw : Int32) (uq : Int32) (uz : Int32) (us : Nat → Int32) (up : Nat → Int32) (ua : Nat → Int32) (uk : Nat → Int32) (ut : Nat → Int32) (ub : Nat → Int32) (p1 : Int32) (res : Int32 × Int32 × Int32 × Int32 × Int32 × (Nat → Int32) × (Nat → Int32) × (Nat → Int32)) (hq : F_X4_parse un uy uw uq uz us up ua ut p1 = some res) : rwC l yX4_parse wsX4_parse (rmF 4 100) G g [.ref jo, .int p1] [(jo, .inr (4, [.ref js, .ref jp, .ref ja, .ref jk, .int un, .ref jt, .int uy, .int uw, .ref jb, .int uq, .int uz])), (js, .inl (g 0, 388, .inl us)), (jp, .inl (g 0, 1552, .inl up)), (ja, .inl (g 0, 388, .inl ua)), (jk, .inl (g 0, 97, .inl uk)), (jt, .inl (g 0, 150, .inl ut)), (jb, .inl (g 0, 1000, .inl ub))] (some (.int res.1)) [(jo, .inr (4, [.ref js, .ref jp, .ref ja, .ref jk, .int res.2.1, .ref jt, .int uy, .int res.2.2.1, .ref jb, .int res.2.2.2.1, .int res.2.2.2.2.1])), (js, .inl (g 0, 388, .inl res.2.2.2.2.2.1)), (jp, .inl (g 0, 1552, .inl res.2.2.2.2.2.2.1)), (ja, .inl (g 0, 388, .inl res.2.2.2.2.2.2.2)), (jk, .inl (g 0, 97, .inl uk)), (jt, .inl (g 0, 150, .inl ut)), (jb, .inl (g 0, 1000, .inl ub))] := by
  refine rwC.of (cc := cX4_parse) (maxL := 6) (ret := (some .int)) (by decide) rfl (Nat.le_of_ble_eq_true rfl) ?_
  intro p e s m below meth c ls A X K hA hP hD hS hl
  obtain ⟨hx, hb, hml, hr, hown, hts, hk⟩ := id X
  have hl : lv_has ls 6 [(0, .ref jo), (1, .int p1)] := hl
  unfold F_X4_parse at hq
  refine lv_iload_n hx hb dX4_parse_0 rfl (lv_at hl 1 rfl) ?_
  obtain ⟨r1, hh2, hq⟩ := q_bd hq
  refine roS (As := [.int p1]) (rest := []) X K (k_X4_isCurve l G g p1 _ hh2) hd_X4_isCurve gX4_parse_X4_isCurve (hP.sub [] rfl) hl.1 dX4_parse_1 rfl rfl ⟨Nat.le_of_ble_eq_true rfl, Nat.le_of_ble_eq_true rfl⟩ rfl (Nat.le_of_ble_eq_true rfl) ⟨Nat.zero_le _, Nat.zero_le _⟩ ?_
  refine lv_if_ne (tgt := 13) hx hb dX4_parse_4 (by decide) (fun c3 => ?_) (fun c3 => ?_)
  · have hq := q_if_f hq c3
    refine lv_aload_n hx hb dX4_parse_13 rfl (lv_at hl 0 rfl) ?_
    obtain ⟨y4, hh5, hq⟩ := q_bd hq
    refine rwV (ci := 4) (wr := []) (As := []) (rest := []) X K (k_X4_hold l G g jo js jp ja jk jt jb un uy uw uq uz us up ua uk ut ub _ hh5) hd_X4_hold gX4_parse_X4_hold hP hD hS hA [0, 1, 2, 3, 4, 5, 6] [] rfl rfl ⟨by decide, by decide, by decide⟩ hl.1 dX4_parse_14 rfl rfl ⟨Nat.le_of_ble_eq_true rfl, Nat.le_of_ble_eq_true rfl⟩ rfl rfl rfl (Nat.le_of_ble_eq_true rfl) ⟨Nat.zero_le _, Nat.zero_le _⟩ (fun H locs hP hD hS => ?_)
    have hP : va_P G vwCl [(jo, .inr (4, [.ref js, .ref jp, .ref ja, .ref jk, .int un, .ref jt, .int uy, .int uw, .ref jb, .int uq, .int uz])), (js, .inl (g 0, 388, .inl us)), (jp, .inl (g 0, 1552, .inl up)), (ja, .inl (g 0, 388, .inl y4)), (jk, .inl (g 0, 97, .inl uk)), (jt, .inl (g 0, 150, .inl ut)), (jb, .inl (g 0, 1000, .inl ub))] H := hP
    have hD : va_D A [(jo, .inr (4, [.ref js, .ref jp, .ref ja, .ref jk, .int un, .ref jt, .int uy, .int uw, .ref jb, .int uq, .int uz])), (js, .inl (g 0, 388, .inl us)), (jp, .inl (g 0, 1552, .inl up)), (ja, .inl (g 0, 388, .inl y4)), (jk, .inl (g 0, 97, .inl uk)), (jt, .inl (g 0, 150, .inl ut)), (jb, .inl (g 0, 1000, .inl ub))] := hD
    refine lv_aload_n hx hb dX4_parse_17 rfl (lv_at hl 0 rfl) ?_
    refine lv_iload_n hx hb dX4_parse_18 rfl (lv_at hl 1 rfl) ?_
    obtain ⟨r6, hh7, hq⟩ := q_bd hq
    refine roV (ci := 4) (As := [.int p1]) (rest := []) X K (k_X4_hasLock l G g jo js jp ja jk jt jb un uy uw uq uz us up y4 uk ut ub p1 _ hh7) hd_X4_hasLock gX4_parse_X4_hasLock hP hl.1 dX4_parse_19 rfl rfl ⟨Nat.le_of_ble_eq_true rfl, Nat.le_of_ble_eq_true rfl⟩ rfl rfl rfl (Nat.le_of_ble_eq_true rfl) ⟨Nat.zero_le _, Nat.zero_le _⟩ ?_
    refine lv_istore_n (lv' := [(2, .int r6), (0, .ref jo), (1, .int p1)]) hx hb dX4_parse_22 rfl hl (by decide) rfl (fun ls hl => ?_)
    refine lv_aload_n hx hb dX4_parse_23 rfl (lv_at hl 1 rfl) ?_
    refine va_get (D := G) (ci := 4) (v := .ref js) (C := RX4) (T := TX4) (N := 11) hx hb hts in_X4_parse_X4 hown K.1 hP 0 rfl rfl 0 (by decide) (hts _ (List.mem_of_getElem? (i := 1) rfl)) (fun _ h9 => h9) rfl dX4_parse_24 ?_
    refine lv_bipush (v := 97) hx hb dX4_parse_27 (by decide) ?_
    refine lv_iload_n hx hb dX4_parse_29 rfl (lv_at hl 2 rfl) ?_
    refine lv_imul hx hb dX4_parse_30 ?_
    refine lv_iconst (v := 0) hx hb dX4_parse_31 (by decide) ?_
    obtain ⟨hh8, hq⟩ := q_gd hq
    refine va_iast hx hb K.1 hP hD hS 1 0 rfl rfl (vp_in_iff.mpr hh8) dX4_parse_32 (fun H locs hP hD hS => ?_)
    obtain ⟨f9, ef9⟩ : ∃ y, y = upd us ((97 : Int32) * p1).toNatClampNeg 0 := ⟨_, rfl⟩
    have hq := q_let hq ef9
    have hP : va_P G vwCl [(jo, .inr (4, [.ref js, .ref jp, .ref ja, .ref jk, .int un, .ref jt, .int uy, .int uw, .ref jb, .int uq, .int uz])), (js, .inl (g 0, 388, .inl f9)), (jp, .inl (g 0, 1552, .inl up)), (ja, .inl (g 0, 388, .inl y4)), (jk, .inl (g 0, 97, .inl uk)), (jt, .inl (g 0, 150, .inl ut)), (jb, .inl (g 0, 1000, .inl ub))] H := by rw [ef9]; exact hP
    have hD : va_D A [(jo, .inr (4, [.ref js, .ref jp, .ref ja, .ref jk, .int un, .ref jt, .int uy, .int uw, .ref jb, .int uq, .int uz])), (js, .inl (g 0, 388, .inl f9)), (jp, .inl (g 0, 1552, .inl up)), (ja, .inl (g 0, 388, .inl y4)), (jk, .inl (g 0, 97, .inl uk)), (jt, .inl (g 0, 150, .inl ut)), (jb, .inl (g 0, 1000, .inl ub))] := by rw [ef9]; exact hD
    refine lv_aload_n hx hb dX4_parse_33 rfl (lv_at hl 1 rfl) ?_
    refine lv_iconst (v := 0) hx hb dX4_parse_34 (by decide) ?_
    refine va_put (D := G) (ci := 4) (v := .int 0) (ty := .int) (C := RX4) (T := TX4) (N := 11) hx hb hts in_X4_parse_X4 tyX4 tyX4_ok nmX4 hown K.1 hP hD hS 0 rfl rfl 9 (by decide) (hts _ (List.mem_of_getElem? (i := 2) rfl)) (fun _ h9 => h9) rfl (by decide +kernel) rfl rfl (Nat.le_of_ble_eq_true rfl) dX4_parse_35 (fun H locs hP hD hS => ?_)
    have hP : va_P G vwCl [(jo, .inr (4, [.ref js, .ref jp, .ref ja, .ref jk, .int un, .ref jt, .int uy, .int uw, .ref jb, .int 0, .int uz])), (js, .inl (g 0, 388, .inl f9)), (jp, .inl (g 0, 1552, .inl up)), (ja, .inl (g 0, 388, .inl y4)), (jk, .inl (g 0, 97, .inl uk)), (jt, .inl (g 0, 150, .inl ut)), (jb, .inl (g 0, 1000, .inl ub))] H := hP
    have hD : va_D A [(jo, .inr (4, [.ref js, .ref jp, .ref ja, .ref jk, .int un, .ref jt, .int uy, .int uw, .ref jb, .int 0, .int uz])), (js, .inl (g 0, 388, .inl f9)), (jp, .inl (g 0, 1552, .inl up)), (ja, .inl (g 0, 388, .inl y4)), (jk, .inl (g 0, 97, .inl uk)), (jt, .inl (g 0, 150, .inl ut)), (jb, .inl (g 0, 1000, .inl ub))] := hD
    refine lv_iconst (v := 1) hx hb dX4_parse_38 (by decide) ?_
    refine lv_istore_n (lv' := [(3, .int 1), (2, .int r6), (0, .ref jo), (1, .int p1)]) hx hb dX4_parse_39 rfl hl (by decide) rfl (fun ls hl => ?_)
    exact w_X4_parse_40 X K hA jo js jp ja jk jt jb uk ub un uy uw up y4 ut p1 r6 _ 2000 0 uz f9 1 hq _ _ hP hD hS ls (lv_sub hl [2, 3, 1, 0] rfl)
  · have hq := q_if_t hq c3
    refine lv_aload_n hx hb dX4_parse_7 rfl (lv_at hl 0 rfl) ?_
    refine lv_iconst (v := 1) hx hb dX4_parse_8 (by decide) ?_
    obtain ⟨⟨r10, y11⟩, hh12, hq⟩ := q_bd hq
    refine rwV (ci := 4) (wr := []) (As := [.int 1]) (rest := []) X K (k_X4_fails l G g jo js jp ja jk jt jb un uy uw uq uz us up ua uk ut ub 1 _ hh12) hd_X4_fails gX4_parse_X4_fails hP hD hS hA [0, 1, 2, 3, 4, 5, 6] [] rfl rfl ⟨by decide, by decide, by decide⟩ hl.1 dX4_parse_9 rfl rfl ⟨Nat.le_of_ble_eq_true rfl, Nat.le_of_ble_eq_true rfl⟩ rfl rfl rfl (Nat.le_of_ble_eq_true rfl) ⟨Nat.zero_le _, Nat.zero_le _⟩ (fun H locs hP hD hS => ?_)
    have hP : va_P G vwCl [(jo, .inr (4, [.ref js, .ref jp, .ref ja, .ref jk, .int un, .ref jt, .int uy, .int y11, .ref jb, .int uq, .int uz])), (js, .inl (g 0, 388, .inl us)), (jp, .inl (g 0, 1552, .inl up)), (ja, .inl (g 0, 388, .inl ua)), (jk, .inl (g 0, 97, .inl uk)), (jt, .inl (g 0, 150, .inl ut)), (jb, .inl (g 0, 1000, .inl ub))] H := hP
    have hD : va_D A [(jo, .inr (4, [.ref js, .ref jp, .ref ja, .ref jk, .int un, .ref jt, .int uy, .int y11, .ref jb, .int uq, .int uz])), (js, .inl (g 0, 388, .inl us)), (jp, .inl (g 0, 1552, .inl up)), (ja, .inl (g 0, 388, .inl ua)), (jk, .inl (g 0, 97, .inl uk)), (jt, .inl (g 0, 150, .inl ut)), (jb, .inl (g 0, 1000, .inl ub))] := hD
    obtain rfl := q_rt hq
    exact rw_iret hx hb hr hk hP hD hS dX4_parse_12
theorem in_X4_undo_X4 : ∀ w ∈ wsX40, w ∈ wsX4_undo := fun _ h => List.mem_cons_of_mem _ (List.mem_append_right _ h)
def F_X4_undo_25 (un : Int32) (uw : Int32) (up : Nat → Int32) : Nat → (Nat → Int32) → Int32 → Option (Int32 × Int32 × Int32 × (Nat → Int32))
  | 0, _, _ => none
  | n + 1, us, v1 => if (388 : Int32) ≤ v1 then ((F_X4_tells uw un).bind fun o6 => some (o6.1, un, o6.2, us)) else (vgd (ix (((388 : Int32) * un) + v1) 1552) <| vgd (ix (v1) 388) <| vlet (upd us v1.toNatClampNeg (up (((388 : Int32) * un) + v1).toNatClampNeg)) fun f9 => vlet ((v1 : Int32) + 1) fun x10 => F_X4_undo_25 un uw up n f9 x10)
set_option maxHeartbeats 4000000 in
set_option maxRecDepth 100000 in
theorem w_X4_undo_25 {p : Program} {l : Launch} {e : Env} {s : State} {m : MethodId} {args : Array Value} {below : List Frame} {meth : Method} {c : Code} {G : va_G} {g : Nat → ClassId} (X : cx p s m args meth c cX4_undo 2 (some .int) RX4 wsX4_undo) (K : amb G g s) {A : Nat → Prop} (hA : ∀ q : Nat, s.heap.size ≤ q → A q) (jo js jp ja jk jt jb : Nat) (uy : Int32) (uq : Int32) (uz : Int32) (ua : Nat → Int32) (uk : Nat → Int32) (ut : Nat → Int32) (ub : Nat → Int32) (un : Int32) (uw : Int32) (up : Nat → Int32) (res : Int32 × Int32 × Int32 × (Nat → Int32)) : ∀ (n : Nat) (us : Nat → Int32) (v1 : Int32), F_X4_undo_25 un uw up n us v1 = some res → ∀ (H : Heap) (locs : List Loc), va_P G vwCl [(jo, .inr (4, [.ref js, .ref jp, .ref ja, .ref jk, .int un, .ref jt, .int uy, .int uw, .ref jb, .int uq, .int uz])), (js, .inl (g 0, 388, .inl us)), (jp, .inl (g 0, 1552, .inl up)), (ja, .inl (g 0, 388, .inl ua)), (jk, .inl (g 0, 97, .inl uk)), (jt, .inl (g 0, 150, .inl ut)), (jb, .inl (g 0, 1000, .inl ub))] H → va_D A [(jo, .inr (4, [.ref js, .ref jp, .ref ja, .ref jk, .int un, .ref jt, .int uy, .int uw, .ref jb, .int uq, .int uz])), (js, .inl (g 0, 388, .inl us)), (jp, .inl (g 0, 1552, .inl up)), (ja, .inl (g 0, 388, .inl ua)), (jk, .inl (g 0, 97, .inl uk)), (jt, .inl (g 0, 150, .inl ut)), (jb, .inl (g 0, 1000, .inl ub))] → va_S A s.heap H locs → ∀ (ls : Array Slot), lv_has ls 2 [(0, .ref jo), (1, .int v1)] → W p l e (rmF 1 21) s m args below meth c H locs 0 0 (rwM G A below (some (.int res.1)) [(jo, .inr (4, [.ref js, .ref jp, .ref ja, .ref jk, .int res.2.1, .ref jt, .int uy, .int res.2.2.1, .ref jb, .int uq, .int uz])), (js, .inl (g 0, 388, .inl res.2.2.2)), (jp, .inl (g 0, 1552, .inl up)), (ja, .inl (g 0, 388, .inl ua)), (jk, .inl (g 0, 97, .inl uk)), (jt, .inl (g 0, 150, .inl ut)), (jb, .inl (g 0, 1000, .inl ub))] args s) (F0 m 25 ls []) := by
  obtain ⟨hx, hb, hml, hr, hown, hts, hk⟩ := id X
  intro n
  induction n with
  | zero => intro us v1 hq; exact q_no hq
  | succ n ih =>
    intro us v1 hq H locs hP hD hS ls hl
    rw [F_X4_undo_25] at hq
    refine lv_iload_n hx hb dX4_undo_25 rfl (lv_at hl 1 rfl) ?_
    refine lv_sipush (v := 388) hx hb dX4_undo_26 (by decide) ?_
    refine lv_icmp_ge (tgt := 59) hx hb dX4_undo_29 (by decide) (fun c2 => ?_) (fun c2 => ?_)
    · have hq := q_if_t hq c2
      refine lv_aload_n hx hb dX4_undo_59 rfl (lv_at hl 0 rfl) ?_
      refine lv_aload_n hx hb dX4_undo_60 rfl (lv_at hl 0 rfl) ?_
      refine va_get (D := G) (ci := 4) (v := .int un) (C := RX4) (T := TX4) (N := 11) hx hb hts in_X4_undo_X4 hown K.1 hP 0 rfl rfl 4 (by decide) (hts _ (List.mem_of_getElem? (i := 1) rfl)) (fun _ h9 => h9) rfl dX4_undo_61 ?_
      obtain ⟨⟨r3, y4⟩, hh5, hq⟩ := q_bd hq
      refine rwV (ci := 4) (wr := []) (As := [.int un]) (rest := []) X K (k_X4_tells l G g jo js jp ja jk jt jb un uy uw uq uz us up ua uk ut ub un _ hh5) hd_X4_tells gX4_undo_X4_tells hP hD hS hA [0, 1, 2, 3, 4, 5, 6] [] rfl rfl ⟨by decide, by decide, by decide⟩ hl.1 dX4_undo_64 rfl rfl ⟨Nat.le_of_ble_eq_true rfl, Nat.le_of_ble_eq_true rfl⟩ rfl rfl rfl (Nat.le_of_ble_eq_true rfl) ⟨Nat.zero_le _, Nat.zero_le _⟩ (fun H locs hP hD hS => ?_)
      have hP : va_P G vwCl [(jo, .inr (4, [.ref js, .ref jp, .ref ja, .ref jk, .int un, .ref jt, .int uy, .int y4, .ref jb, .int uq, .int uz])), (js, .inl (g 0, 388, .inl us)), (jp, .inl (g 0, 1552, .inl up)), (ja, .inl (g 0, 388, .inl ua)), (jk, .inl (g 0, 97, .inl uk)), (jt, .inl (g 0, 150, .inl ut)), (jb, .inl (g 0, 1000, .inl ub))] H := hP
      have hD : va_D A [(jo, .inr (4, [.ref js, .ref jp, .ref ja, .ref jk, .int un, .ref jt, .int uy, .int y4, .ref jb, .int uq, .int uz])), (js, .inl (g 0, 388, .inl us)), (jp, .inl (g 0, 1552, .inl up)), (ja, .inl (g 0, 388, .inl ua)), (jk, .inl (g 0, 97, .inl uk)), (jt, .inl (g 0, 150, .inl ut)), (jb, .inl (g 0, 1000, .inl ub))] := hD
      obtain rfl := q_rt hq
      exact rw_iret hx hb hr hk hP hD hS dX4_undo_67
    · have hq := q_if_f hq c2
      refine lv_aload_n hx hb dX4_undo_32 rfl (lv_at hl 0 rfl) ?_
      refine va_get (D := G) (ci := 4) (v := .ref js) (C := RX4) (T := TX4) (N := 11) hx hb hts in_X4_undo_X4 hown K.1 hP 0 rfl rfl 0 (by decide) (hts _ (List.mem_of_getElem? (i := 2) rfl)) (fun _ h9 => h9) rfl dX4_undo_33 ?_
      refine lv_iload_n hx hb dX4_undo_36 rfl (lv_at hl 1 rfl) ?_
      refine lv_aload_n hx hb dX4_undo_37 rfl (lv_at hl 0 rfl) ?_
      refine va_get (D := G) (ci := 4) (v := .ref jp) (C := RX4) (T := TX4) (N := 11) hx hb hts in_X4_undo_X4 hown K.1 hP 0 rfl rfl 1 (by decide) (hts _ (List.mem_of_getElem? (i := 3) rfl)) (fun _ h9 => h9) rfl dX4_undo_38 ?_
      refine lv_sipush (v := 388) hx hb dX4_undo_41 (by decide) ?_
      refine lv_aload_n hx hb dX4_undo_44 rfl (lv_at hl 0 rfl) ?_
      refine va_get (D := G) (ci := 4) (v := .int un) (C := RX4) (T := TX4) (N := 11) hx hb hts in_X4_undo_X4 hown K.1 hP 0 rfl rfl 4 (by decide) (hts _ (List.mem_of_getElem? (i := 1) rfl)) (fun _ h9 => h9) rfl dX4_undo_45 ?_
      refine lv_imul hx hb dX4_undo_48 ?_
      refine lv_iload_n hx hb dX4_undo_49 rfl (lv_at hl 1 rfl) ?_
      refine lv_iadd hx hb dX4_undo_50 ?_
      obtain ⟨hh7, hq⟩ := q_gd hq
      refine va_iald hx hb K.1 hP 2 0 rfl rfl (vp_in_iff.mpr hh7) dX4_undo_51 ?_
      obtain ⟨hh8, hq⟩ := q_gd hq
      refine va_iast hx hb K.1 hP hD hS 1 0 rfl rfl (vp_in_iff.mpr hh8) dX4_undo_52 (fun H locs hP hD hS => ?_)
      obtain ⟨f9, ef9⟩ : ∃ y, y = upd us v1.toNatClampNeg (up (((388 : Int32) * un) + v1).toNatClampNeg) := ⟨_, rfl⟩
      have hq := q_let hq ef9
      have hP : va_P G vwCl [(jo, .inr (4, [.ref js, .ref jp, .ref ja, .ref jk, .int un, .ref jt, .int uy, .int uw, .ref jb, .int uq, .int uz])), (js, .inl (g 0, 388, .inl f9)), (jp, .inl (g 0, 1552, .inl up)), (ja, .inl (g 0, 388, .inl ua)), (jk, .inl (g 0, 97, .inl uk)), (jt, .inl (g 0, 150, .inl ut)), (jb, .inl (g 0, 1000, .inl ub))] H := by rw [ef9]; exact hP
      have hD : va_D A [(jo, .inr (4, [.ref js, .ref jp, .ref ja, .ref jk, .int un, .ref jt, .int uy, .int uw, .ref jb, .int uq, .int uz])), (js, .inl (g 0, 388, .inl f9)), (jp, .inl (g 0, 1552, .inl up)), (ja, .inl (g 0, 388, .inl ua)), (jk, .inl (g 0, 97, .inl uk)), (jt, .inl (g 0, 150, .inl ut)), (jb, .inl (g 0, 1000, .inl ub))] := by rw [ef9]; exact hD
      obtain ⟨x10, ex10⟩ : ∃ y : Int32, y = (v1 : Int32) + 1 := ⟨_, rfl⟩
      have hq := q_let hq ex10
      refine lv_iinc (v := x10) (lv' := [(1, .int x10), (0, .ref jo)]) hx hb dX4_undo_53 hl (k := 1) rfl (by rw [ex10]; rfl) (by decide) rfl (fun ls hl => ?_)
      refine lv_goto (tgt := 25) hx hb dX4_undo_56 (by decide) ?_
      exact ih f9 x10 hq _ _ hP hD hS ls (lv_sub hl [1, 0] rfl)
def F_X4_undo (un : Int32) (uw : Int32) (us : Nat → Int32) (up : Nat → Int32) : Option (Int32 × Int32 × Int32 × (Nat → Int32)) := if un = 0 then ((F_X4_fails uw 1).bind fun o6 => some (o6.1, un, o6.2, us)) else (vlet (un - 1) fun x2 => F_X4_undo_25 x2 uw up 2000 us 0)
set_option maxHeartbeats 4000000 in
set_option maxRecDepth 100000 in
theorem k_X4_undo (l : Launch) (G : va_G) (g : Nat → ClassId) (jo js jp ja jk jt jb : Nat) (un : Int32) (uy : Int32) (uw : Int32) (uq : Int32) (uz : Int32) (us : Nat → Int32) (up : Nat → Int32) (ua : Nat → Int32) (uk : Nat → Int32) (ut : Nat → Int32) (ub : Nat → Int32) (res : Int32 × Int32 × Int32 × (Nat → Int32)) (hq : F_X4_undo un uw us up = some res) : rwC l yX4_undo wsX4_undo (rmF 1 21) G g [.ref jo] [(jo, .inr (4, [.ref js, .ref jp, .ref ja, .ref jk, .int un, .ref jt, .int uy, .int uw, .ref jb, .int uq, .int uz])), (js, .inl (g 0, 388, .inl us)), (jp, .inl (g 0, 1552, .inl up)), (ja, .inl (g 0, 388, .inl ua)), (jk, .inl (g 0, 97, .inl uk)), (jt, .inl (g 0, 150, .inl ut)), (jb, .inl (g 0, 1000, .inl ub))] (some (.int res.1)) [(jo, .inr (4, [.ref js, .ref jp, .ref ja, .ref jk, .int res.2.1, .ref jt, .int uy, .int res.2.2.1, .ref jb, .int uq, .int uz])), (js, .inl (g 0, 388, .inl res.2.2.2)), (jp, .inl (g 0, 1552, .inl up)), (ja, .inl (g 0, 388, .inl ua)), (jk, .inl (g 0, 97, .inl uk)), (jt, .inl (g 0, 150, .inl ut)), (jb, .inl (g 0, 1000, .inl ub))] := by
  refine rwC.of (cc := cX4_undo) (maxL := 2) (ret := (some .int)) (by decide) rfl (Nat.le_of_ble_eq_true rfl) ?_
  intro p e s m below meth c ls A X K hA hP hD hS hl
  obtain ⟨hx, hb, hml, hr, hown, hts, hk⟩ := id X
  have hl : lv_has ls 2 [(0, .ref jo)] := hl
  unfold F_X4_undo at hq
  refine lv_aload_n hx hb dX4_undo_0 rfl (lv_at hl 0 rfl) ?_
  refine va_get (D := G) (ci := 4) (v := .int un) (C := RX4) (T := TX4) (N := 11) hx hb hts in_X4_undo_X4 hown K.1 hP 0 rfl rfl 4 (by decide) (hts _ (List.mem_of_getElem? (i := 1) rfl)) (fun _ h9 => h9) rfl dX4_undo_1 ?_
  refine lv_if_ne (tgt := 13) hx hb dX4_undo_4 (by decide) (fun c1 => ?_) (fun c1 => ?_)
  · have hq := q_if_f hq c1
    refine lv_aload_n hx hb dX4_undo_13 rfl (lv_at hl 0 rfl) ?_
    refine lv_dup hx hb dX4_undo_14 rfl ?_
    refine va_get (D := G) (ci := 4) (v := .int un) (C := RX4) (T := TX4) (N := 11) hx hb hts in_X4_undo_X4 hown K.1 hP 0 rfl rfl 4 (by decide) (hts _ (List.mem_of_getElem? (i := 1) rfl)) (fun _ h9 => h9) rfl dX4_undo_15 ?_
    refine lv_iconst (v := 1) hx hb dX4_undo_18 (by decide) ?_
    refine lv_isub hx hb dX4_undo_19 ?_
    refine lv_topi (fun x2 ex2 => ?_)
    have hq := q_let hq ex2
    refine va_put (D := G) (ci := 4) (v := .int x2) (ty := .int) (C := RX4) (T := TX4) (N := 11) hx hb hts in_X4_undo_X4 tyX4 tyX4_ok nmX4 hown K.1 hP hD hS 0 rfl rfl 4 (by decide) (hts _ (List.mem_of_getElem? (i := 1) rfl)) (fun _ h9 => h9) rfl (by decide +kernel) rfl rfl (Nat.le_of_ble_eq_true rfl) dX4_undo_20 (fun H locs hP hD hS => ?_)
    have hP : va_P G vwCl [(jo, .inr (4, [.ref js, .ref jp, .ref ja, .ref jk, .int x2, .ref jt, .int uy, .int uw, .ref jb, .int uq, .int uz])), (js, .inl (g 0, 388, .inl us)), (jp, .inl (g 0, 1552, .inl up)), (ja, .inl (g 0, 388, .inl ua)), (jk, .inl (g 0, 97, .inl uk)), (jt, .inl (g 0, 150, .inl ut)), (jb, .inl (g 0, 1000, .inl ub))] H := hP
    have hD : va_D A [(jo, .inr (4, [.ref js, .ref jp, .ref ja, .ref jk, .int x2, .ref jt, .int uy, .int uw, .ref jb, .int uq, .int uz])), (js, .inl (g 0, 388, .inl us)), (jp, .inl (g 0, 1552, .inl up)), (ja, .inl (g 0, 388, .inl ua)), (jk, .inl (g 0, 97, .inl uk)), (jt, .inl (g 0, 150, .inl ut)), (jb, .inl (g 0, 1000, .inl ub))] := hD
    refine lv_iconst (v := 0) hx hb dX4_undo_23 (by decide) ?_
    refine lv_istore_n (lv' := [(1, .int 0), (0, .ref jo)]) hx hb dX4_undo_24 rfl hl (by decide) rfl (fun ls hl => ?_)
    exact w_X4_undo_25 X K hA jo js jp ja jk jt jb uy uq uz ua uk ut ub x2 uw up _ 2000 us 0 hq _ _ hP hD hS ls (lv_sub hl [1, 0] rfl)
  · have hq := q_if_t hq c1
    refine lv_aload_n hx hb dX4_undo_7 rfl (lv_at hl 0 rfl) ?_
    refine lv_iconst (v := 1) hx hb dX4_undo_8 (by decide) ?_
    obtain ⟨⟨r3, y4⟩, hh5, hq⟩ := q_bd hq
    refine rwV (ci := 4) (wr := []) (As := [.int 1]) (rest := []) X K (k_X4_fails l G g jo js jp ja jk jt jb un uy uw uq uz us up ua uk ut ub 1 _ hh5) hd_X4_fails gX4_undo_X4_fails hP hD hS hA [0, 1, 2, 3, 4, 5, 6] [] rfl rfl ⟨by decide, by decide, by decide⟩ hl.1 dX4_undo_9 rfl rfl ⟨Nat.le_of_ble_eq_true rfl, Nat.le_of_ble_eq_true rfl⟩ rfl rfl rfl (Nat.le_of_ble_eq_true rfl) ⟨Nat.zero_le _, Nat.zero_le _⟩ (fun H locs hP hD hS => ?_)
    have hP : va_P G vwCl [(jo, .inr (4, [.ref js, .ref jp, .ref ja, .ref jk, .int un, .ref jt, .int uy, .int y4, .ref jb, .int uq, .int uz])), (js, .inl (g 0, 388, .inl us)), (jp, .inl (g 0, 1552, .inl up)), (ja, .inl (g 0, 388, .inl ua)), (jk, .inl (g 0, 97, .inl uk)), (jt, .inl (g 0, 150, .inl ut)), (jb, .inl (g 0, 1000, .inl ub))] H := hP
    have hD : va_D A [(jo, .inr (4, [.ref js, .ref jp, .ref ja, .ref jk, .int un, .ref jt, .int uy, .int y4, .ref jb, .int uq, .int uz])), (js, .inl (g 0, 388, .inl us)), (jp, .inl (g 0, 1552, .inl up)), (ja, .inl (g 0, 388, .inl ua)), (jk, .inl (g 0, 97, .inl uk)), (jt, .inl (g 0, 150, .inl ut)), (jb, .inl (g 0, 1000, .inl ub))] := hD
    obtain rfl := q_rt hq
    exact rw_iret hx hb hr hk hP hD hS dX4_undo_12
theorem in_X4_digest_X4 : ∀ w ∈ wsX40, w ∈ wsX4_digest := fun _ h => List.mem_cons_of_mem _ (List.mem_append_right _ h)
def F_X4_digest_38 (un : Int32) (uy : Int32) (uw : Int32) (us : Nat → Int32) (v2 : Int32) : Nat → Int64 → Int32 → Option (Int64)
  | 0, _, _ => none
  | n + 1, v1, v3 => (F_X4_many us v2).bind fun r4 => if ((7 : Int32) * r4) ≤ v3 then (some v1) else ((F_X4_keyOf us v2 (v3 / 7) (v3 - v3 / 7 * 7)).bind fun r7 => vlet (((31 : Int64) * v1) + (r7.toInt64)) fun x9 => vlet ((v3 : Int32) + 1) fun x10 => F_X4_digest_38 un uy uw us v2 n x9 x10)
set_option maxHeartbeats 4000000 in
set_option maxRecDepth 100000 in
theorem w_X4_digest_38 {p : Program} {l : Launch} {e : Env} {s : State} {m : MethodId} {args : Array Value} {below : List Frame} {meth : Method} {c : Code} {G : va_G} {g : Nat → ClassId} (X : cx p s m args meth c cX4_digest 5 (some .long) RX4 wsX4_digest) (K : amb G g s) {A : Nat → Prop} (hA : ∀ q : Nat, s.heap.size ≤ q → A q) (jo js jp ja jk jt jb : Nat) (uq : Int32) (uz : Int32) (up : Nat → Int32) (ua : Nat → Int32) (uk : Nat → Int32) (ut : Nat → Int32) (ub : Nat → Int32) (un : Int32) (uy : Int32) (uw : Int32) (us : Nat → Int32) (v2 : Int32) (res : Int64) {Q : State → Prop} (kk : ∀ (H : Heap) (locs : List Loc), va_P G vwCl [(jo, .inr (4, [.ref js, .ref jp, .ref ja, .ref jk, .int un, .ref jt, .int uy, .int uw, .ref jb, .int uq, .int uz])), (js, .inl (g 0, 388, .inl us)), (jp, .inl (g 0, 1552, .inl up)), (ja, .inl (g 0, 388, .inl ua)), (jk, .inl (g 0, 97, .inl uk)), (jt, .inl (g 0, 150, .inl ut)), (jb, .inl (g 0, 1000, .inl ub))] H → va_D A [(jo, .inr (4, [.ref js, .ref jp, .ref ja, .ref jk, .int un, .ref jt, .int uy, .int uw, .ref jb, .int uq, .int uz])), (js, .inl (g 0, 388, .inl us)), (jp, .inl (g 0, 1552, .inl up)), (ja, .inl (g 0, 388, .inl ua)), (jk, .inl (g 0, 97, .inl uk)), (jt, .inl (g 0, 150, .inl ut)), (jb, .inl (g 0, 1000, .inl ub))] → va_S A s.heap H locs → ∀ (ls : Array Slot), lv_has ls 5 [(0, .ref jo), (1, .long res), (3, .int v2)] → W p l e (rmF 4 110) s m args below meth c H locs 0 0 Q (F0 m 80 ls [])) : ∀ (n : Nat) (v1 : Int64) (v3 : Int32), F_X4_digest_38 un uy uw us v2 n v1 v3 = some res → ∀ (H : Heap) (locs : List Loc), va_P G vwCl [(jo, .inr (4, [.ref js, .ref jp, .ref ja, .ref jk, .int un, .ref jt, .int uy, .int uw, .ref jb, .int uq, .int uz])), (js, .inl (g 0, 388, .inl us)), (jp, .inl (g 0, 1552, .inl up)), (ja, .inl (g 0, 388, .inl ua)), (jk, .inl (g 0, 97, .inl uk)), (jt, .inl (g 0, 150, .inl ut)), (jb, .inl (g 0, 1000, .inl ub))] H → va_D A [(jo, .inr (4, [.ref js, .ref jp, .ref ja, .ref jk, .int un, .ref jt, .int uy, .int uw, .ref jb, .int uq, .int uz])), (js, .inl (g 0, 388, .inl us)), (jp, .inl (g 0, 1552, .inl up)), (ja, .inl (g 0, 388, .inl ua)), (jk, .inl (g 0, 97, .inl uk)), (jt, .inl (g 0, 150, .inl ut)), (jb, .inl (g 0, 1000, .inl ub))] → va_S A s.heap H locs → ∀ (ls : Array Slot), lv_has ls 5 [(0, .ref jo), (1, .long v1), (3, .int v2), (4, .int v3)] → W p l e (rmF 4 110) s m args below meth c H locs 0 0 Q (F0 m 38 ls []) := by
  obtain ⟨hx, hb, hml, hr, hown, hts, hk⟩ := id X
  intro n
  induction n with
  | zero => intro v1 v3 hq; exact q_no hq
  | succ n ih =>
    intro v1 v3 hq H locs hP hD hS ls hl
    rw [F_X4_digest_38] at hq
    refine lv_iload hx hb dX4_digest_38 (lv_at hl 3 rfl) ?_
    refine lv_bipush (v := 7) hx hb dX4_digest_40 (by decide) ?_
    refine lv_aload_n hx hb dX4_digest_42 rfl (lv_at hl 0 rfl) ?_
    refine lv_iload_n hx hb dX4_digest_43 rfl (lv_at hl 2 rfl) ?_
    obtain ⟨r4, hh5, hq⟩ := q_bd hq
    refine roV (ci := 4) (As := [.int v2]) (rest := [.int 7, .int v3]) X K (k_X4_many l G g jo js jp ja jk jt jb un uy uw uq uz us up ua uk ut ub v2 _ hh5) hd_X4_many gX4_digest_X4_many hP hl.1 dX4_digest_44 rfl rfl ⟨Nat.le_of_ble_eq_true rfl, Nat.le_of_ble_eq_true rfl⟩ rfl rfl rfl (Nat.le_of_ble_eq_true rfl) ⟨Nat.zero_le _, Nat.zero_le _⟩ ?_
    refine lv_imul hx hb dX4_digest_47 ?_
    refine lv_icmp_ge (tgt := 80) hx hb dX4_digest_48 (by decide) (fun c6 => ?_) (fun c6 => ?_)
    · have hq := q_if_t hq c6
      obtain rfl := q_rt hq
      exact kk _ _ hP hD hS ls (lv_sub hl [0, 1, 2] rfl)
    · have hq := q_if_f hq c6
      refine lv_ldc2 (v := 31) hx hb hown (hts _ (List.mem_of_getElem? (i := 4) rfl)) dX4_digest_51 ?_
      refine lv_lload_n hx hb dX4_digest_54 rfl (lv_at hl 1 rfl) ?_
      refine lv_lmul hx hb dX4_digest_55 ?_
      refine lv_aload_n hx hb dX4_digest_56 rfl (lv_at hl 0 rfl) ?_
      refine lv_iload_n hx hb dX4_digest_57 rfl (lv_at hl 2 rfl) ?_
      refine lv_iload hx hb dX4_digest_58 (lv_at hl 3 rfl) ?_
      refine lv_bipush (v := 7) hx hb dX4_digest_60 (by decide) ?_
      refine lv_idiv hx hb dX4_digest_62 (by decide) ?_
      refine lv_iload hx hb dX4_digest_63 (lv_at hl 3 rfl) ?_
      refine lv_bipush (v := 7) hx hb dX4_digest_65 (by decide) ?_
      refine lv_irem hx hb dX4_digest_67 (by decide) ?_
      obtain ⟨r7, hh8, hq⟩ := q_bd hq
      refine roV (ci := 4) (As := [.int v2, .int (v3 / 7), .int (v3 - v3 / 7 * 7)]) (rest := [.long ((31 : Int64) * v1)]) X K (k_X4_keyOf l G g jo js jp ja jk jt jb un uy uw uq uz us up ua uk ut ub v2 (v3 / 7) (v3 - v3 / 7 * 7) _ hh8) hd_X4_keyOf gX4_digest_X4_keyOf hP hl.1 dX4_digest_68 rfl rfl ⟨Nat.le_of_ble_eq_true rfl, Nat.le_of_ble_eq_true rfl⟩ rfl rfl rfl (Nat.le_of_ble_eq_true rfl) ⟨Nat.zero_le _, Nat.zero_le _⟩ ?_
      refine lv_i2l (v := r7.toInt64) hx hb dX4_digest_71 rfl ?_
      refine lv_ladd hx hb dX4_digest_72 ?_
      refine lv_topl (fun x9 ex9 => ?_)
      have hq := q_let hq ex9
      refine lv_lstore_n (lv' := [(1, .long x9), (0, .ref jo), (3, .int v2), (4, .int v3)]) hx hb dX4_digest_73 rfl hl (by decide) rfl (fun ls hl => ?_)
      obtain ⟨x10, ex10⟩ : ∃ y : Int32, y = (v3 : Int32) + 1 := ⟨_, rfl⟩
      have hq := q_let hq ex10
      refine lv_iinc (v := x10) (lv' := [(4, .int x10), (1, .long x9), (0, .ref jo), (3, .int v2)]) hx hb dX4_digest_74 hl (k := 3) rfl (by rw [ex10]; rfl) (by decide) rfl (fun ls hl => ?_)
      refine lv_goto (tgt := 38) hx hb dX4_digest_77 (by decide) ?_
      exact ih x9 x10 hq _ _ hP hD hS ls (lv_sub hl [2, 1, 3, 0] rfl)
def F_X4_digest_83 (un : Int32) (uy : Int32) (uw : Int32) (us : Nat → Int32) (v2 : Int32) : Nat → Int64 → Int32 → Option (Int64)
  | 0, _, _ => none
  | n + 1, v1, v3 => if (999 : Int32) < v3 then (some v1) else ((F_X4_valueAt us v2 v3).bind fun r5 => vlet (((31 : Int64) * v1) + (r5.toInt64)) fun x7 => vlet ((v3 : Int32) + 37) fun x8 => F_X4_digest_83 un uy uw us v2 n x7 x8)
set_option maxHeartbeats 4000000 in
set_option maxRecDepth 100000 in
theorem w_X4_digest_83 {p : Program} {l : Launch} {e : Env} {s : State} {m : MethodId} {args : Array Value} {below : List Frame} {meth : Method} {c : Code} {G : va_G} {g : Nat → ClassId} (X : cx p s m args meth c cX4_digest 5 (some .long) RX4 wsX4_digest) (K : amb G g s) {A : Nat → Prop} (hA : ∀ q : Nat, s.heap.size ≤ q → A q) (jo js jp ja jk jt jb : Nat) (uq : Int32) (uz : Int32) (up : Nat → Int32) (ua : Nat → Int32) (uk : Nat → Int32) (ut : Nat → Int32) (ub : Nat → Int32) (un : Int32) (uy : Int32) (uw : Int32) (us : Nat → Int32) (v2 : Int32) (res : Int64) {Q : State → Prop} (kk : ∀ (H : Heap) (locs : List Loc), va_P G vwCl [(jo, .inr (4, [.ref js, .ref jp, .ref ja, .ref jk, .int un, .ref jt, .int uy, .int uw, .ref jb, .int uq, .int uz])), (js, .inl (g 0, 388, .inl us)), (jp, .inl (g 0, 1552, .inl up)), (ja, .inl (g 0, 388, .inl ua)), (jk, .inl (g 0, 97, .inl uk)), (jt, .inl (g 0, 150, .inl ut)), (jb, .inl (g 0, 1000, .inl ub))] H → va_D A [(jo, .inr (4, [.ref js, .ref jp, .ref ja, .ref jk, .int un, .ref jt, .int uy, .int uw, .ref jb, .int uq, .int uz])), (js, .inl (g 0, 388, .inl us)), (jp, .inl (g 0, 1552, .inl up)), (ja, .inl (g 0, 388, .inl ua)), (jk, .inl (g 0, 97, .inl uk)), (jt, .inl (g 0, 150, .inl ut)), (jb, .inl (g 0, 1000, .inl ub))] → va_S A s.heap H locs → ∀ (ls : Array Slot), lv_has ls 5 [(0, .ref jo), (1, .long res), (3, .int v2)] → W p l e (rmF 4 110) s m args below meth c H locs 0 0 Q (F0 m 112 ls [])) : ∀ (n : Nat) (v1 : Int64) (v3 : Int32), F_X4_digest_83 un uy uw us v2 n v1 v3 = some res → ∀ (H : Heap) (locs : List Loc), va_P G vwCl [(jo, .inr (4, [.ref js, .ref jp, .ref ja, .ref jk, .int un, .ref jt, .int uy, .int uw, .ref jb, .int uq, .int uz])), (js, .inl (g 0, 388, .inl us)), (jp, .inl (g 0, 1552, .inl up)), (ja, .inl (g 0, 388, .inl ua)), (jk, .inl (g 0, 97, .inl uk)), (jt, .inl (g 0, 150, .inl ut)), (jb, .inl (g 0, 1000, .inl ub))] H → va_D A [(jo, .inr (4, [.ref js, .ref jp, .ref ja, .ref jk, .int un, .ref jt, .int uy, .int uw, .ref jb, .int uq, .int uz])), (js, .inl (g 0, 388, .inl us)), (jp, .inl (g 0, 1552, .inl up)), (ja, .inl (g 0, 388, .inl ua)), (jk, .inl (g 0, 97, .inl uk)), (jt, .inl (g 0, 150, .inl ut)), (jb, .inl (g 0, 1000, .inl ub))] → va_S A s.heap H locs → ∀ (ls : Array Slot), lv_has ls 5 [(0, .ref jo), (1, .long v1), (3, .int v2), (4, .int v3)] → W p l e (rmF 4 110) s m args below meth c H locs 0 0 Q (F0 m 83 ls []) := by
  obtain ⟨hx, hb, hml, hr, hown, hts, hk⟩ := id X
  intro n
  induction n with
  | zero => intro v1 v3 hq; exact q_no hq
  | succ n ih =>
    intro v1 v3 hq H locs hP hD hS ls hl
    rw [F_X4_digest_83] at hq
    refine lv_iload hx hb dX4_digest_83 (lv_at hl 3 rfl) ?_
    refine lv_sipush (v := 999) hx hb dX4_digest_85 (by decide) ?_
    refine lv_icmp_gt (tgt := 112) hx hb dX4_digest_88 (by decide) (fun c4 => ?_) (fun c4 => ?_)
    · have hq := q_if_t hq c4
      obtain rfl := q_rt hq
      exact kk _ _ hP hD hS ls (lv_sub hl [0, 1, 2] rfl)
    · have hq := q_if_f hq c4
      refine lv_ldc2 (v := 31) hx hb hown (hts _ (List.mem_of_getElem? (i := 4) rfl)) dX4_digest_91 ?_
      refine lv_lload_n hx hb dX4_digest_94 rfl (lv_at hl 1 rfl) ?_
      refine lv_lmul hx hb dX4_digest_95 ?_
      refine lv_aload_n hx hb dX4_digest_96 rfl (lv_at hl 0 rfl) ?_
      refine lv_iload_n hx hb dX4_digest_97 rfl (lv_at hl 2 rfl) ?_
      refine lv_iload hx hb dX4_digest_98 (lv_at hl 3 rfl) ?_
      obtain ⟨r5, hh6, hq⟩ := q_bd hq
      refine roV (ci := 4) (As := [.int v2, .int v3]) (rest := [.long ((31 : Int64) * v1)]) X K (k_X4_valueAt l G g jo js jp ja jk jt jb un uy uw uq uz us up ua uk ut ub v2 v3 _ hh6) hd_X4_valueAt gX4_digest_X4_valueAt hP hl.1 dX4_digest_100 rfl rfl ⟨Nat.le_of_ble_eq_true rfl, Nat.le_of_ble_eq_true rfl⟩ rfl rfl rfl (Nat.le_of_ble_eq_true rfl) ⟨Nat.zero_le _, Nat.zero_le _⟩ ?_
      refine lv_i2l (v := r5.toInt64) hx hb dX4_digest_103 rfl ?_
      refine lv_ladd hx hb dX4_digest_104 ?_
      refine lv_topl (fun x7 ex7 => ?_)
      have hq := q_let hq ex7
      refine lv_lstore_n (lv' := [(1, .long x7), (0, .ref jo), (3, .int v2), (4, .int v3)]) hx hb dX4_digest_105 rfl hl (by decide) rfl (fun ls hl => ?_)
      obtain ⟨x8, ex8⟩ : ∃ y : Int32, y = (v3 : Int32) + 37 := ⟨_, rfl⟩
      have hq := q_let hq ex8
      refine lv_iinc (v := x8) (lv' := [(4, .int x8), (1, .long x7), (0, .ref jo), (3, .int v2)]) hx hb dX4_digest_106 hl (k := 3) rfl (by rw [ex8]; rfl) (by decide) rfl (fun ls hl => ?_)
      refine lv_goto (tgt := 83) hx hb dX4_digest_109 (by decide) ?_
      exact ih x7 x8 hq _ _ hP hD hS ls (lv_sub hl [2, 1, 3, 0] rfl)
def F_X4_digest_17 (un : Int32) (uy : Int32) (uw : Int32) (us : Nat → Int32) : Nat → Int64 → Int32 → Option (Int64 × Int32)
  | 0, _, _ => none
  | n + 1, v1, v2 => if (4 : Int32) ≤ v2 then (some (((31 : Int64) * v1) + (un.toInt64), uw)) else ((F_X4_many us v2).bind fun r4 => vlet (((31 : Int64) * v1) + (r4.toInt64)) fun x6 => (F_X4_digest_38 un uy uw us v2 2000 x6 0).bind fun o7 => (F_X4_digest_83 un uy uw us v2 2000 o7 0).bind fun o8 => vlet ((v2 : Int32) + 1) fun x9 => F_X4_digest_17 un uy uw us n o8 x9)
set_option maxHeartbeats 4000000 in
set_option maxRecDepth 100000 in
theorem w_X4_digest_17 {p : Program} {l : Launch} {e : Env} {s : State} {m : MethodId} {args : Array Value} {below : List Frame} {meth : Method} {c : Code} {G : va_G} {g : Nat → ClassId} (X : cx p s m args meth c cX4_digest 5 (some .long) RX4 wsX4_digest) (K : amb G g s) {A : Nat → Prop} (hA : ∀ q : Nat, s.heap.size ≤ q → A q) (jo js jp ja jk jt jb : Nat) (uq : Int32) (uz : Int32) (up : Nat → Int32) (ua : Nat → Int32) (uk : Nat → Int32) (ut : Nat → Int32) (ub : Nat → Int32) (un : Int32) (uy : Int32) (uw : Int32) (us : Nat → Int32) (res : Int64 × Int32) : ∀ (n : Nat) (v1 : Int64) (v2 : Int32), F_X4_digest_17 un uy uw us n v1 v2 = some res → ∀ (H : Heap) (locs : List Loc), va_P G vwCl [(jo, .inr (4, [.ref js, .ref jp, .ref ja, .ref jk, .int un, .ref jt, .int uy, .int uw, .ref jb, .int uq, .int uz])), (js, .inl (g 0, 388, .inl us)), (jp, .inl (g 0, 1552, .inl up)), (ja, .inl (g 0, 388, .inl ua)), (jk, .inl (g 0, 97, .inl uk)), (jt, .inl (g 0, 150, .inl ut)), (jb, .inl (g 0, 1000, .inl ub))] H → va_D A [(jo, .inr (4, [.ref js, .ref jp, .ref ja, .ref jk, .int un, .ref jt, .int uy, .int uw, .ref jb, .int uq, .int uz])), (js, .inl (g 0, 388, .inl us)), (jp, .inl (g 0, 1552, .inl up)), (ja, .inl (g 0, 388, .inl ua)), (jk, .inl (g 0, 97, .inl uk)), (jt, .inl (g 0, 150, .inl ut)), (jb, .inl (g 0, 1000, .inl ub))] → va_S A s.heap H locs → ∀ (ls : Array Slot), lv_has ls 5 [(0, .ref jo), (1, .long v1), (3, .int v2)] → W p l e (rmF 4 110) s m args below meth c H locs 0 0 (rwM G A below (some (.long res.1)) [(jo, .inr (4, [.ref js, .ref jp, .ref ja, .ref jk, .int un, .ref jt, .int uy, .int res.2, .ref jb, .int uq, .int uz])), (js, .inl (g 0, 388, .inl us)), (jp, .inl (g 0, 1552, .inl up)), (ja, .inl (g 0, 388, .inl ua)), (jk, .inl (g 0, 97, .inl uk)), (jt, .inl (g 0, 150, .inl ut)), (jb, .inl (g 0, 1000, .inl ub))] args s) (F0 m 17 ls []) := by
  obtain ⟨hx, hb, hml, hr, hown, hts, hk⟩ := id X
  intro n
  induction n with
  | zero => intro v1 v2 hq; exact q_no hq
  | succ n ih =>
    intro v1 v2 hq H locs hP hD hS ls hl
    rw [F_X4_digest_17] at hq
    refine lv_iload_n hx hb dX4_digest_17 rfl (lv_at hl 2 rfl) ?_
    refine lv_iconst (v := 4) hx hb dX4_digest_18 (by decide) ?_
    refine lv_icmp_ge (tgt := 118) hx hb dX4_digest_19 (by decide) (fun c3 => ?_) (fun c3 => ?_)
    · have hq := q_if_t hq c3
      refine lv_ldc2 (v := 31) hx hb hown (hts _ (List.mem_of_getElem? (i := 4) rfl)) dX4_digest_118 ?_
      refine lv_lload_n hx hb dX4_digest_121 rfl (lv_at hl 1 rfl) ?_
      refine lv_lmul hx hb dX4_digest_122 ?_
      refine lv_aload_n hx hb dX4_digest_123 rfl (lv_at hl 0 rfl) ?_
      refine va_get (D := G) (ci := 4) (v := .int un) (C := RX4) (T := TX4) (N := 11) hx hb hts in_X4_digest_X4 hown K.1 hP 0 rfl rfl 4 (by decide) (hts _ (List.mem_of_getElem? (i := 5) rfl)) (fun _ h9 => h9) rfl dX4_digest_124 ?_
      refine lv_i2l (v := un.toInt64) hx hb dX4_digest_127 rfl ?_
      refine lv_ladd hx hb dX4_digest_128 ?_
      obtain rfl := q_rt hq
      exact rw_lret hx hb hr hk hP hD hS dX4_digest_129
    · have hq := q_if_f hq c3
      refine lv_ldc2 (v := 31) hx hb hown (hts _ (List.mem_of_getElem? (i := 4) rfl)) dX4_digest_22 ?_
      refine lv_lload_n hx hb dX4_digest_25 rfl (lv_at hl 1 rfl) ?_
      refine lv_lmul hx hb dX4_digest_26 ?_
      refine lv_aload_n hx hb dX4_digest_27 rfl (lv_at hl 0 rfl) ?_
      refine lv_iload_n hx hb dX4_digest_28 rfl (lv_at hl 2 rfl) ?_
      obtain ⟨r4, hh5, hq⟩ := q_bd hq
      refine roV (ci := 4) (As := [.int v2]) (rest := [.long ((31 : Int64) * v1)]) X K (k_X4_many l G g jo js jp ja jk jt jb un uy uw uq uz us up ua uk ut ub v2 _ hh5) hd_X4_many gX4_digest_X4_many hP hl.1 dX4_digest_29 rfl rfl ⟨Nat.le_of_ble_eq_true rfl, Nat.le_of_ble_eq_true rfl⟩ rfl rfl rfl (Nat.le_of_ble_eq_true rfl) ⟨Nat.zero_le _, Nat.zero_le _⟩ ?_
      refine lv_i2l (v := r4.toInt64) hx hb dX4_digest_32 rfl ?_
      refine lv_ladd hx hb dX4_digest_33 ?_
      refine lv_topl (fun x6 ex6 => ?_)
      have hq := q_let hq ex6
      refine lv_lstore_n (lv' := [(1, .long x6), (0, .ref jo), (3, .int v2)]) hx hb dX4_digest_34 rfl hl (by decide) rfl (fun ls hl => ?_)
      refine lv_iconst (v := 0) hx hb dX4_digest_35 (by decide) ?_
      refine lv_istore (lv' := [(4, .int 0), (1, .long x6), (0, .ref jo), (3, .int v2)]) hx hb dX4_digest_36 hl (by decide) rfl (fun ls hl => ?_)
      obtain ⟨o7, ho7, hq⟩ := q_bd hq
      refine w_X4_digest_38 X K hA jo js jp ja jk jt jb uq uz up ua uk ut ub un uy uw us v2 o7 (fun H locs hP hD hS ls hl => ?_) 2000 x6 0 ho7 _ _ hP hD hS ls (lv_sub hl [2, 1, 3, 0] rfl)
      have hl : lv_has ls 5 [(0, .ref jo), (1, .long o7), (3, .int v2)] := hl
      have hP : va_P G vwCl [(jo, .inr (4, [.ref js, .ref jp, .ref ja, .ref jk, .int un, .ref jt, .int uy, .int uw, .ref jb, .int uq, .int uz])), (js, .inl (g 0, 388, .inl us)), (jp, .inl (g 0, 1552, .inl up)), (ja, .inl (g 0, 388, .inl ua)), (jk, .inl (g 0, 97, .inl uk)), (jt, .inl (g 0, 150, .inl ut)), (jb, .inl (g 0, 1000, .inl ub))] H := hP
      have hD : va_D A [(jo, .inr (4, [.ref js, .ref jp, .ref ja, .ref jk, .int un, .ref jt, .int uy, .int uw, .ref jb, .int uq, .int uz])), (js, .inl (g 0, 388, .inl us)), (jp, .inl (g 0, 1552, .inl up)), (ja, .inl (g 0, 388, .inl ua)), (jk, .inl (g 0, 97, .inl uk)), (jt, .inl (g 0, 150, .inl ut)), (jb, .inl (g 0, 1000, .inl ub))] := hD
      refine lv_iconst (v := 0) hx hb dX4_digest_80 (by decide) ?_
      refine lv_istore (lv' := [(4, .int 0), (0, .ref jo), (1, .long o7), (3, .int v2)]) hx hb dX4_digest_81 hl (by decide) rfl (fun ls hl => ?_)
      obtain ⟨o8, ho8, hq⟩ := q_bd hq
      refine w_X4_digest_83 X K hA jo js jp ja jk jt jb uq uz up ua uk ut ub un uy uw us v2 o8 (fun H locs hP hD hS ls hl => ?_) 2000 o7 0 ho8 _ _ hP hD hS ls (lv_sub hl [1, 2, 3, 0] rfl)
      have hl : lv_has ls 5 [(0, .ref jo), (1, .long o8), (3, .int v2)] := hl
      have hP : va_P G vwCl [(jo, .inr (4, [.ref js, .ref jp, .ref ja, .ref jk, .int un, .ref jt, .int uy, .int uw, .ref jb, .int uq, .int uz])), (js, .inl (g 0, 388, .inl us)), (jp, .inl (g 0, 1552, .inl up)), (ja, .inl (g 0, 388, .inl ua)), (jk, .inl (g 0, 97, .inl uk)), (jt, .inl (g 0, 150, .inl ut)), (jb, .inl (g 0, 1000, .inl ub))] H := hP
      have hD : va_D A [(jo, .inr (4, [.ref js, .ref jp, .ref ja, .ref jk, .int un, .ref jt, .int uy, .int uw, .ref jb, .int uq, .int uz])), (js, .inl (g 0, 388, .inl us)), (jp, .inl (g 0, 1552, .inl up)), (ja, .inl (g 0, 388, .inl ua)), (jk, .inl (g 0, 97, .inl uk)), (jt, .inl (g 0, 150, .inl ut)), (jb, .inl (g 0, 1000, .inl ub))] := hD
      obtain ⟨x9, ex9⟩ : ∃ y : Int32, y = (v2 : Int32) + 1 := ⟨_, rfl⟩
      have hq := q_let hq ex9
      refine lv_iinc (v := x9) (lv' := [(3, .int x9), (0, .ref jo), (1, .long o8)]) hx hb dX4_digest_112 hl (k := 2) rfl (by rw [ex9]; rfl) (by decide) rfl (fun ls hl => ?_)
      refine lv_goto (tgt := 17) hx hb dX4_digest_115 (by decide) ?_
      exact ih o8 x9 hq _ _ hP hD hS ls (lv_sub hl [1, 2, 0] rfl)
def F_X4_digest (un : Int32) (uy : Int32) (uw : Int32) (us : Nat → Int32) : Option (Int64 × Int32) := vlet ((103013 : Int64) + (uy.toInt64)) fun x1 => F_X4_digest_17 un uy 0 us 2000 x1 0
set_option maxHeartbeats 4000000 in
set_option maxRecDepth 100000 in
theorem k_X4_digest (l : Launch) (G : va_G) (g : Nat → ClassId) (jo js jp ja jk jt jb : Nat) (un : Int32) (uy : Int32) (uw : Int32) (uq : Int32) (uz : Int32) (us : Nat → Int32) (up : Nat → Int32) (ua : Nat → Int32) (uk : Nat → Int32) (ut : Nat → Int32) (ub : Nat → Int32) (res : Int64 × Int32) (hq : F_X4_digest un uy uw us = some res) : rwC l yX4_digest wsX4_digest (rmF 4 110) G g [.ref jo] [(jo, .inr (4, [.ref js, .ref jp, .ref ja, .ref jk, .int un, .ref jt, .int uy, .int uw, .ref jb, .int uq, .int uz])), (js, .inl (g 0, 388, .inl us)), (jp, .inl (g 0, 1552, .inl up)), (ja, .inl (g 0, 388, .inl ua)), (jk, .inl (g 0, 97, .inl uk)), (jt, .inl (g 0, 150, .inl ut)), (jb, .inl (g 0, 1000, .inl ub))] (some (.long res.1)) [(jo, .inr (4, [.ref js, .ref jp, .ref ja, .ref jk, .int un, .ref jt, .int uy, .int res.2, .ref jb, .int uq, .int uz])), (js, .inl (g 0, 388, .inl us)), (jp, .inl (g 0, 1552, .inl up)), (ja, .inl (g 0, 388, .inl ua)), (jk, .inl (g 0, 97, .inl uk)), (jt, .inl (g 0, 150, .inl ut)), (jb, .inl (g 0, 1000, .inl ub))] := by
  refine rwC.of (cc := cX4_digest) (maxL := 5) (ret := (some .long)) (by decide) rfl (Nat.le_of_ble_eq_true rfl) ?_
  intro p e s m below meth c ls A X K hA hP hD hS hl
  obtain ⟨hx, hb, hml, hr, hown, hts, hk⟩ := id X
  have hl : lv_has ls 5 [(0, .ref jo)] := hl
  unfold F_X4_digest at hq
  refine lv_aload_n hx hb dX4_digest_0 rfl (lv_at hl 0 rfl) ?_
  refine lv_iconst (v := 0) hx hb dX4_digest_1 (by decide) ?_
  refine va_put (D := G) (ci := 4) (v := .int 0) (ty := .int) (C := RX4) (T := TX4) (N := 11) hx hb hts in_X4_digest_X4 tyX4 tyX4_ok nmX4 hown K.1 hP hD hS 0 rfl rfl 7 (by decide) (hts _ (List.mem_of_getElem? (i := 1) rfl)) (fun _ h9 => h9) rfl (by decide +kernel) rfl rfl (Nat.le_of_ble_eq_true rfl) dX4_digest_2 (fun H locs hP hD hS => ?_)
  have hP : va_P G vwCl [(jo, .inr (4, [.ref js, .ref jp, .ref ja, .ref jk, .int un, .ref jt, .int uy, .int 0, .ref jb, .int uq, .int uz])), (js, .inl (g 0, 388, .inl us)), (jp, .inl (g 0, 1552, .inl up)), (ja, .inl (g 0, 388, .inl ua)), (jk, .inl (g 0, 97, .inl uk)), (jt, .inl (g 0, 150, .inl ut)), (jb, .inl (g 0, 1000, .inl ub))] H := hP
  have hD : va_D A [(jo, .inr (4, [.ref js, .ref jp, .ref ja, .ref jk, .int un, .ref jt, .int uy, .int 0, .ref jb, .int uq, .int uz])), (js, .inl (g 0, 388, .inl us)), (jp, .inl (g 0, 1552, .inl up)), (ja, .inl (g 0, 388, .inl ua)), (jk, .inl (g 0, 97, .inl uk)), (jt, .inl (g 0, 150, .inl ut)), (jb, .inl (g 0, 1000, .inl ub))] := hD
  refine lv_ldc2 (v := 103013) hx hb hown (hts _ (List.mem_of_getElem? (i := 2) rfl)) dX4_digest_5 ?_
  refine lv_aload_n hx hb dX4_digest_8 rfl (lv_at hl 0 rfl) ?_
  refine va_get (D := G) (ci := 4) (v := .int uy) (C := RX4) (T := TX4) (N := 11) hx hb hts in_X4_digest_X4 hown K.1 hP 0 rfl rfl 6 (by decide) (hts _ (List.mem_of_getElem? (i := 3) rfl)) (fun _ h9 => h9) rfl dX4_digest_9 ?_
  refine lv_i2l (v := uy.toInt64) hx hb dX4_digest_12 rfl ?_
  refine lv_ladd hx hb dX4_digest_13 ?_
  refine lv_topl (fun x1 ex1 => ?_)
  have hq := q_let hq ex1
  refine lv_lstore_n (lv' := [(1, .long x1), (0, .ref jo)]) hx hb dX4_digest_14 rfl hl (by decide) rfl (fun ls hl => ?_)
  refine lv_iconst (v := 0) hx hb dX4_digest_15 (by decide) ?_
  refine lv_istore_n (lv' := [(3, .int 0), (1, .long x1), (0, .ref jo)]) hx hb dX4_digest_16 rfl hl (by decide) rfl (fun ls hl => ?_)
  exact w_X4_digest_17 X K hA jo js jp ja jk jt jb uq uz up ua uk ut ub un uy 0 us _ 2000 x1 0 hq _ _ hP hD hS ls (lv_sub hl [2, 1, 0] rfl)

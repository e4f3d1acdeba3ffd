def vq4 (a b c d : Nat) : Nat → Option Nat := fun k => if k = 0 then some a else if k = 1 then some b else if k = 2 then some c else if k = 3 then some d else none
theorem in_X1_add_X1 : ∀ w ∈ wsX10, w ∈ wsX1_add := fun _ h => List.mem_cons_of_mem _ (List.mem_append_right _ h)
def F_X1_add (tl : Int32) (tb : Nat → Int32) (p1 : Int32) : Option (Int32 × (Nat → Int32)) := if (150 : Int32) ≤ tl then (some (tl, tb)) else (vgd (ix (tl) 150) <| vlet (upd tb tl.toNatClampNeg (vp_nar .byte (p1.toInt8.toInt32))) fun f3 => vlet (tl + 1) fun x4 => some (x4, f3))
set_option maxHeartbeats 4000000 in
set_option maxRecDepth 100000 in
theorem k_X1_add (l : Launch) (G : va_G) (g : Nat → ClassId) (t1 b1 : Nat) (tl : Int32) (ta : Int32) (tb : Nat → Int32) (p1 : Int32) (res : Int32 × (Nat → Int32)) (hq : F_X1_add tl tb p1 = some res) : rwC l yX1_add wsX1_add (rmF 0 0) G g [.ref t1, .int p1] [(t1, .inr (1, [.ref b1, .int tl, .int ta])), (b1, .inl (g 1, 150, .inl tb))] none [(t1, .inr (1, [.ref b1, .int res.1, .int ta])), (b1, .inl (g 1, 150, .inl res.2))] := by
  refine rwC.of (cc := cX1_add) (maxL := 2) (ret := none) (by decide) rfl (Nat.le_of_ble_eq_true rfl) ?_
  intro p e s m below meth c ls A X K hA hP hD hS hl
  obtain ⟨hx, hb, hml, hr, hown, hts, hk⟩ := id X
  have hl : lv_has ls 2 [(0, .ref t1), (1, .int p1)] := hl
  unfold F_X1_add at hq
  refine lv_aload_n hx hb dX1_add_0 rfl (lv_at hl 0 rfl) ?_
  refine va_get (D := G) (ci := 1) (v := .int tl) (C := RX1) (T := TX1) (N := 3) hx hb hts in_X1_add_X1 hown K.1 hP 0 rfl rfl 1 (by decide) (hts _ (List.mem_of_getElem? (i := 1) rfl)) (fun _ h9 => h9) rfl dX1_add_1 ?_
  refine lv_sipush (v := 150) hx hb dX1_add_4 (by decide) ?_
  refine lv_icmp_ge (tgt := 31) hx hb dX1_add_7 (by decide) (fun c1 => ?_) (fun c1 => ?_)
  · have hq := q_if_t hq c1
    obtain rfl := q_rt hq
    exact rw_vret hx hb hr hk hP hD hS dX1_add_31
  · have hq := q_if_f hq c1
    refine lv_aload_n hx hb dX1_add_10 rfl (lv_at hl 0 rfl) ?_
    refine va_get (D := G) (ci := 1) (v := .ref b1) (C := RX1) (T := TX1) (N := 3) hx hb hts in_X1_add_X1 hown K.1 hP 0 rfl rfl 0 (by decide) (hts _ (List.mem_of_getElem? (i := 2) rfl)) (fun _ h9 => h9) rfl dX1_add_11 ?_
    refine lv_aload_n hx hb dX1_add_14 rfl (lv_at hl 0 rfl) ?_
    refine va_get (D := G) (ci := 1) (v := .int tl) (C := RX1) (T := TX1) (N := 3) hx hb hts in_X1_add_X1 hown K.1 hP 0 rfl rfl 1 (by decide) (hts _ (List.mem_of_getElem? (i := 1) rfl)) (fun _ h9 => h9) rfl dX1_add_15 ?_
    refine lv_iload_n hx hb dX1_add_18 rfl (lv_at hl 1 rfl) ?_
    refine lv_i2b (v := p1.toInt8.toInt32) hx hb dX1_add_19 rfl ?_
    obtain ⟨hh2, hq⟩ := q_gd hq
    refine va_bast hx hb K.1 hP hD hS 1 1 rfl rfl (vp_in_iff.mpr hh2) dX1_add_20 (fun H locs hP hD hS => ?_)
    obtain ⟨f3, ef3⟩ : ∃ y, y = upd tb tl.toNatClampNeg (vp_nar .byte (p1.toInt8.toInt32)) := ⟨_, rfl⟩
    have hq := q_let hq ef3
    have hP : va_P G vwCl [(t1, .inr (1, [.ref b1, .int tl, .int ta])), (b1, .inl (g 1, 150, .inl f3))] H := by rw [ef3]; exact hP
    have hD : va_D A [(t1, .inr (1, [.ref b1, .int tl, .int ta])), (b1, .inl (g 1, 150, .inl f3))] := by rw [ef3]; exact hD
    refine lv_aload_n hx hb dX1_add_21 rfl (lv_at hl 0 rfl) ?_
    refine lv_dup hx hb dX1_add_22 rfl ?_
    refine va_get (D := G) (ci := 1) (v := .int tl) (C := RX1) (T := TX1) (N := 3) hx hb hts in_X1_add_X1 hown K.1 hP 0 rfl rfl 1 (by decide) (hts _ (List.mem_of_getElem? (i := 1) rfl)) (fun _ h9 => h9) rfl dX1_add_23 ?_
    refine lv_iconst (v := 1) hx hb dX1_add_26 (by decide) ?_
    refine lv_iadd hx hb dX1_add_27 ?_
    refine lv_topi (fun x4 ex4 => ?_)
    have hq := q_let hq ex4
    refine va_put (D := G) (ci := 1) (v := .int x4) (ty := .int) (C := RX1) (T := TX1) (N := 3) hx hb hts in_X1_add_X1 tyX1 tyX1_ok nmX1 hown K.1 hP hD hS 0 rfl rfl 1 (by decide) (hts _ (List.mem_of_getElem? (i := 1) rfl)) (fun _ h9 => h9) rfl (by decide +kernel) rfl rfl (Nat.le_of_ble_eq_true rfl) dX1_add_28 (fun H locs hP hD hS => ?_)
    have hP : va_P G vwCl [(t1, .inr (1, [.ref b1, .int x4, .int ta])), (b1, .inl (g 1, 150, .inl f3))] H := hP
    have hD : va_D A [(t1, .inr (1, [.ref b1, .int x4, .int ta])), (b1, .inl (g 1, 150, .inl f3))] := hD
    obtain rfl := q_rt hq
    exact rw_vret hx hb hr hk hP hD hS dX1_add_31
theorem in_X1_isSign_X1 : ∀ w ∈ wsX10, w ∈ wsX1_isSign := fun _ h => List.mem_cons_of_mem _ (List.mem_append_right _ h)
def F_X1_isSign (tl : Int32) (tb : Nat → Int32) (p1 : Int32) (p2 : Int32) (p3 : Int32) : Option (Int32) := if p1 < 0 then (some (0)) else (if tl ≤ p1 then (some (0)) else (vgd (ix (p1) 150) <| if (tb p1.toNatClampNeg) < p2 then (some (0)) else (vgd (ix (p1) 150) <| if p3 < (tb p1.toNatClampNeg) then (some (0)) else (some (1)))))
set_option maxHeartbeats 4000000 in
set_option maxRecDepth 100000 in
theorem k_X1_isSign (l : Launch) (G : va_G) (g : Nat → ClassId) (t1 b1 : Nat) (tl : Int32) (ta : Int32) (tb : Nat → Int32) (p1 : Int32) (p2 : Int32) (p3 : Int32) (res : Int32) (hq : F_X1_isSign tl tb p1 p2 p3 = some res) : roC l yX1_isSign wsX1_isSign (rmF 0 0) G g [.ref t1, .int p1, .int p2, .int p3] [(t1, .inr (1, [.ref b1, .int tl, .int ta])), (b1, .inl (g 1, 150, .inl tb))] (some (.int res)) := by
  refine roC.of (cc := cX1_isSign) (maxL := 4) (ret := (some .boolean)) (by decide) rfl (Nat.le_of_ble_eq_true rfl) ?_
  intro p e s m below meth c ls X K hP hl
  obtain ⟨hx, hb, hml, hr, hown, hts, hk⟩ := id X
  have hl : lv_has ls 4 [(0, .ref t1), (1, .int p1), (2, .int p2), (3, .int p3)] := hl
  unfold F_X1_isSign at hq
  refine lv_iload_n hx hb dX1_isSign_0 rfl (lv_at hl 1 rfl) ?_
  refine lv_if_lt (tgt := 36) hx hb dX1_isSign_1 (by decide) (fun c1 => ?_) (fun c1 => ?_)
  · have hq := q_if_t hq c1
    refine lv_iconst (v := 0) hx hb dX1_isSign_36 (by decide) ?_
    obtain rfl := q_rt hq
    exact ro_zret hx hb hr nz_0 hk dX1_isSign_37
  · have hq := q_if_f hq c1
    refine lv_iload_n hx hb dX1_isSign_4 rfl (lv_at hl 1 rfl) ?_
    refine lv_aload_n hx hb dX1_isSign_5 rfl (lv_at hl 0 rfl) ?_
    refine va_get (D := G) (ci := 1) (v := .int tl) (C := RX1) (T := TX1) (N := 3) hx hb hts in_X1_isSign_X1 hown K.1 hP 0 rfl rfl 1 (by decide) (hts _ (List.mem_of_getElem? (i := 1) rfl)) (fun _ h9 => h9) rfl dX1_isSign_6 ?_
    refine lv_icmp_ge (tgt := 36) hx hb dX1_isSign_9 (by decide) (fun c2 => ?_) (fun c2 => ?_)
    · have hq := q_if_t hq c2
      refine lv_iconst (v := 0) hx hb dX1_isSign_36 (by decide) ?_
      obtain rfl := q_rt hq
      exact ro_zret hx hb hr nz_0 hk dX1_isSign_37
    · have hq := q_if_f hq c2
      refine lv_aload_n hx hb dX1_isSign_12 rfl (lv_at hl 0 rfl) ?_
      refine va_get (D := G) (ci := 1) (v := .ref b1) (C := RX1) (T := TX1) (N := 3) hx hb hts in_X1_isSign_X1 hown K.1 hP 0 rfl rfl 0 (by decide) (hts _ (List.mem_of_getElem? (i := 2) rfl)) (fun _ h9 => h9) rfl dX1_isSign_13 ?_
      refine lv_iload_n hx hb dX1_isSign_16 rfl (lv_at hl 1 rfl) ?_
      obtain ⟨hh3, hq⟩ := q_gd hq
      refine va_bald hx hb K.1 hP 1 1 rfl rfl (vp_in_iff.mpr hh3) dX1_isSign_17 ?_
      refine lv_iload_n hx hb dX1_isSign_18 rfl (lv_at hl 2 rfl) ?_
      refine lv_icmp_lt (tgt := 36) hx hb dX1_isSign_19 (by decide) (fun c4 => ?_) (fun c4 => ?_)
      · have hq := q_if_t hq c4
        refine lv_iconst (v := 0) hx hb dX1_isSign_36 (by decide) ?_
        obtain rfl := q_rt hq
        exact ro_zret hx hb hr nz_0 hk dX1_isSign_37
      · have hq := q_if_f hq c4
        refine lv_aload_n hx hb dX1_isSign_22 rfl (lv_at hl 0 rfl) ?_
        refine va_get (D := G) (ci := 1) (v := .ref b1) (C := RX1) (T := TX1) (N := 3) hx hb hts in_X1_isSign_X1 hown K.1 hP 0 rfl rfl 0 (by decide) (hts _ (List.mem_of_getElem? (i := 2) rfl)) (fun _ h9 => h9) rfl dX1_isSign_23 ?_
        refine lv_iload_n hx hb dX1_isSign_26 rfl (lv_at hl 1 rfl) ?_
        obtain ⟨hh5, hq⟩ := q_gd hq
        refine va_bald hx hb K.1 hP 1 1 rfl rfl (vp_in_iff.mpr hh5) dX1_isSign_27 ?_
        refine lv_iload_n hx hb dX1_isSign_28 rfl (lv_at hl 3 rfl) ?_
        refine lv_icmp_gt (tgt := 36) hx hb dX1_isSign_29 (by decide) (fun c6 => ?_) (fun c6 => ?_)
        · have hq := q_if_t hq c6
          refine lv_iconst (v := 0) hx hb dX1_isSign_36 (by decide) ?_
          obtain rfl := q_rt hq
          exact ro_zret hx hb hr nz_0 hk dX1_isSign_37
        · have hq := q_if_f hq c6
          refine lv_iconst (v := 1) hx hb dX1_isSign_32 (by decide) ?_
          refine lv_goto (tgt := 37) hx hb dX1_isSign_33 (by decide) ?_
          obtain rfl := q_rt hq
          exact ro_zret hx hb hr nz_1 hk dX1_isSign_37
theorem hd_X1_isSign : ynm yX1_isSign 3 := by unfold ynm; decide +kernel
theorem in_X1_skip_X1 : ∀ w ∈ wsX10, w ∈ wsX1_skip := fun _ h => List.mem_cons_of_mem _ (List.mem_append_right _ h)
def F_X1_skip (tl : Int32) (ta : Int32) (tb : Nat → Int32) (p1 : Int32) : Option (Int32 × Int32) := (F_X1_isSign tl tb ta p1 p1).bind fun r1 => if r1 = 0 then (some (0, ta)) else (vlet (ta + 1) fun x4 => some (1, x4))
set_option maxHeartbeats 4000000 in
set_option maxRecDepth 100000 in
theorem k_X1_skip (l : Launch) (G : va_G) (g : Nat → ClassId) (t1 b1 : Nat) (tl : Int32) (ta : Int32) (tb : Nat → Int32) (p1 : Int32) (res : Int32 × Int32) (hq : F_X1_skip tl ta tb p1 = some res) : rwC l yX1_skip wsX1_skip (rmF 1 23) G g [.ref t1, .int p1] [(t1, .inr (1, [.ref b1, .int tl, .int ta])), (b1, .inl (g 1, 150, .inl tb))] (some (.int res.1)) [(t1, .inr (1, [.ref b1, .int tl, .int res.2])), (b1, .inl (g 1, 150, .inl tb))] := by
  refine rwC.of (cc := cX1_skip) (maxL := 2) (ret := (some .boolean)) (by decide) rfl (Nat.le_of_ble_eq_true rfl) ?_
  intro p e s m below meth c ls A X K hA hP hD hS hl
  obtain ⟨hx, hb, hml, hr, hown, hts, hk⟩ := id X
  have hl : lv_has ls 2 [(0, .ref t1), (1, .int p1)] := hl
  unfold F_X1_skip at hq
  refine lv_aload_n hx hb dX1_skip_0 rfl (lv_at hl 0 rfl) ?_
  refine lv_aload_n hx hb dX1_skip_1 rfl (lv_at hl 0 rfl) ?_
  refine va_get (D := G) (ci := 1) (v := .int ta) (C := RX1) (T := TX1) (N := 3) hx hb hts in_X1_skip_X1 hown K.1 hP 0 rfl rfl 2 (by decide) (hts _ (List.mem_of_getElem? (i := 1) rfl)) (fun _ h9 => h9) rfl dX1_skip_2 ?_
  refine lv_iload_n hx hb dX1_skip_5 rfl (lv_at hl 1 rfl) ?_
  refine lv_iload_n hx hb dX1_skip_6 rfl (lv_at hl 1 rfl) ?_
  obtain ⟨r1, hh2, hq⟩ := q_bd hq
  refine roV (ci := 1) (As := [.int ta, .int p1, .int p1]) (rest := []) X K (k_X1_isSign l G g t1 b1 tl ta tb ta p1 p1 _ hh2) hd_X1_isSign gX1_skip_X1_isSign hP hl.1 dX1_skip_7 rfl rfl ⟨Nat.le_of_ble_eq_true rfl, Nat.le_of_ble_eq_true rfl⟩ rfl rfl rfl (Nat.le_of_ble_eq_true rfl) ⟨Nat.zero_le _, Nat.zero_le _⟩ ?_
  refine lv_if_ne (tgt := 15) hx hb dX1_skip_10 (by decide) (fun c3 => ?_) (fun c3 => ?_)
  · have hq := q_if_f hq c3
    refine lv_aload_n hx hb dX1_skip_15 rfl (lv_at hl 0 rfl) ?_
    refine lv_dup hx hb dX1_skip_16 rfl ?_
    refine va_get (D := G) (ci := 1) (v := .int ta) (C := RX1) (T := TX1) (N := 3) hx hb hts in_X1_skip_X1 hown K.1 hP 0 rfl rfl 2 (by decide) (hts _ (List.mem_of_getElem? (i := 1) rfl)) (fun _ h9 => h9) rfl dX1_skip_17 ?_
    refine lv_iconst (v := 1) hx hb dX1_skip_20 (by decide) ?_
    refine lv_iadd hx hb dX1_skip_21 ?_
    refine lv_topi (fun x4 ex4 => ?_)
    have hq := q_let hq ex4
    refine va_put (D := G) (ci := 1) (v := .int x4) (ty := .int) (C := RX1) (T := TX1) (N := 3) hx hb hts in_X1_skip_X1 tyX1 tyX1_ok nmX1 hown K.1 hP hD hS 0 rfl rfl 2 (by decide) (hts _ (List.mem_of_getElem? (i := 1) rfl)) (fun _ h9 => h9) rfl (by decide +kernel) rfl rfl (Nat.le_of_ble_eq_true rfl) dX1_skip_22 (fun H locs hP hD hS => ?_)
    have hP : va_P G vwCl [(t1, .inr (1, [.ref b1, .int tl, .int x4])), (b1, .inl (g 1, 150, .inl tb))] H := hP
    have hD : va_D A [(t1, .inr (1, [.ref b1, .int tl, .int x4])), (b1, .inl (g 1, 150, .inl tb))] := hD
    refine lv_iconst (v := 1) hx hb dX1_skip_25 (by decide) ?_
    obtain rfl := q_rt hq
    exact rw_zret hx hb hr nz_1 hk hP hD hS dX1_skip_26
  · have hq := q_if_t hq c3
    refine lv_iconst (v := 0) hx hb dX1_skip_13 (by decide) ?_
    obtain rfl := q_rt hq
    exact rw_zret hx hb hr nz_0 hk hP hD hS dX1_skip_14
theorem hd_X1_skip : ynm yX1_skip 1 := by unfold ynm; decide +kernel
def F_X1_readMode (tl : Int32) (ta : Int32) (tb : Nat → Int32) : Option (Int32 × Int32) := (F_X1_skip tl ta tb 115).bind fun o4 => if o4.1 = 0 then ((F_X1_skip tl o4.2 tb 118).bind fun o9 => if o9.1 = 0 then (some (0, o9.2)) else (some (2, o9.2))) else (some (1, o4.2))
set_option maxHeartbeats 4000000 in
set_option maxRecDepth 100000 in
theorem k_X1_readMode (l : Launch) (G : va_G) (g : Nat → ClassId) (t1 b1 : Nat) (tl : Int32) (ta : Int32) (tb : Nat → Int32) (res : Int32 × Int32) (hq : F_X1_readMode tl ta tb = some res) : rwC l yX1_readMode wsX1_readMode (rmF 2 44) G g [.ref t1] [(t1, .inr (1, [.ref b1, .int tl, .int ta])), (b1, .inl (g 1, 150, .inl tb))] (some (.int res.1)) [(t1, .inr (1, [.ref b1, .int tl, .int res.2])), (b1, .inl (g 1, 150, .inl tb))] := by
  refine rwC.of (cc := cX1_readMode) (maxL := 1) (ret := (some .int)) (by decide) rfl (Nat.le_of_ble_eq_true rfl) ?_
  intro p e s m below meth c ls A X K hA hP hD hS hl
  obtain ⟨hx, hb, hml, hr, hown, hts, hk⟩ := id X
  have hl : lv_has ls 1 [(0, .ref t1)] := hl
  unfold F_X1_readMode at hq
  refine lv_aload_n hx hb dX1_readMode_0 rfl (lv_at hl 0 rfl) ?_
  refine lv_bipush (v := 115) hx hb dX1_readMode_1 (by decide) ?_
  obtain ⟨⟨r1, y2⟩, hh3, hq⟩ := q_bd hq
  refine rwV (ci := 1) (wr := []) (As := [.int 115]) (rest := []) X K (k_X1_skip l G g t1 b1 tl ta tb 115 _ hh3) hd_X1_skip gX1_readMode_X1_skip hP hD hS hA [0, 1] [] rfl rfl ⟨by decide, by decide, by decide⟩ hl.1 dX1_readMode_3 rfl rfl ⟨Nat.le_of_ble_eq_true rfl, Nat.le_of_ble_eq_true rfl⟩ rfl rfl rfl (Nat.le_of_ble_eq_true rfl) ⟨Nat.zero_le _, Nat.zero_le _⟩ (fun H locs hP hD hS => ?_)
  have hP : va_P G vwCl [(t1, .inr (1, [.ref b1, .int tl, .int y2])), (b1, .inl (g 1, 150, .inl tb))] H := hP
  have hD : va_D A [(t1, .inr (1, [.ref b1, .int tl, .int y2])), (b1, .inl (g 1, 150, .inl tb))] := hD
  refine lv_if_eq (tgt := 11) hx hb dX1_readMode_6 (by decide) (fun c5 => ?_) (fun c5 => ?_)
  · have hq := q_if_t hq c5
    refine lv_aload_n hx hb dX1_readMode_11 rfl (lv_at hl 0 rfl) ?_
    refine lv_bipush (v := 118) hx hb dX1_readMode_12 (by decide) ?_
    obtain ⟨⟨r6, y7⟩, hh8, hq⟩ := q_bd hq
    refine rwV (ci := 1) (wr := []) (As := [.int 118]) (rest := []) X K (k_X1_skip l G g t1 b1 tl y2 tb 118 _ hh8) hd_X1_skip gX1_readMode_X1_skip hP hD hS hA [0, 1] [] rfl rfl ⟨by decide, by decide, by decide⟩ hl.1 dX1_readMode_14 rfl rfl ⟨Nat.le_of_ble_eq_true rfl, Nat.le_of_ble_eq_true rfl⟩ rfl rfl rfl (Nat.le_of_ble_eq_true rfl) ⟨Nat.zero_le _, Nat.zero_le _⟩ (fun H locs hP hD hS => ?_)
    have hP : va_P G vwCl [(t1, .inr (1, [.ref b1, .int tl, .int y7])), (b1, .inl (g 1, 150, .inl tb))] H := hP
    have hD : va_D A [(t1, .inr (1, [.ref b1, .int tl, .int y7])), (b1, .inl (g 1, 150, .inl tb))] := hD
    refine lv_if_eq (tgt := 24) hx hb dX1_readMode_17 (by decide) (fun c10 => ?_) (fun c10 => ?_)
    · have hq := q_if_t hq c10
      refine lv_iconst (v := 0) hx hb dX1_readMode_24 (by decide) ?_
      obtain rfl := q_rt hq
      exact rw_iret hx hb hr hk hP hD hS dX1_readMode_25
    · have hq := q_if_f hq c10
      refine lv_iconst (v := 2) hx hb dX1_readMode_20 (by decide) ?_
      refine lv_goto (tgt := 25) hx hb dX1_readMode_21 (by decide) ?_
      obtain rfl := q_rt hq
      exact rw_iret hx hb hr hk hP hD hS dX1_readMode_25
  · have hq := q_if_f hq c5
    refine lv_iconst (v := 1) hx hb dX1_readMode_9 (by decide) ?_
    obtain rfl := q_rt hq
    exact rw_iret hx hb hr hk hP hD hS dX1_readMode_10
theorem in_X1_readDigits_X1 : ∀ w ∈ wsX10, w ∈ wsX1_readDigits := fun _ h => List.mem_cons_of_mem _ (List.mem_append_right _ h)
def F_X1_readDigits_21 (tl : Int32) (tb : Nat → Int32) (v1 : Int32) : Nat → Int32 → Int32 → Int32 → Option (Int32 × Int32)
  | 0, _, _, _ => none
  | n + 1, ta, v2, v3 => if v1 ≤ v3 then (some (v2, ta)) else ((F_X1_isSign tl tb ta 48 57).bind fun r5 => if r5 = 0 then (some (v2, ta)) else (vgd (ix (ta) 150) <| vlet (((v2 * 10) + (tb ta.toNatClampNeg)) - 48) fun x9 => vlet (ta + 1) fun x10 => vlet ((v3 : Int32) + 1) fun x11 => F_X1_readDigits_21 tl tb v1 n x10 x9 x11))
set_option maxHeartbeats 4000000 in
set_option maxRecDepth 100000 in
theorem w_X1_readDigits_21 {p : Program} {l : Launch} {e : Env} {s : State} {m : MethodId} {args : Array Value} {below : List Frame} {meth : Method} {c : Code} {G : va_G} {g : Nat → ClassId} (X : cx p s m args meth c cX1_readDigits 4 (some .int) RX1 wsX1_readDigits) (K : amb G g s) {A : Nat → Prop} (hA : ∀ q : Nat, s.heap.size ≤ q → A q) (t1 b1 : Nat) (tl : Int32) (tb : Nat → Int32) (v1 : Int32) (res : Int32 × Int32) : ∀ (n : Nat) (ta : Int32) (v2 : Int32) (v3 : Int32), F_X1_readDigits_21 tl tb v1 n ta v2 v3 = some res → ∀ (H : Heap) (locs : List Loc), va_P G vwCl [(t1, .inr (1, [.ref b1, .int tl, .int ta])), (b1, .inl (g 1, 150, .inl tb))] H → va_D A [(t1, .inr (1, [.ref b1, .int tl, .int ta])), (b1, .inl (g 1, 150, .inl tb))] → va_S A s.heap H locs → ∀ (ls : Array Slot), lv_has ls 4 [(0, .ref t1), (1, .int v1), (2, .int v2), (3, .int v3)] → W p l e (rmF 1 23) s m args below meth c H locs 0 0 (rwM G A below (some (.int res.1)) [(t1, .inr (1, [.ref b1, .int tl, .int res.2])), (b1, .inl (g 1, 150, .inl tb))] args s) (F0 m 21 ls []) := by
  obtain ⟨hx, hb, hml, hr, hown, hts, hk⟩ := id X
  intro n
  induction n with
  | zero => intro ta v2 v3 hq; exact q_no hq
  | succ n ih =>
    intro ta v2 v3 hq H locs hP hD hS ls hl
    rw [F_X1_readDigits_21] at hq
    refine lv_iload_n hx hb dX1_readDigits_21 rfl (lv_at hl 3 rfl) ?_
    refine lv_iload_n hx hb dX1_readDigits_22 rfl (lv_at hl 1 rfl) ?_
    refine lv_icmp_ge (tgt := 75) hx hb dX1_readDigits_23 (by decide) (fun c4 => ?_) (fun c4 => ?_)
    · have hq := q_if_t hq c4
      refine lv_iload_n hx hb dX1_readDigits_75 rfl (lv_at hl 2 rfl) ?_
      obtain rfl := q_rt hq
      exact rw_iret hx hb hr hk hP hD hS dX1_readDigits_76
    · have hq := q_if_f hq c4
      refine lv_aload_n hx hb dX1_readDigits_26 rfl (lv_at hl 0 rfl) ?_
      refine lv_aload_n hx hb dX1_readDigits_27 rfl (lv_at hl 0 rfl) ?_
      refine va_get (D := G) (ci := 1) (v := .int ta) (C := RX1) (T := TX1) (N := 3) hx hb hts in_X1_readDigits_X1 hown K.1 hP 0 rfl rfl 2 (by decide) (hts _ (List.mem_of_getElem? (i := 1) rfl)) (fun _ h9 => h9) rfl dX1_readDigits_28 ?_
      refine lv_bipush (v := 48) hx hb dX1_readDigits_31 (by decide) ?_
      refine lv_bipush (v := 57) hx hb dX1_readDigits_33 (by decide) ?_
      obtain ⟨r5, hh6, hq⟩ := q_bd hq
      refine roV (ci := 1) (As := [.int ta, .int 48, .int 57]) (rest := []) X K (k_X1_isSign l G g t1 b1 tl ta tb ta 48 57 _ hh6) hd_X1_isSign gX1_readDigits_X1_isSign hP hl.1 dX1_readDigits_35 rfl rfl ⟨Nat.le_of_ble_eq_true rfl, Nat.le_of_ble_eq_true rfl⟩ rfl rfl rfl (Nat.le_of_ble_eq_true rfl) ⟨Nat.zero_le _, Nat.zero_le _⟩ ?_
      refine lv_if_eq (tgt := 75) hx hb dX1_readDigits_38 (by decide) (fun c7 => ?_) (fun c7 => ?_)
      · have hq := q_if_t hq c7
        refine lv_iload_n hx hb dX1_readDigits_75 rfl (lv_at hl 2 rfl) ?_
        obtain rfl := q_rt hq
        exact rw_iret hx hb hr hk hP hD hS dX1_readDigits_76
      · have hq := q_if_f hq c7
        refine lv_iload_n hx hb dX1_readDigits_41 rfl (lv_at hl 2 rfl) ?_
        refine lv_bipush (v := 10) hx hb dX1_readDigits_42 (by decide) ?_
        refine lv_imul hx hb dX1_readDigits_44 ?_
        refine lv_aload_n hx hb dX1_readDigits_45 rfl (lv_at hl 0 rfl) ?_
        refine va_get (D := G) (ci := 1) (v := .ref b1) (C := RX1) (T := TX1) (N := 3) hx hb hts in_X1_readDigits_X1 hown K.1 hP 0 rfl rfl 0 (by decide) (hts _ (List.mem_of_getElem? (i := 2) rfl)) (fun _ h9 => h9) rfl dX1_readDigits_46 ?_
        refine lv_aload_n hx hb dX1_readDigits_49 rfl (lv_at hl 0 rfl) ?_
        refine va_get (D := G) (ci := 1) (v := .int ta) (C := RX1) (T := TX1) (N := 3) hx hb hts in_X1_readDigits_X1 hown K.1 hP 0 rfl rfl 2 (by decide) (hts _ (List.mem_of_getElem? (i := 1) rfl)) (fun _ h9 => h9) rfl dX1_readDigits_50 ?_
        obtain ⟨hh8, hq⟩ := q_gd hq
        refine va_bald hx hb K.1 hP 1 1 rfl rfl (vp_in_iff.mpr hh8) dX1_readDigits_53 ?_
        refine lv_iadd hx hb dX1_readDigits_54 ?_
        refine lv_bipush (v := 48) hx hb dX1_readDigits_55 (by decide) ?_
        refine lv_isub hx hb dX1_readDigits_57 ?_
        refine lv_topi (fun x9 ex9 => ?_)
        have hq := q_let hq ex9
        refine lv_istore_n (lv' := [(2, .int x9), (0, .ref t1), (1, .int v1), (3, .int v3)]) hx hb dX1_readDigits_58 rfl hl (by decide) rfl (fun ls hl => ?_)
        refine lv_aload_n hx hb dX1_readDigits_59 rfl (lv_at hl 1 rfl) ?_
        refine lv_dup hx hb dX1_readDigits_60 rfl ?_
        refine va_get (D := G) (ci := 1) (v := .int ta) (C := RX1) (T := TX1) (N := 3) hx hb hts in_X1_readDigits_X1 hown K.1 hP 0 rfl rfl 2 (by decide) (hts _ (List.mem_of_getElem? (i := 1) rfl)) (fun _ h9 => h9) rfl dX1_readDigits_61 ?_
        refine lv_iconst (v := 1) hx hb dX1_readDigits_64 (by decide) ?_
        refine lv_iadd hx hb dX1_readDigits_65 ?_
        refine lv_topi (fun x10 ex10 => ?_)
        have hq := q_let hq ex10
        refine va_put (D := G) (ci := 1) (v := .int x10) (ty := .int) (C := RX1) (T := TX1) (N := 3) hx hb hts in_X1_readDigits_X1 tyX1 tyX1_ok nmX1 hown K.1 hP hD hS 0 rfl rfl 2 (by decide) (hts _ (List.mem_of_getElem? (i := 1) rfl)) (fun _ h9 => h9) rfl (by decide +kernel) rfl rfl (Nat.le_of_ble_eq_true rfl) dX1_readDigits_66 (fun H locs hP hD hS => ?_)
        have hP : va_P G vwCl [(t1, .inr (1, [.ref b1, .int tl, .int x10])), (b1, .inl (g 1, 150, .inl tb))] H := hP
        have hD : va_D A [(t1, .inr (1, [.ref b1, .int tl, .int x10])), (b1, .inl (g 1, 150, .inl tb))] := hD
        obtain ⟨x11, ex11⟩ : ∃ y : Int32, y = (v3 : Int32) + 1 := ⟨_, rfl⟩
        have hq := q_let hq ex11
        refine lv_iinc (v := x11) (lv' := [(3, .int x11), (2, .int x9), (0, .ref t1), (1, .int v1)]) hx hb dX1_readDigits_69 hl (k := 3) rfl (by rw [ex11]; rfl) (by decide) rfl (fun ls hl => ?_)
        refine lv_goto (tgt := 21) hx hb dX1_readDigits_72 (by decide) ?_
        exact ih x10 x9 x11 hq _ _ hP hD hS ls (lv_sub hl [2, 3, 1, 0] rfl)
def F_X1_readDigits (tl : Int32) (ta : Int32) (tb : Nat → Int32) (p1 : Int32) : Option (Int32 × Int32) := (F_X1_isSign tl tb ta 48 57).bind fun r1 => if r1 = 0 then (some ((-1), ta)) else (F_X1_readDigits_21 tl tb p1 2000 ta 0 0)
set_option maxHeartbeats 4000000 in
set_option maxRecDepth 100000 in
theorem k_X1_readDigits (l : Launch) (G : va_G) (g : Nat → ClassId) (t1 b1 : Nat) (tl : Int32) (ta : Int32) (tb : Nat → Int32) (p1 : Int32) (res : Int32 × Int32) (hq : F_X1_readDigits tl ta tb p1 = some res) : rwC l yX1_readDigits wsX1_readDigits (rmF 1 23) G g [.ref t1, .int p1] [(t1, .inr (1, [.ref b1, .int tl, .int ta])), (b1, .inl (g 1, 150, .inl tb))] (some (.int res.1)) [(t1, .inr (1, [.ref b1, .int tl, .int res.2])), (b1, .inl (g 1, 150, .inl tb))] := by
  refine rwC.of (cc := cX1_readDigits) (maxL := 4) (ret := (some .int)) (by decide) rfl (Nat.le_of_ble_eq_true rfl) ?_
  intro p e s m below meth c ls A X K hA hP hD hS hl
  obtain ⟨hx, hb, hml, hr, hown, hts, hk⟩ := id X
  have hl : lv_has ls 4 [(0, .ref t1), (1, .int p1)] := hl
  unfold F_X1_readDigits at hq
  refine lv_aload_n hx hb dX1_readDigits_0 rfl (lv_at hl 0 rfl) ?_
  refine lv_aload_n hx hb dX1_readDigits_1 rfl (lv_at hl 0 rfl) ?_
  refine va_get (D := G) (ci := 1) (v := .int ta) (C := RX1) (T := TX1) (N := 3) hx hb hts in_X1_readDigits_X1 hown K.1 hP 0 rfl rfl 2 (by decide) (hts _ (List.mem_of_getElem? (i := 1) rfl)) (fun _ h9 => h9) rfl dX1_readDigits_2 ?_
  refine lv_bipush (v := 48) hx hb dX1_readDigits_5 (by decide) ?_
  refine lv_bipush (v := 57) hx hb dX1_readDigits_7 (by decide) ?_
  obtain ⟨r1, hh2, hq⟩ := q_bd hq
  refine roV (ci := 1) (As := [.int ta, .int 48, .int 57]) (rest := []) X K (k_X1_isSign l G g t1 b1 tl ta tb ta 48 57 _ hh2) hd_X1_isSign gX1_readDigits_X1_isSign hP hl.1 dX1_readDigits_9 rfl rfl ⟨Nat.le_of_ble_eq_true rfl, Nat.le_of_ble_eq_true rfl⟩ rfl rfl rfl (Nat.le_of_ble_eq_true rfl) ⟨Nat.zero_le _, Nat.zero_le _⟩ ?_
  refine lv_if_ne (tgt := 17) hx hb dX1_readDigits_12 (by decide) (fun c3 => ?_) (fun c3 => ?_)
  · have hq := q_if_f hq c3
    refine lv_iconst (v := 0) hx hb dX1_readDigits_17 (by decide) ?_
    refine lv_istore_n (lv' := [(2, .int 0), (0, .ref t1), (1, .int p1)]) hx hb dX1_readDigits_18 rfl hl (by decide) rfl (fun ls hl => ?_)
    refine lv_iconst (v := 0) hx hb dX1_readDigits_19 (by decide) ?_
    refine lv_istore_n (lv' := [(3, .int 0), (2, .int 0), (0, .ref t1), (1, .int p1)]) hx hb dX1_readDigits_20 rfl hl (by decide) rfl (fun ls hl => ?_)
    exact w_X1_readDigits_21 X K hA t1 b1 tl tb p1 _ 2000 ta 0 0 hq _ _ hP hD hS ls (lv_sub hl [2, 3, 1, 0] rfl)
  · have hq := q_if_t hq c3
    refine lv_iconst (v := (-1)) hx hb dX1_readDigits_15 (by decide) ?_
    obtain rfl := q_rt hq
    exact rw_iret hx hb hr hk hP hD hS dX1_readDigits_16
theorem hd_X0_lastFrame : ynm yX0_lastFrame 0 := by unfold ynm; decide +kernel
theorem hd_X1_readDigits : ynm yX1_readDigits 1 := by unfold ynm; decide +kernel
theorem hd_X1_readMode : ynm yX1_readMode 0 := by unfold ynm; decide +kernel
theorem in_X1_readKey_X1 : ∀ w ∈ wsX10, w ∈ wsX1_readKey := fun _ h => List.mem_cons_of_mem _ (List.mem_append_left _ (List.mem_append_right _ h))
def F_X1_readKey_127 (tl : Int32) (ta : Int32) (tb : Nat → Int32) (cn : Int32) (cf : Nat → Int32) (v1 : Int32) (v2 : Int32) (v3 : Int32) (v4 : Int32) (v5 : Int32) : Option (Int32 × Int32 × Int32 × (Nat → Int32)) := (F_X1_readMode tl ta tb).bind fun o9 => (F_X1_skip tl o9.2 tb 59).bind fun o13 => if o13.1 = 0 then (some (0, o13.2, cn, cf)) else (if v2 = 0 then ((F_X0_insert cn cf v1 v3 v4 o9.1 0 v5).bind fun o20 => some (1, o13.2, o20.2.1, o20.2.2)) else ((F_X0_insert cn cf v1 (-v3) v4 o9.1 0 v5).bind fun o25 => some (1, o13.2, o25.2.1, o25.2.2)))
set_option maxHeartbeats 4000000 in
set_option maxRecDepth 100000 in
theorem w_X1_readKey_127 {p : Program} {l : Launch} {e : Env} {s : State} {m : MethodId} {args : Array Value} {below : List Frame} {meth : Method} {c : Code} {G : va_G} {g : Nat → ClassId} (X : cx p s m args meth c cX1_readKey 9 (some .boolean) RX1 wsX1_readKey) (K : amb G g s) {A : Nat → Prop} (hA : ∀ q : Nat, s.heap.size ≤ q → A q) (t1 b1 h1 a1 : Nat) (tl : Int32) (ta : Int32) (tb : Nat → Int32) (cn : Int32) (cf : Nat → Int32) (v1 : Int32) (v2 : Int32) (v3 : Int32) (v4 : Int32) (v5 : Int32) (res : Int32 × Int32 × Int32 × (Nat → Int32)) (hq : F_X1_readKey_127 tl ta tb cn cf v1 v2 v3 v4 v5 = some res) : ∀ (H : Heap) (locs : List Loc), va_P G vwCl [(t1, .inr (1, [.ref b1, .int tl, .int ta])), (b1, .inl (g 1, 150, .inl tb)), (h1, .inr (0, [.int cn, .ref a1])), (a1, .inl (g 0, 96, .inl cf))] H → va_D A [(t1, .inr (1, [.ref b1, .int tl, .int ta])), (b1, .inl (g 1, 150, .inl tb)), (h1, .inr (0, [.int cn, .ref a1])), (a1, .inl (g 0, 96, .inl cf))] → va_S A s.heap H locs → ∀ (ls : Array Slot), lv_has ls 9 [(0, .ref t1), (1, .ref h1), (3, .int v1), (4, .int v2), (5, .int v3), (6, .int v4)] → W p l e (rmF 3 72) s m args below meth c H locs 0 0 (rwM G A below (some (.int res.1)) [(t1, .inr (1, [.ref b1, .int tl, .int res.2.1])), (b1, .inl (g 1, 150, .inl tb)), (h1, .inr (0, [.int res.2.2.1, .ref a1])), (a1, .inl (g 0, 96, .inl res.2.2.2))] args s) (F0 m 127 ls [.int v5]) := by
  obtain ⟨hx, hb, hml, hr, hown, hts, hk⟩ := id X
  intro H locs hP hD hS ls hl
  unfold F_X1_readKey_127 at hq
  refine lv_istore (lv' := [(7, .int v5), (0, .ref t1), (1, .ref h1), (3, .int v1), (4, .int v2), (5, .int v3), (6, .int v4)]) hx hb dX1_readKey_127 hl (by decide) rfl (fun ls hl => ?_)
  refine lv_aload_n hx hb dX1_readKey_129 rfl (lv_at hl 1 rfl) ?_
  obtain ⟨⟨r6, y7⟩, hh8, hq⟩ := q_bd hq
  refine rwV (ci := 1) (wr := [(h1, .inr (0, [.int cn, .ref a1])), (a1, .inl (g 0, 96, .inl cf))]) (As := []) (rest := []) X K (k_X1_readMode l G g t1 b1 tl ta tb _ hh8) hd_X1_readMode gX1_readKey_X1_readMode hP hD hS hA [0, 1] [2, 3] rfl rfl ⟨by decide, by decide, by decide⟩ hl.1 dX1_readKey_130 rfl rfl ⟨Nat.le_of_ble_eq_true rfl, Nat.le_of_ble_eq_true rfl⟩ rfl rfl rfl (Nat.le_of_ble_eq_true rfl) ⟨Nat.zero_le _, Nat.zero_le _⟩ (fun H locs hP hD hS => ?_)
  have hP : va_P G vwCl [(t1, .inr (1, [.ref b1, .int tl, .int y7])), (b1, .inl (g 1, 150, .inl tb)), (h1, .inr (0, [.int cn, .ref a1])), (a1, .inl (g 0, 96, .inl cf))] H := hP.sub [2, 3, 0, 1] rfl
  have hD : va_D A [(t1, .inr (1, [.ref b1, .int tl, .int y7])), (b1, .inl (g 1, 150, .inl tb)), (h1, .inr (0, [.int cn, .ref a1])), (a1, .inl (g 0, 96, .inl cf))] := hD.sub [2, 3, 0, 1] (by decide) rfl
  refine lv_istore (lv' := [(8, .int r6), (7, .int v5), (0, .ref t1), (1, .ref h1), (3, .int v1), (4, .int v2), (5, .int v3), (6, .int v4)]) hx hb dX1_readKey_133 hl (by decide) rfl (fun ls hl => ?_)
  refine lv_aload_n hx hb dX1_readKey_135 rfl (lv_at hl 2 rfl) ?_
  refine lv_bipush (v := 59) hx hb dX1_readKey_136 (by decide) ?_
  obtain ⟨⟨r10, y11⟩, hh12, hq⟩ := q_bd hq
  refine rwV (ci := 1) (wr := [(h1, .inr (0, [.int cn, .ref a1])), (a1, .inl (g 0, 96, .inl cf))]) (As := [.int 59]) (rest := []) X K (k_X1_skip l G g t1 b1 tl y7 tb 59 _ hh12) hd_X1_skip gX1_readKey_X1_skip hP hD hS hA [0, 1] [2, 3] rfl rfl ⟨by decide, by decide, by decide⟩ hl.1 dX1_readKey_138 rfl rfl ⟨Nat.le_of_ble_eq_true rfl, Nat.le_of_ble_eq_true rfl⟩ rfl rfl rfl (Nat.le_of_ble_eq_true rfl) ⟨Nat.zero_le _, Nat.zero_le _⟩ (fun H locs hP hD hS => ?_)
  have hP : va_P G vwCl [(t1, .inr (1, [.ref b1, .int tl, .int y11])), (b1, .inl (g 1, 150, .inl tb)), (h1, .inr (0, [.int cn, .ref a1])), (a1, .inl (g 0, 96, .inl cf))] H := hP.sub [2, 3, 0, 1] rfl
  have hD : va_D A [(t1, .inr (1, [.ref b1, .int tl, .int y11])), (b1, .inl (g 1, 150, .inl tb)), (h1, .inr (0, [.int cn, .ref a1])), (a1, .inl (g 0, 96, .inl cf))] := hD.sub [2, 3, 0, 1] (by decide) rfl
  refine lv_if_ne (tgt := 146) hx hb dX1_readKey_141 (by decide) (fun c14 => ?_) (fun c14 => ?_)
  · have hq := q_if_f hq c14
    refine lv_aload_n hx hb dX1_readKey_146 rfl (lv_at hl 3 rfl) ?_
    refine lv_iload_n hx hb dX1_readKey_147 rfl (lv_at hl 4 rfl) ?_
    refine lv_iload hx hb dX1_readKey_148 (lv_at hl 5 rfl) ?_
    refine lv_if_eq (tgt := 159) hx hb dX1_readKey_150 (by decide) (fun c15 => ?_) (fun c15 => ?_)
    · have hq := q_if_t hq c15
      refine lv_iload hx hb dX1_readKey_159 (lv_at hl 6 rfl) ?_
      refine lv_iload hx hb dX1_readKey_161 (lv_at hl 7 rfl) ?_
      refine lv_iload hx hb dX1_readKey_163 (lv_at hl 0 rfl) ?_
      refine lv_iconst (v := 0) hx hb dX1_readKey_165 (by decide) ?_
      refine lv_iload hx hb dX1_readKey_166 (lv_at hl 1 rfl) ?_
      obtain ⟨⟨r16, y17, y18⟩, hh19, hq⟩ := q_bd hq
      refine rwN (ci := 0) (host := RX3) (wr := [(t1, .inr (1, [.ref b1, .int tl, .int y11])), (b1, .inl (g 1, 150, .inl tb))]) (As := [.int v1, .int v3, .int v4, .int r6, .int 0, .int v5]) (rest := []) X K (k_X0_insert l G g h1 a1 cn cf v1 v3 v4 r6 0 v5 _ hh19) hd_X0_insert ggX1_readKey_X0_insert (by decide +kernel) (List.mem_of_getElem? (i := 14) rfl) (List.mem_of_getElem? (i := 31) rfl) (List.mem_of_getElem? (i := 32) rfl) hP hD hS hA [2, 3] [0, 1] rfl rfl ⟨by decide, by decide, by decide⟩ hl.1 dX1_readKey_168 rfl rfl ⟨Nat.le_of_ble_eq_true rfl, Nat.le_of_ble_eq_true rfl⟩ rfl rfl rfl (Nat.le_of_ble_eq_true rfl) ⟨Nat.zero_le _, Nat.zero_le _⟩ (fun H locs hP hD hS => ?_)
      have hP : va_P G vwCl [(t1, .inr (1, [.ref b1, .int tl, .int y11])), (b1, .inl (g 1, 150, .inl tb)), (h1, .inr (0, [.int y17, .ref a1])), (a1, .inl (g 0, 96, .inl y18))] H := hP
      have hD : va_D A [(t1, .inr (1, [.ref b1, .int tl, .int y11])), (b1, .inl (g 1, 150, .inl tb)), (h1, .inr (0, [.int y17, .ref a1])), (a1, .inl (g 0, 96, .inl y18))] := hD
      refine lv_pop hx hb dX1_readKey_171 rfl ?_
      refine lv_iconst (v := 1) hx hb dX1_readKey_172 (by decide) ?_
      obtain rfl := q_rt hq
      exact rw_zret hx hb hr nz_1 hk hP hD hS dX1_readKey_173
    · have hq := q_if_f hq c15
      refine lv_iload hx hb dX1_readKey_153 (lv_at hl 6 rfl) ?_
      refine lv_ineg hx hb dX1_readKey_155 ?_
      refine lv_goto (tgt := 161) hx hb dX1_readKey_156 (by decide) ?_
      refine lv_iload hx hb dX1_readKey_161 (lv_at hl 7 rfl) ?_
      refine lv_iload hx hb dX1_readKey_163 (lv_at hl 0 rfl) ?_
      refine lv_iconst (v := 0) hx hb dX1_readKey_165 (by decide) ?_
      refine lv_iload hx hb dX1_readKey_166 (lv_at hl 1 rfl) ?_
      obtain ⟨⟨r21, y22, y23⟩, hh24, hq⟩ := q_bd hq
      refine rwN (ci := 0) (host := RX3) (wr := [(t1, .inr (1, [.ref b1, .int tl, .int y11])), (b1, .inl (g 1, 150, .inl tb))]) (As := [.int v1, .int (-v3), .int v4, .int r6, .int 0, .int v5]) (rest := []) X K (k_X0_insert l G g h1 a1 cn cf v1 (-v3) v4 r6 0 v5 _ hh24) hd_X0_insert ggX1_readKey_X0_insert (by decide +kernel) (List.mem_of_getElem? (i := 14) rfl) (List.mem_of_getElem? (i := 31) rfl) (List.mem_of_getElem? (i := 32) rfl) hP hD hS hA [2, 3] [0, 1] rfl rfl ⟨by decide, by decide, by decide⟩ hl.1 dX1_readKey_168 rfl rfl ⟨Nat.le_of_ble_eq_true rfl, Nat.le_of_ble_eq_true rfl⟩ rfl rfl rfl (Nat.le_of_ble_eq_true rfl) ⟨Nat.zero_le _, Nat.zero_le _⟩ (fun H locs hP hD hS => ?_)
      have hP : va_P G vwCl [(t1, .inr (1, [.ref b1, .int tl, .int y11])), (b1, .inl (g 1, 150, .inl tb)), (h1, .inr (0, [.int y22, .ref a1])), (a1, .inl (g 0, 96, .inl y23))] H := hP
      have hD : va_D A [(t1, .inr (1, [.ref b1, .int tl, .int y11])), (b1, .inl (g 1, 150, .inl tb)), (h1, .inr (0, [.int y22, .ref a1])), (a1, .inl (g 0, 96, .inl y23))] := hD
      refine lv_pop hx hb dX1_readKey_171 rfl ?_
      refine lv_iconst (v := 1) hx hb dX1_readKey_172 (by decide) ?_
      obtain rfl := q_rt hq
      exact rw_zret hx hb hr nz_1 hk hP hD hS dX1_readKey_173
  · have hq := q_if_t hq c14
    refine lv_iconst (v := 0) hx hb dX1_readKey_144 (by decide) ?_
    obtain rfl := q_rt hq
    exact rw_zret hx hb hr nz_0 hk hP hD hS dX1_readKey_145
def F_X1_readKey (tl : Int32) (ta : Int32) (tb : Nat → Int32) (cn : Int32) (cf : Nat → Int32) : Option (Int32 × Int32 × Int32 × (Nat → Int32)) := (F_X1_readDigits tl ta tb 3).bind fun o4 => if o4.1 = (-1) then (some (0, o4.2, cn, cf)) else ((F_X1_isSign tl tb o4.2 48 57).bind fun r6 => if r6 = 0 then ((F_X0_lastFrame cn cf).bind fun r9 => if r9 < o4.1 then ((F_X1_skip tl o4.2 tb 44).bind fun o15 => if o15.1 = 0 then (some (0, o15.2, cn, cf)) else ((F_X1_skip tl o15.2 tb 45).bind fun o20 => (F_X1_readDigits tl o20.2 tb 4).bind fun o24 => if o24.1 = (-1) then (some (0, o24.2, cn, cf)) else ((F_X1_skip tl o24.2 tb 44).bind fun o29 => if o29.1 = 0 then (some (0, o29.2, cn, cf)) else ((F_X1_isSign tl tb o29.2 48 53).bind fun r31 => if r31 = 0 then (some (0, o29.2, cn, cf)) else ((F_X1_readDigits tl o29.2 tb 1).bind fun o37 => (F_X1_skip tl o37.2 tb 108).bind fun o41 => if o41.1 = 0 then (F_X1_readKey_127 tl o41.2 tb cn cf o4.1 o20.1 o24.1 o37.1 0) else (F_X1_readKey_127 tl o41.2 tb cn cf o4.1 o20.1 o24.1 o37.1 1)))))) else (some (0, ta, cn, cf))) else (some (0, o4.2, cn, cf)))
set_option maxHeartbeats 4000000 in
set_option maxRecDepth 100000 in
theorem k_X1_readKey (l : Launch) (G : va_G) (g : Nat → ClassId) (t1 b1 h1 a1 : Nat) (tl : Int32) (ta : Int32) (tb : Nat → Int32) (cn : Int32) (cf : Nat → Int32) (res : Int32 × Int32 × Int32 × (Nat → Int32)) (hq : F_X1_readKey tl ta tb cn cf = some res) : rwC l yX1_readKey wsX1_readKey (rmF 3 72) G g [.ref t1, .ref h1] [(t1, .inr (1, [.ref b1, .int tl, .int ta])), (b1, .inl (g 1, 150, .inl tb)), (h1, .inr (0, [.int cn, .ref a1])), (a1, .inl (g 0, 96, .inl cf))] (some (.int res.1)) [(t1, .inr (1, [.ref b1, .int tl, .int res.2.1])), (b1, .inl (g 1, 150, .inl tb)), (h1, .inr (0, [.int res.2.2.1, .ref a1])), (a1, .inl (g 0, 96, .inl res.2.2.2))] := by
  refine rwC.of (cc := cX1_readKey) (maxL := 9) (ret := (some .boolean)) (by decide) rfl (Nat.le_of_ble_eq_true rfl) ?_
  intro p e s m below meth c ls A X K hA hP hD hS hl
  obtain ⟨hx, hb, hml, hr, hown, hts, hk⟩ := id X
  have hl : lv_has ls 9 [(0, .ref t1), (1, .ref h1)] := hl
  unfold F_X1_readKey at hq
  refine lv_aload_n hx hb dX1_readKey_0 rfl (lv_at hl 0 rfl) ?_
  refine va_get (D := G) (ci := 1) (v := .int ta) (C := RX1) (T := TX1) (N := 3) hx hb hts in_X1_readKey_X1 hown K.1 hP 0 rfl rfl 2 (by decide) (hts _ (List.mem_of_getElem? (i := 1) rfl)) (fun _ h9 => h9) rfl dX1_readKey_1 ?_
  refine lv_istore_n (lv' := [(2, .int ta), (0, .ref t1), (1, .ref h1)]) hx hb dX1_readKey_4 rfl hl (by decide) rfl (fun ls hl => ?_)
  refine lv_aload_n hx hb dX1_readKey_5 rfl (lv_at hl 1 rfl) ?_
  refine lv_iconst (v := 3) hx hb dX1_readKey_6 (by decide) ?_
  obtain ⟨⟨r1, y2⟩, hh3, hq⟩ := q_bd hq
  refine rwV (ci := 1) (wr := [(h1, .inr (0, [.int cn, .ref a1])), (a1, .inl (g 0, 96, .inl cf))]) (As := [.int 3]) (rest := []) X K (k_X1_readDigits l G g t1 b1 tl ta tb 3 _ hh3) hd_X1_readDigits gX1_readKey_X1_readDigits hP hD hS hA [0, 1] [2, 3] rfl rfl ⟨by decide, by decide, by decide⟩ hl.1 dX1_readKey_7 rfl rfl ⟨Nat.le_of_ble_eq_true rfl, Nat.le_of_ble_eq_true rfl⟩ rfl rfl rfl (Nat.le_of_ble_eq_true rfl) ⟨Nat.zero_le _, Nat.zero_le _⟩ (fun H locs hP hD hS => ?_)
  have hP : va_P G vwCl [(t1, .inr (1, [.ref b1, .int tl, .int y2])), (b1, .inl (g 1, 150, .inl tb)), (h1, .inr (0, [.int cn, .ref a1])), (a1, .inl (g 0, 96, .inl cf))] H := hP.sub [2, 3, 0, 1] rfl
  have hD : va_D A [(t1, .inr (1, [.ref b1, .int tl, .int y2])), (b1, .inl (g 1, 150, .inl tb)), (h1, .inr (0, [.int cn, .ref a1])), (a1, .inl (g 0, 96, .inl cf))] := hD.sub [2, 3, 0, 1] (by decide) rfl
  refine lv_istore_n (lv' := [(3, .int r1), (2, .int ta), (0, .ref t1), (1, .ref h1)]) hx hb dX1_readKey_10 rfl hl (by decide) rfl (fun ls hl => ?_)
  refine lv_iload_n hx hb dX1_readKey_11 rfl (lv_at hl 0 rfl) ?_
  refine lv_iconst (v := (-1)) hx hb dX1_readKey_12 (by decide) ?_
  refine lv_icmp_eq (tgt := 31) hx hb dX1_readKey_13 (by decide) (fun c5 => ?_) (fun c5 => ?_)
  · have hq := q_if_t hq c5
    refine lv_iconst (v := 0) hx hb dX1_readKey_31 (by decide) ?_
    obtain rfl := q_rt hq
    exact rw_zret hx hb hr nz_0 hk hP hD hS dX1_readKey_32
  · have hq := q_if_f hq c5
    refine lv_aload_n hx hb dX1_readKey_16 rfl (lv_at hl 2 rfl) ?_
    refine lv_aload_n hx hb dX1_readKey_17 rfl (lv_at hl 2 rfl) ?_
    refine va_get (D := G) (ci := 1) (v := .int y2) (C := RX1) (T := TX1) (N := 3) hx hb hts in_X1_readKey_X1 hown K.1 hP 0 rfl rfl 2 (by decide) (hts _ (List.mem_of_getElem? (i := 1) rfl)) (fun _ h9 => h9) rfl dX1_readKey_18 ?_
    refine lv_bipush (v := 48) hx hb dX1_readKey_21 (by decide) ?_
    refine lv_bipush (v := 57) hx hb dX1_readKey_23 (by decide) ?_
    obtain ⟨r6, hh7, hq⟩ := q_bd hq
    refine roV (ci := 1) (As := [.int y2, .int 48, .int 57]) (rest := []) X K (k_X1_isSign l G g t1 b1 tl y2 tb y2 48 57 _ hh7) hd_X1_isSign gX1_readKey_X1_isSign (hP.sub [0, 1] rfl) hl.1 dX1_readKey_25 rfl rfl ⟨Nat.le_of_ble_eq_true rfl, Nat.le_of_ble_eq_true rfl⟩ rfl rfl rfl (Nat.le_of_ble_eq_true rfl) ⟨Nat.zero_le _, Nat.zero_le _⟩ ?_
    refine lv_if_eq (tgt := 33) hx hb dX1_readKey_28 (by decide) (fun c8 => ?_) (fun c8 => ?_)
    · have hq := q_if_t hq c8
      refine lv_iload_n hx hb dX1_readKey_33 rfl (lv_at hl 0 rfl) ?_
      refine lv_aload_n hx hb dX1_readKey_34 rfl (lv_at hl 3 rfl) ?_
      obtain ⟨r9, hh10, hq⟩ := q_bd hq
      refine roN (ci := 0) (host := RX3) (As := []) (rest := [.int r1]) X K (k_X0_lastFrame l G g h1 a1 cn cf _ hh10) hd_X0_lastFrame ggX1_readKey_X0_lastFrame (by decide +kernel) (List.mem_of_getElem? (i := 14) rfl) (List.mem_of_getElem? (i := 13) rfl) (List.mem_of_getElem? (i := 15) rfl) (hP.sub [2, 3] rfl) hl.1 dX1_readKey_35 rfl rfl ⟨Nat.le_of_ble_eq_true rfl, Nat.le_of_ble_eq_true rfl⟩ rfl rfl rfl (Nat.le_of_ble_eq_true rfl) ⟨Nat.zero_le _, Nat.zero_le _⟩ ?_
      refine lv_icmp_gt (tgt := 48) hx hb dX1_readKey_38 (by decide) (fun c11 => ?_) (fun c11 => ?_)
      · have hq := q_if_t hq c11
        refine lv_aload_n hx hb dX1_readKey_48 rfl (lv_at hl 2 rfl) ?_
        refine lv_bipush (v := 44) hx hb dX1_readKey_49 (by decide) ?_
        obtain ⟨⟨r12, y13⟩, hh14, hq⟩ := q_bd hq
        refine rwV (ci := 1) (wr := [(h1, .inr (0, [.int cn, .ref a1])), (a1, .inl (g 0, 96, .inl cf))]) (As := [.int 44]) (rest := []) X K (k_X1_skip l G g t1 b1 tl y2 tb 44 _ hh14) hd_X1_skip gX1_readKey_X1_skip hP hD hS hA [0, 1] [2, 3] rfl rfl ⟨by decide, by decide, by decide⟩ hl.1 dX1_readKey_51 rfl rfl ⟨Nat.le_of_ble_eq_true rfl, Nat.le_of_ble_eq_true rfl⟩ rfl rfl rfl (Nat.le_of_ble_eq_true rfl) ⟨Nat.zero_le _, Nat.zero_le _⟩ (fun H locs hP hD hS => ?_)
        have hP : va_P G vwCl [(t1, .inr (1, [.ref b1, .int tl, .int y13])), (b1, .inl (g 1, 150, .inl tb)), (h1, .inr (0, [.int cn, .ref a1])), (a1, .inl (g 0, 96, .inl cf))] H := hP.sub [2, 3, 0, 1] rfl
        have hD : va_D A [(t1, .inr (1, [.ref b1, .int tl, .int y13])), (b1, .inl (g 1, 150, .inl tb)), (h1, .inr (0, [.int cn, .ref a1])), (a1, .inl (g 0, 96, .inl cf))] := hD.sub [2, 3, 0, 1] (by decide) rfl
        refine lv_if_ne (tgt := 59) hx hb dX1_readKey_54 (by decide) (fun c16 => ?_) (fun c16 => ?_)
        · have hq := q_if_f hq c16
          refine lv_aload_n hx hb dX1_readKey_59 rfl (lv_at hl 2 rfl) ?_
          refine lv_bipush (v := 45) hx hb dX1_readKey_60 (by decide) ?_
          obtain ⟨⟨r17, y18⟩, hh19, hq⟩ := q_bd hq
          refine rwV (ci := 1) (wr := [(h1, .inr (0, [.int cn, .ref a1])), (a1, .inl (g 0, 96, .inl cf))]) (As := [.int 45]) (rest := []) X K (k_X1_skip l G g t1 b1 tl y13 tb 45 _ hh19) hd_X1_skip gX1_readKey_X1_skip hP hD hS hA [0, 1] [2, 3] rfl rfl ⟨by decide, by decide, by decide⟩ hl.1 dX1_readKey_62 rfl rfl ⟨Nat.le_of_ble_eq_true rfl, Nat.le_of_ble_eq_true rfl⟩ rfl rfl rfl (Nat.le_of_ble_eq_true rfl) ⟨Nat.zero_le _, Nat.zero_le _⟩ (fun H locs hP hD hS => ?_)
          have hP : va_P G vwCl [(t1, .inr (1, [.ref b1, .int tl, .int y18])), (b1, .inl (g 1, 150, .inl tb)), (h1, .inr (0, [.int cn, .ref a1])), (a1, .inl (g 0, 96, .inl cf))] H := hP.sub [2, 3, 0, 1] rfl
          have hD : va_D A [(t1, .inr (1, [.ref b1, .int tl, .int y18])), (b1, .inl (g 1, 150, .inl tb)), (h1, .inr (0, [.int cn, .ref a1])), (a1, .inl (g 0, 96, .inl cf))] := hD.sub [2, 3, 0, 1] (by decide) rfl
          refine lv_istore (lv' := [(4, .int r17), (3, .int r1), (2, .int ta), (0, .ref t1), (1, .ref h1)]) hx hb dX1_readKey_65 hl (by decide) rfl (fun ls hl => ?_)
          refine lv_aload_n hx hb dX1_readKey_67 rfl (lv_at hl 3 rfl) ?_
          refine lv_iconst (v := 4) hx hb dX1_readKey_68 (by decide) ?_
          obtain ⟨⟨r21, y22⟩, hh23, hq⟩ := q_bd hq
          refine rwV (ci := 1) (wr := [(h1, .inr (0, [.int cn, .ref a1])), (a1, .inl (g 0, 96, .inl cf))]) (As := [.int 4]) (rest := []) X K (k_X1_readDigits l G g t1 b1 tl y18 tb 4 _ hh23) hd_X1_readDigits gX1_readKey_X1_readDigits hP hD hS hA [0, 1] [2, 3] rfl rfl ⟨by decide, by decide, by decide⟩ hl.1 dX1_readKey_69 rfl rfl ⟨Nat.le_of_ble_eq_true rfl, Nat.le_of_ble_eq_true rfl⟩ rfl rfl rfl (Nat.le_of_ble_eq_true rfl) ⟨Nat.zero_le _, Nat.zero_le _⟩ (fun H locs hP hD hS => ?_)
          have hP : va_P G vwCl [(t1, .inr (1, [.ref b1, .int tl, .int y22])), (b1, .inl (g 1, 150, .inl tb)), (h1, .inr (0, [.int cn, .ref a1])), (a1, .inl (g 0, 96, .inl cf))] H := hP.sub [2, 3, 0, 1] rfl
          have hD : va_D A [(t1, .inr (1, [.ref b1, .int tl, .int y22])), (b1, .inl (g 1, 150, .inl tb)), (h1, .inr (0, [.int cn, .ref a1])), (a1, .inl (g 0, 96, .inl cf))] := hD.sub [2, 3, 0, 1] (by decide) rfl
          refine lv_istore (lv' := [(5, .int r21), (4, .int r17), (3, .int r1), (2, .int ta), (0, .ref t1), (1, .ref h1)]) hx hb dX1_readKey_72 hl (by decide) rfl (fun ls hl => ?_)
          refine lv_iload hx hb dX1_readKey_74 (lv_at hl 0 rfl) ?_
          refine lv_iconst (v := (-1)) hx hb dX1_readKey_76 (by decide) ?_
          refine lv_icmp_eq (tgt := 104) hx hb dX1_readKey_77 (by decide) (fun c25 => ?_) (fun c25 => ?_)
          · have hq := q_if_t hq c25
            refine lv_iconst (v := 0) hx hb dX1_readKey_104 (by decide) ?_
            obtain rfl := q_rt hq
            exact rw_zret hx hb hr nz_0 hk hP hD hS dX1_readKey_105
          · have hq := q_if_f hq c25
            refine lv_aload_n hx hb dX1_readKey_80 rfl (lv_at hl 4 rfl) ?_
            refine lv_bipush (v := 44) hx hb dX1_readKey_81 (by decide) ?_
            obtain ⟨⟨r26, y27⟩, hh28, hq⟩ := q_bd hq
            refine rwV (ci := 1) (wr := [(h1, .inr (0, [.int cn, .ref a1])), (a1, .inl (g 0, 96, .inl cf))]) (As := [.int 44]) (rest := []) X K (k_X1_skip l G g t1 b1 tl y22 tb 44 _ hh28) hd_X1_skip gX1_readKey_X1_skip hP hD hS hA [0, 1] [2, 3] rfl rfl ⟨by decide, by decide, by decide⟩ hl.1 dX1_readKey_83 rfl rfl ⟨Nat.le_of_ble_eq_true rfl, Nat.le_of_ble_eq_true rfl⟩ rfl rfl rfl (Nat.le_of_ble_eq_true rfl) ⟨Nat.zero_le _, Nat.zero_le _⟩ (fun H locs hP hD hS => ?_)
            have hP : va_P G vwCl [(t1, .inr (1, [.ref b1, .int tl, .int y27])), (b1, .inl (g 1, 150, .inl tb)), (h1, .inr (0, [.int cn, .ref a1])), (a1, .inl (g 0, 96, .inl cf))] H := hP.sub [2, 3, 0, 1] rfl
            have hD : va_D A [(t1, .inr (1, [.ref b1, .int tl, .int y27])), (b1, .inl (g 1, 150, .inl tb)), (h1, .inr (0, [.int cn, .ref a1])), (a1, .inl (g 0, 96, .inl cf))] := hD.sub [2, 3, 0, 1] (by decide) rfl
            refine lv_if_eq (tgt := 104) hx hb dX1_readKey_86 (by decide) (fun c30 => ?_) (fun c30 => ?_)
            · have hq := q_if_t hq c30
              refine lv_iconst (v := 0) hx hb dX1_readKey_104 (by decide) ?_
              obtain rfl := q_rt hq
              exact rw_zret hx hb hr nz_0 hk hP hD hS dX1_readKey_105
            · have hq := q_if_f hq c30
              refine lv_aload_n hx hb dX1_readKey_89 rfl (lv_at hl 4 rfl) ?_
              refine lv_aload_n hx hb dX1_readKey_90 rfl (lv_at hl 4 rfl) ?_
              refine va_get (D := G) (ci := 1) (v := .int y27) (C := RX1) (T := TX1) (N := 3) hx hb hts in_X1_readKey_X1 hown K.1 hP 0 rfl rfl 2 (by decide) (hts _ (List.mem_of_getElem? (i := 1) rfl)) (fun _ h9 => h9) rfl dX1_readKey_91 ?_
              refine lv_bipush (v := 48) hx hb dX1_readKey_94 (by decide) ?_
              refine lv_bipush (v := 53) hx hb dX1_readKey_96 (by decide) ?_
              obtain ⟨r31, hh32, hq⟩ := q_bd hq
              refine roV (ci := 1) (As := [.int y27, .int 48, .int 53]) (rest := []) X K (k_X1_isSign l G g t1 b1 tl y27 tb y27 48 53 _ hh32) hd_X1_isSign gX1_readKey_X1_isSign (hP.sub [0, 1] rfl) hl.1 dX1_readKey_98 rfl rfl ⟨Nat.le_of_ble_eq_true rfl, Nat.le_of_ble_eq_true rfl⟩ rfl rfl rfl (Nat.le_of_ble_eq_true rfl) ⟨Nat.zero_le _, Nat.zero_le _⟩ ?_
              refine lv_if_ne (tgt := 106) hx hb dX1_readKey_101 (by decide) (fun c33 => ?_) (fun c33 => ?_)
              · have hq := q_if_f hq c33
                refine lv_aload_n hx hb dX1_readKey_106 rfl (lv_at hl 4 rfl) ?_
                refine lv_iconst (v := 1) hx hb dX1_readKey_107 (by decide) ?_
                obtain ⟨⟨r34, y35⟩, hh36, hq⟩ := q_bd hq
                refine rwV (ci := 1) (wr := [(h1, .inr (0, [.int cn, .ref a1])), (a1, .inl (g 0, 96, .inl cf))]) (As := [.int 1]) (rest := []) X K (k_X1_readDigits l G g t1 b1 tl y27 tb 1 _ hh36) hd_X1_readDigits gX1_readKey_X1_readDigits hP hD hS hA [0, 1] [2, 3] rfl rfl ⟨by decide, by decide, by decide⟩ hl.1 dX1_readKey_108 rfl rfl ⟨Nat.le_of_ble_eq_true rfl, Nat.le_of_ble_eq_true rfl⟩ rfl rfl rfl (Nat.le_of_ble_eq_true rfl) ⟨Nat.zero_le _, Nat.zero_le _⟩ (fun H locs hP hD hS => ?_)
                have hP : va_P G vwCl [(t1, .inr (1, [.ref b1, .int tl, .int y35])), (b1, .inl (g 1, 150, .inl tb)), (h1, .inr (0, [.int cn, .ref a1])), (a1, .inl (g 0, 96, .inl cf))] H := hP.sub [2, 3, 0, 1] rfl
                have hD : va_D A [(t1, .inr (1, [.ref b1, .int tl, .int y35])), (b1, .inl (g 1, 150, .inl tb)), (h1, .inr (0, [.int cn, .ref a1])), (a1, .inl (g 0, 96, .inl cf))] := hD.sub [2, 3, 0, 1] (by decide) rfl
                refine lv_istore (lv' := [(6, .int r34), (5, .int r21), (4, .int r17), (3, .int r1), (2, .int ta), (0, .ref t1), (1, .ref h1)]) hx hb dX1_readKey_111 hl (by decide) rfl (fun ls hl => ?_)
                refine lv_aload_n hx hb dX1_readKey_113 rfl (lv_at hl 5 rfl) ?_
                refine lv_bipush (v := 108) hx hb dX1_readKey_114 (by decide) ?_
                obtain ⟨⟨r38, y39⟩, hh40, hq⟩ := q_bd hq
                refine rwV (ci := 1) (wr := [(h1, .inr (0, [.int cn, .ref a1])), (a1, .inl (g 0, 96, .inl cf))]) (As := [.int 108]) (rest := []) X K (k_X1_skip l G g t1 b1 tl y35 tb 108 _ hh40) hd_X1_skip gX1_readKey_X1_skip hP hD hS hA [0, 1] [2, 3] rfl rfl ⟨by decide, by decide, by decide⟩ hl.1 dX1_readKey_116 rfl rfl ⟨Nat.le_of_ble_eq_true rfl, Nat.le_of_ble_eq_true rfl⟩ rfl rfl rfl (Nat.le_of_ble_eq_true rfl) ⟨Nat.zero_le _, Nat.zero_le _⟩ (fun H locs hP hD hS => ?_)
                have hP : va_P G vwCl [(t1, .inr (1, [.ref b1, .int tl, .int y39])), (b1, .inl (g 1, 150, .inl tb)), (h1, .inr (0, [.int cn, .ref a1])), (a1, .inl (g 0, 96, .inl cf))] H := hP.sub [2, 3, 0, 1] rfl
                have hD : va_D A [(t1, .inr (1, [.ref b1, .int tl, .int y39])), (b1, .inl (g 1, 150, .inl tb)), (h1, .inr (0, [.int cn, .ref a1])), (a1, .inl (g 0, 96, .inl cf))] := hD.sub [2, 3, 0, 1] (by decide) rfl
                refine lv_if_eq (tgt := 126) hx hb dX1_readKey_119 (by decide) (fun c42 => ?_) (fun c42 => ?_)
                · have hq := q_if_t hq c42
                  refine lv_iconst (v := 0) hx hb dX1_readKey_126 (by decide) ?_
                  exact w_X1_readKey_127 X K hA t1 b1 h1 a1 tl y39 tb cn cf r1 r17 r21 r34 0 _ hq _ _ hP hD hS ls (lv_sub hl [5, 6, 3, 2, 1, 0] rfl)
                · have hq := q_if_f hq c42
                  refine lv_iconst (v := 1) hx hb dX1_readKey_122 (by decide) ?_
                  refine lv_goto (tgt := 127) hx hb dX1_readKey_123 (by decide) ?_
                  exact w_X1_readKey_127 X K hA t1 b1 h1 a1 tl y39 tb cn cf r1 r17 r21 r34 1 _ hq _ _ hP hD hS ls (lv_sub hl [5, 6, 3, 2, 1, 0] rfl)
              · have hq := q_if_t hq c33
                refine lv_iconst (v := 0) hx hb dX1_readKey_104 (by decide) ?_
                obtain rfl := q_rt hq
                exact rw_zret hx hb hr nz_0 hk hP hD hS dX1_readKey_105
        · have hq := q_if_t hq c16
          refine lv_iconst (v := 0) hx hb dX1_readKey_57 (by decide) ?_
          obtain rfl := q_rt hq
          exact rw_zret hx hb hr nz_0 hk hP hD hS dX1_readKey_58
      · have hq := q_if_f hq c11
        refine lv_aload_n hx hb dX1_readKey_41 rfl (lv_at hl 2 rfl) ?_
        refine lv_iload_n hx hb dX1_readKey_42 rfl (lv_at hl 1 rfl) ?_
        refine va_put (D := G) (ci := 1) (v := .int ta) (ty := .int) (C := RX1) (T := TX1) (N := 3) hx hb hts in_X1_readKey_X1 tyX1 tyX1_ok nmX1 hown K.1 hP hD hS 0 rfl rfl 2 (by decide) (hts _ (List.mem_of_getElem? (i := 1) rfl)) (fun _ h9 => h9) rfl (by decide +kernel) rfl rfl (Nat.le_of_ble_eq_true rfl) dX1_readKey_43 (fun H locs hP hD hS => ?_)
        have hP : va_P G vwCl [(t1, .inr (1, [.ref b1, .int tl, .int ta])), (b1, .inl (g 1, 150, .inl tb)), (h1, .inr (0, [.int cn, .ref a1])), (a1, .inl (g 0, 96, .inl cf))] H := hP
        have hD : va_D A [(t1, .inr (1, [.ref b1, .int tl, .int ta])), (b1, .inl (g 1, 150, .inl tb)), (h1, .inr (0, [.int cn, .ref a1])), (a1, .inl (g 0, 96, .inl cf))] := hD
        refine lv_iconst (v := 0) hx hb dX1_readKey_46 (by decide) ?_
        obtain rfl := q_rt hq
        exact rw_zret hx hb hr nz_0 hk hP hD hS dX1_readKey_47
    · have hq := q_if_f hq c8
      refine lv_iconst (v := 0) hx hb dX1_readKey_31 (by decide) ?_
      obtain rfl := q_rt hq
      exact rw_zret hx hb hr nz_0 hk hP hD hS dX1_readKey_32
theorem hd_X1_readKey : ynm yX1_readKey 1 := by unfold ynm; decide +kernel
theorem in_X1_readInto_X0 : ∀ w ∈ wsX00, w ∈ wsX1_readInto := fun _ h => List.mem_cons_of_mem _ (List.mem_append_left _ (List.mem_append_right _ h))
theorem in_X1_readInto_X1 : ∀ w ∈ wsX10, w ∈ wsX1_readInto := fun _ h => List.mem_cons_of_mem _ (List.mem_append_right _ h)
def F_X1_readInto_12 (tl : Int32) (tb : Nat → Int32) : Nat → Int32 → Int32 → (Nat → Int32) → Int32 → Option (Int32 × Int32 × Int32 × (Nat → Int32))
  | 0, _, _, _, _ => none
  | n + 1, ta, cn, cf, v1 => if (16 : Int32) < v1 then (some ((-1), ta, cn, cf)) else (if ta < tl then (if v1 = 16 then (some (ta, ta, cn, cf)) else ((F_X1_readKey tl ta tb cn cf).bind fun o10 => if o10.1 = 0 then (some (o10.2.1, o10.2.1, o10.2.2.1, o10.2.2.2)) else (vlet ((v1 : Int32) + 1) fun x12 => F_X1_readInto_12 tl tb n o10.2.1 o10.2.2.1 o10.2.2.2 x12))) else (some ((-1), ta, cn, cf)))
set_option maxHeartbeats 4000000 in
set_option maxRecDepth 100000 in
theorem w_X1_readInto_12 {p : Program} {l : Launch} {e : Env} {s : State} {m : MethodId} {args : Array Value} {below : List Frame} {meth : Method} {c : Code} {G : va_G} {g : Nat → ClassId} (X : cx p s m args meth c cX1_readInto 3 (some .int) RX1 wsX1_readInto) (K : amb G g s) {A : Nat → Prop} (hA : ∀ q : Nat, s.heap.size ≤ q → A q) (t1 b1 h1 a1 : Nat) (tl : Int32) (tb : Nat → Int32) (res : Int32 × Int32 × Int32 × (Nat → Int32)) : ∀ (n : Nat) (ta : Int32) (cn : Int32) (cf : Nat → Int32) (v1 : Int32), F_X1_readInto_12 tl tb n ta cn cf v1 = some res → ∀ (H : Heap) (locs : List Loc), va_P G vwCl [(t1, .inr (1, [.ref b1, .int tl, .int ta])), (b1, .inl (g 1, 150, .inl tb)), (h1, .inr (0, [.int cn, .ref a1])), (a1, .inl (g 0, 96, .inl cf))] H → va_D A [(t1, .inr (1, [.ref b1, .int tl, .int ta])), (b1, .inl (g 1, 150, .inl tb)), (h1, .inr (0, [.int cn, .ref a1])), (a1, .inl (g 0, 96, .inl cf))] → va_S A s.heap H locs → ∀ (ls : Array Slot), lv_has ls 3 [(0, .ref t1), (1, .ref h1), (2, .int v1)] → W p l e (rmF 4 100) s m args below meth c H locs 0 0 (rwM G A below (some (.int res.1)) [(t1, .inr (1, [.ref b1, .int tl, .int res.2.1])), (b1, .inl (g 1, 150, .inl tb)), (h1, .inr (0, [.int res.2.2.1, .ref a1])), (a1, .inl (g 0, 96, .inl res.2.2.2))] args s) (F0 m 12 ls []) := by
  obtain ⟨hx, hb, hml, hr, hown, hts, hk⟩ := id X
  intro n
  induction n with
  | zero => intro ta cn cf v1 hq; exact q_no hq
  | succ n ih =>
    intro ta cn cf v1 hq H locs hP hD hS ls hl
    rw [F_X1_readInto_12] at hq
    refine lv_iload_n hx hb dX1_readInto_12 rfl (lv_at hl 2 rfl) ?_
    refine lv_bipush (v := 16) hx hb dX1_readInto_13 (by decide) ?_
    refine lv_icmp_gt (tgt := 56) hx hb dX1_readInto_15 (by decide) (fun c2 => ?_) (fun c2 => ?_)
    · have hq := q_if_t hq c2
      refine lv_iconst (v := (-1)) hx hb dX1_readInto_56 (by decide) ?_
      obtain rfl := q_rt hq
      exact rw_iret hx hb hr hk hP hD hS dX1_readInto_57
    · have hq := q_if_f hq c2
      refine lv_aload_n hx hb dX1_readInto_18 rfl (lv_at hl 0 rfl) ?_
      refine va_get (D := G) (ci := 1) (v := .int ta) (C := RX1) (T := TX1) (N := 3) hx hb hts in_X1_readInto_X1 hown K.1 hP 0 rfl rfl 2 (by decide) (hts _ (List.mem_of_getElem? (i := 1) rfl)) (fun _ h9 => h9) rfl dX1_readInto_19 ?_
      refine lv_aload_n hx hb dX1_readInto_22 rfl (lv_at hl 0 rfl) ?_
      refine va_get (D := G) (ci := 1) (v := .int tl) (C := RX1) (T := TX1) (N := 3) hx hb hts in_X1_readInto_X1 hown K.1 hP 0 rfl rfl 1 (by decide) (hts _ (List.mem_of_getElem? (i := 2) rfl)) (fun _ h9 => h9) rfl dX1_readInto_23 ?_
      refine lv_icmp_lt (tgt := 31) hx hb dX1_readInto_26 (by decide) (fun c3 => ?_) (fun c3 => ?_)
      · have hq := q_if_t hq c3
        refine lv_iload_n hx hb dX1_readInto_31 rfl (lv_at hl 2 rfl) ?_
        refine lv_bipush (v := 16) hx hb dX1_readInto_32 (by decide) ?_
        refine lv_icmp_eq (tgt := 45) hx hb dX1_readInto_34 (by decide) (fun c4 => ?_) (fun c4 => ?_)
        · have hq := q_if_t hq c4
          refine lv_aload_n hx hb dX1_readInto_45 rfl (lv_at hl 0 rfl) ?_
          refine va_get (D := G) (ci := 1) (v := .int ta) (C := RX1) (T := TX1) (N := 3) hx hb hts in_X1_readInto_X1 hown K.1 hP 0 rfl rfl 2 (by decide) (hts _ (List.mem_of_getElem? (i := 1) rfl)) (fun _ h9 => h9) rfl dX1_readInto_46 ?_
          obtain rfl := q_rt hq
          exact rw_iret hx hb hr hk hP hD hS dX1_readInto_49
        · have hq := q_if_f hq c4
          refine lv_aload_n hx hb dX1_readInto_37 rfl (lv_at hl 0 rfl) ?_
          refine lv_aload_n hx hb dX1_readInto_38 rfl (lv_at hl 1 rfl) ?_
          obtain ⟨⟨r5, y6, y7, y8⟩, hh9, hq⟩ := q_bd hq
          refine rwV (ci := 1) (wr := []) (As := [.ref h1]) (rest := []) X K (k_X1_readKey l G g t1 b1 h1 a1 tl ta tb cn cf _ hh9) hd_X1_readKey gX1_readInto_X1_readKey hP hD hS hA [0, 1, 2, 3] [] rfl rfl ⟨by decide, by decide, by decide⟩ hl.1 dX1_readInto_39 rfl rfl ⟨Nat.le_of_ble_eq_true rfl, Nat.le_of_ble_eq_true rfl⟩ rfl rfl rfl (Nat.le_of_ble_eq_true rfl) ⟨Nat.zero_le _, Nat.zero_le _⟩ (fun H locs hP hD hS => ?_)
          have hP : va_P G vwCl [(t1, .inr (1, [.ref b1, .int tl, .int y6])), (b1, .inl (g 1, 150, .inl tb)), (h1, .inr (0, [.int y7, .ref a1])), (a1, .inl (g 0, 96, .inl y8))] H := hP
          have hD : va_D A [(t1, .inr (1, [.ref b1, .int tl, .int y6])), (b1, .inl (g 1, 150, .inl tb)), (h1, .inr (0, [.int y7, .ref a1])), (a1, .inl (g 0, 96, .inl y8))] := hD
          refine lv_if_ne (tgt := 50) hx hb dX1_readInto_42 (by decide) (fun c11 => ?_) (fun c11 => ?_)
          · have hq := q_if_f hq c11
            obtain ⟨x12, ex12⟩ : ∃ y : Int32, y = (v1 : Int32) + 1 := ⟨_, rfl⟩
            have hq := q_let hq ex12
            refine lv_iinc (v := x12) (lv' := [(2, .int x12), (0, .ref t1), (1, .ref h1)]) hx hb dX1_readInto_50 hl (k := 2) rfl (by rw [ex12]; rfl) (by decide) rfl (fun ls hl => ?_)
            refine lv_goto (tgt := 12) hx hb dX1_readInto_53 (by decide) ?_
            exact ih y6 y7 y8 x12 hq _ _ hP hD hS ls (lv_sub hl [1, 2, 0] rfl)
          · have hq := q_if_t hq c11
            refine lv_aload_n hx hb dX1_readInto_45 rfl (lv_at hl 0 rfl) ?_
            refine va_get (D := G) (ci := 1) (v := .int y6) (C := RX1) (T := TX1) (N := 3) hx hb hts in_X1_readInto_X1 hown K.1 hP 0 rfl rfl 2 (by decide) (hts _ (List.mem_of_getElem? (i := 1) rfl)) (fun _ h9 => h9) rfl dX1_readInto_46 ?_
            obtain rfl := q_rt hq
            exact rw_iret hx hb hr hk hP hD hS dX1_readInto_49
      · have hq := q_if_f hq c3
        refine lv_iconst (v := (-1)) hx hb dX1_readInto_29 (by decide) ?_
        obtain rfl := q_rt hq
        exact rw_iret hx hb hr hk hP hD hS dX1_readInto_30
def F_X1_readInto (tl : Int32) (ta : Int32) (tb : Nat → Int32) (cn : Int32) (cf : Nat → Int32) : Option (Int32 × Int32 × Int32 × (Nat → Int32)) := F_X1_readInto_12 tl tb 2000 0 0 cf 0
set_option maxHeartbeats 4000000 in
set_option maxRecDepth 100000 in
theorem k_X1_readInto (l : Launch) (G : va_G) (g : Nat → ClassId) (t1 b1 h1 a1 : Nat) (tl : Int32) (ta : Int32) (tb : Nat → Int32) (cn : Int32) (cf : Nat → Int32) (res : Int32 × Int32 × Int32 × (Nat → Int32)) (hq : F_X1_readInto tl ta tb cn cf = some res) : rwC l yX1_readInto wsX1_readInto (rmF 4 100) G g [.ref t1, .ref h1] [(t1, .inr (1, [.ref b1, .int tl, .int ta])), (b1, .inl (g 1, 150, .inl tb)), (h1, .inr (0, [.int cn, .ref a1])), (a1, .inl (g 0, 96, .inl cf))] (some (.int res.1)) [(t1, .inr (1, [.ref b1, .int tl, .int res.2.1])), (b1, .inl (g 1, 150, .inl tb)), (h1, .inr (0, [.int res.2.2.1, .ref a1])), (a1, .inl (g 0, 96, .inl res.2.2.2))] := by
  refine rwC.of (cc := cX1_readInto) (maxL := 3) (ret := (some .int)) (by decide) rfl (Nat.le_of_ble_eq_true rfl) ?_
  intro p e s m below meth c ls A X K hA hP hD hS hl
  obtain ⟨hx, hb, hml, hr, hown, hts, hk⟩ := id X
  have hl : lv_has ls 3 [(0, .ref t1), (1, .ref h1)] := hl
  unfold F_X1_readInto at hq
  refine lv_aload_n hx hb dX1_readInto_0 rfl (lv_at hl 1 rfl) ?_
  refine lv_iconst (v := 0) hx hb dX1_readInto_1 (by decide) ?_
  refine va_putN (D := G) (ci := 0) (v := .int 0) (ty := .int) (C := RX0) (T := TX0) (N := 2) (host := RX3) hx hb hts in_X1_readInto_X0 tyX0 tyX0_ok nmX0 hown K.1 hP hD hS 2 rfl rfl 0 (by decide) ((K.2.2 (RX1, 22, RX0, "count", "I", RX3) (by decide +kernel)).use rfl) (fun _ h9 => h9) rfl (by decide +kernel) rfl rfl (Nat.le_of_ble_eq_true rfl) dX1_readInto_2 (fun H locs hP hD hS => ?_)
  have hP : va_P G vwCl [(t1, .inr (1, [.ref b1, .int tl, .int ta])), (b1, .inl (g 1, 150, .inl tb)), (h1, .inr (0, [.int 0, .ref a1])), (a1, .inl (g 0, 96, .inl cf))] H := hP
  have hD : va_D A [(t1, .inr (1, [.ref b1, .int tl, .int ta])), (b1, .inl (g 1, 150, .inl tb)), (h1, .inr (0, [.int 0, .ref a1])), (a1, .inl (g 0, 96, .inl cf))] := hD
  refine lv_aload_n hx hb dX1_readInto_5 rfl (lv_at hl 0 rfl) ?_
  refine lv_iconst (v := 0) hx hb dX1_readInto_6 (by decide) ?_
  refine va_put (D := G) (ci := 1) (v := .int 0) (ty := .int) (C := RX1) (T := TX1) (N := 3) hx hb hts in_X1_readInto_X1 tyX1 tyX1_ok nmX1 hown K.1 hP hD hS 0 rfl rfl 2 (by decide) (hts _ (List.mem_of_getElem? (i := 1) rfl)) (fun _ h9 => h9) rfl (by decide +kernel) rfl rfl (Nat.le_of_ble_eq_true rfl) dX1_readInto_7 (fun H locs hP hD hS => ?_)
  have hP : va_P G vwCl [(t1, .inr (1, [.ref b1, .int tl, .int 0])), (b1, .inl (g 1, 150, .inl tb)), (h1, .inr (0, [.int 0, .ref a1])), (a1, .inl (g 0, 96, .inl cf))] H := hP
  have hD : va_D A [(t1, .inr (1, [.ref b1, .int tl, .int 0])), (b1, .inl (g 1, 150, .inl tb)), (h1, .inr (0, [.int 0, .ref a1])), (a1, .inl (g 0, 96, .inl cf))] := hD
  refine lv_iconst (v := 0) hx hb dX1_readInto_10 (by decide) ?_
  refine lv_istore_n (lv' := [(2, .int 0), (0, .ref t1), (1, .ref h1)]) hx hb dX1_readInto_11 rfl hl (by decide) rfl (fun ls hl => ?_)
  exact w_X1_readInto_12 X K hA t1 b1 h1 a1 tl tb _ 2000 0 0 cf 0 hq _ _ hP hD hS ls (lv_sub hl [1, 2, 0] rfl)
theorem hd_X0_become : ynm yX0_become 1 := by unfold ynm; decide +kernel
theorem in_X2_become_X2 : ∀ w ∈ wsX20, w ∈ wsX2_become := fun _ h => List.mem_cons_of_mem _ (List.mem_append_left _ (List.mem_append_right _ h))
def F_X2_become (bn0 : Int32) (bf0 : Nat → Int32) (bn1 : Int32) (bf1 : Nat → Int32) (bn2 : Int32) (bf2 : Nat → Int32) (bn3 : Int32) (bf3 : Nat → Int32) (dn0 : Int32) (df0 : Nat → Int32) (dn1 : Int32) (df1 : Nat → Int32) (dn2 : Int32) (df2 : Nat → Int32) (dn3 : Int32) (df3 : Nat → Int32) : Option (Int32 × (Nat → Int32) × Int32 × (Nat → Int32) × Int32 × (Nat → Int32) × Int32 × (Nat → Int32)) := (F_X0_become bn0 bf0 dn0 df0).bind fun o4 => (F_X0_become bn1 bf1 dn1 df1).bind fun o8 => (F_X0_become bn2 bf2 dn2 df2).bind fun o12 => (F_X0_become bn3 bf3 dn3 df3).bind fun o16 => some (o4.1, o4.2, o8.1, o8.2, o12.1, o12.2, o16.1, o16.2)
set_option maxHeartbeats 4000000 in
set_option maxRecDepth 100000 in
theorem k_X2_become (l : Launch) (G : va_G) (g : Nat → ClassId) (s1 q1 b0 ba0 b1 ba1 b2 ba2 b3 ba3 s2 q2 d0 da0 d1 da1 d2 da2 d3 da3 : Nat) (bn0 : Int32) (bf0 : Nat → Int32) (bn1 : Int32) (bf1 : Nat → Int32) (bn2 : Int32) (bf2 : Nat → Int32) (bn3 : Int32) (bf3 : Nat → Int32) (dn0 : Int32) (df0 : Nat → Int32) (dn1 : Int32) (df1 : Nat → Int32) (dn2 : Int32) (df2 : Nat → Int32) (dn3 : Int32) (df3 : Nat → Int32) (res : Int32 × (Nat → Int32) × Int32 × (Nat → Int32) × Int32 × (Nat → Int32) × Int32 × (Nat → Int32)) (hq : F_X2_become bn0 bf0 bn1 bf1 bn2 bf2 bn3 bf3 dn0 df0 dn1 df1 dn2 df2 dn3 df3 = some res) : rwC l yX2_become wsX2_become (rmF 2 61) G g [.ref s1, .ref s2] [(s1, .inr (2, [.ref q1])), (q1, .inl (g 2, 4, .inr (.inr (.inr (.inr (vq4 b0 b1 b2 b3)))))), (b0, .inr (0, [.int bn0, .ref ba0])), (ba0, .inl (g 0, 96, .inl bf0)), (b1, .inr (0, [.int bn1, .ref ba1])), (ba1, .inl (g 0, 96, .inl bf1)), (b2, .inr (0, [.int bn2, .ref ba2])), (ba2, .inl (g 0, 96, .inl bf2)), (b3, .inr (0, [.int bn3, .ref ba3])), (ba3, .inl (g 0, 96, .inl bf3)), (s2, .inr (2, [.ref q2])), (q2, .inl (g 2, 4, .inr (.inr (.inr (.inr (vq4 d0 d1 d2 d3)))))), (d0, .inr (0, [.int dn0, .ref da0])), (da0, .inl (g 0, 96, .inl df0)), (d1, .inr (0, [.int dn1, .ref da1])), (da1, .inl (g 0, 96, .inl df1)), (d2, .inr (0, [.int dn2, .ref da2])), (da2, .inl (g 0, 96, .inl df2)), (d3, .inr (0, [.int dn3, .ref da3])), (da3, .inl (g 0, 96, .inl df3))] none [(s1, .inr (2, [.ref q1])), (q1, .inl (g 2, 4, .inr (.inr (.inr (.inr (vq4 b0 b1 b2 b3)))))), (b0, .inr (0, [.int res.1, .ref ba0])), (ba0, .inl (g 0, 96, .inl res.2.1)), (b1, .inr (0, [.int res.2.2.1, .ref ba1])), (ba1, .inl (g 0, 96, .inl res.2.2.2.1)), (b2, .inr (0, [.int res.2.2.2.2.1, .ref ba2])), (ba2, .inl (g 0, 96, .inl res.2.2.2.2.2.1)), (b3, .inr (0, [.int res.2.2.2.2.2.2.1, .ref ba3])), (ba3, .inl (g 0, 96, .inl res.2.2.2.2.2.2.2)), (s2, .inr (2, [.ref q2])), (q2, .inl (g 2, 4, .inr (.inr (.inr (.inr (vq4 d0 d1 d2 d3)))))), (d0, .inr (0, [.int dn0, .ref da0])), (da0, .inl (g 0, 96, .inl df0)), (d1, .inr (0, [.int dn1, .ref da1])), (da1, .inl (g 0, 96, .inl df1)), (d2, .inr (0, [.int dn2, .ref da2])), (da2, .inl (g 0, 96, .inl df2)), (d3, .inr (0, [.int dn3, .ref da3])), (da3, .inl (g 0, 96, .inl df3))] := by
  refine rwC.of (cc := cX2_become) (maxL := 3) (ret := none) (by decide) rfl (Nat.le_of_ble_eq_true rfl) ?_
  intro p e s m below meth c ls A X K hA hP hD hS hl
  obtain ⟨hx, hb, hml, hr, hown, hts, hk⟩ := id X
  have hl : lv_has ls 3 [(0, .ref s1), (1, .ref s2)] := hl
  unfold F_X2_become at hq
  refine lv_iconst (v := 0) hx hb dX2_become_0 (by decide) ?_
  refine lv_istore_n (lv' := [(2, .int 0), (0, .ref s1), (1, .ref s2)]) hx hb dX2_become_1 rfl hl (by decide) rfl (fun ls hl => ?_)
  refine lv_iload_n hx hb dX2_become_2 rfl (lv_at hl 0 rfl) ?_
  refine lv_iconst (v := 4) hx hb dX2_become_3 (by decide) ?_
  refine lv_icmp_ge (tgt := 28) hx hb dX2_become_4 (by decide) (fun h => absurd h (by decide)) (fun _ => ?_)
  refine lv_aload_n hx hb dX2_become_7 rfl (lv_at hl 1 rfl) ?_
  refine va_get (D := G) (ci := 2) (v := .ref q1) (C := RX2) (T := TX2) (N := 1) hx hb hts in_X2_become_X2 hown K.1 hP 0 rfl rfl 0 (by decide) (hts _ (List.mem_of_getElem? (i := 1) rfl)) (fun _ h9 => h9) rfl dX2_become_8 ?_
  refine lv_iload_n hx hb dX2_become_11 rfl (lv_at hl 0 rfl) ?_
  refine va_aldq hx hb K.1 hP 1 2 rfl rfl (vp_in_iff.mpr (by decide)) dX2_become_12 ?_
  refine W.eq (g2 := F0 m 13 ls ([.ref b0])) (by rfl) ?_
  refine lv_aload_n hx hb dX2_become_13 rfl (lv_at hl 2 rfl) ?_
  refine va_get (D := G) (ci := 2) (v := .ref q2) (C := RX2) (T := TX2) (N := 1) hx hb hts in_X2_become_X2 hown K.1 hP 10 rfl rfl 0 (by decide) (hts _ (List.mem_of_getElem? (i := 1) rfl)) (fun _ h9 => h9) rfl dX2_become_14 ?_
  refine lv_iload_n hx hb dX2_become_17 rfl (lv_at hl 0 rfl) ?_
  refine va_aldq hx hb K.1 hP 11 2 rfl rfl (vp_in_iff.mpr (by decide)) dX2_become_18 ?_
  refine W.eq (g2 := F0 m 19 ls ([.ref d0, .ref b0])) (by rfl) ?_
  obtain ⟨⟨y1, y2⟩, hh3, hq⟩ := q_bd hq
  refine rwN (ci := 0) (host := RX3) (wr := [(s1, .inr (2, [.ref q1])), (q1, .inl (g 2, 4, .inr (.inr (.inr (.inr (vq4 b0 b1 b2 b3)))))), (b1, .inr (0, [.int bn1, .ref ba1])), (ba1, .inl (g 0, 96, .inl bf1)), (b2, .inr (0, [.int bn2, .ref ba2])), (ba2, .inl (g 0, 96, .inl bf2)), (b3, .inr (0, [.int bn3, .ref ba3])), (ba3, .inl (g 0, 96, .inl bf3)), (s2, .inr (2, [.ref q2])), (q2, .inl (g 2, 4, .inr (.inr (.inr (.inr (vq4 d0 d1 d2 d3)))))), (d1, .inr (0, [.int dn1, .ref da1])), (da1, .inl (g 0, 96, .inl df1)), (d2, .inr (0, [.int dn2, .ref da2])), (da2, .inl (g 0, 96, .inl df2)), (d3, .inr (0, [.int dn3, .ref da3])), (da3, .inl (g 0, 96, .inl df3))]) (As := [.ref d0]) (rest := []) X K (k_X0_become l G g b0 ba0 d0 da0 bn0 bf0 dn0 df0 _ hh3) hd_X0_become ggX2_become_X0_become (by decide +kernel) (List.mem_of_getElem? (i := 3) rfl) (List.mem_of_getElem? (i := 2) rfl) (List.mem_of_getElem? (i := 4) rfl) hP hD hS hA [2, 3, 12, 13] [0, 1, 4, 5, 6, 7, 8, 9, 10, 11, 14, 15, 16, 17, 18, 19] rfl rfl ⟨by decide, by decide, by decide⟩ hl.1 dX2_become_19 rfl rfl ⟨Nat.le_of_ble_eq_true rfl, Nat.le_of_ble_eq_true rfl⟩ rfl rfl rfl (Nat.le_of_ble_eq_true rfl) ⟨Nat.zero_le _, Nat.zero_le _⟩ (fun H locs hP hD hS => ?_)
  have hP : va_P G vwCl [(s1, .inr (2, [.ref q1])), (q1, .inl (g 2, 4, .inr (.inr (.inr (.inr (vq4 b0 b1 b2 b3)))))), (b0, .inr (0, [.int y1, .ref ba0])), (ba0, .inl (g 0, 96, .inl y2)), (b1, .inr (0, [.int bn1, .ref ba1])), (ba1, .inl (g 0, 96, .inl bf1)), (b2, .inr (0, [.int bn2, .ref ba2])), (ba2, .inl (g 0, 96, .inl bf2)), (b3, .inr (0, [.int bn3, .ref ba3])), (ba3, .inl (g 0, 96, .inl bf3)), (s2, .inr (2, [.ref q2])), (q2, .inl (g 2, 4, .inr (.inr (.inr (.inr (vq4 d0 d1 d2 d3)))))), (d0, .inr (0, [.int dn0, .ref da0])), (da0, .inl (g 0, 96, .inl df0)), (d1, .inr (0, [.int dn1, .ref da1])), (da1, .inl (g 0, 96, .inl df1)), (d2, .inr (0, [.int dn2, .ref da2])), (da2, .inl (g 0, 96, .inl df2)), (d3, .inr (0, [.int dn3, .ref da3])), (da3, .inl (g 0, 96, .inl df3))] H := hP.sub [0, 1, 16, 17, 2, 3, 4, 5, 6, 7, 8, 9, 18, 19, 10, 11, 12, 13, 14, 15] rfl
  have hD : va_D A [(s1, .inr (2, [.ref q1])), (q1, .inl (g 2, 4, .inr (.inr (.inr (.inr (vq4 b0 b1 b2 b3)))))), (b0, .inr (0, [.int y1, .ref ba0])), (ba0, .inl (g 0, 96, .inl y2)), (b1, .inr (0, [.int bn1, .ref ba1])), (ba1, .inl (g 0, 96, .inl bf1)), (b2, .inr (0, [.int bn2, .ref ba2])), (ba2, .inl (g 0, 96, .inl bf2)), (b3, .inr (0, [.int bn3, .ref ba3])), (ba3, .inl (g 0, 96, .inl bf3)), (s2, .inr (2, [.ref q2])), (q2, .inl (g 2, 4, .inr (.inr (.inr (.inr (vq4 d0 d1 d2 d3)))))), (d0, .inr (0, [.int dn0, .ref da0])), (da0, .inl (g 0, 96, .inl df0)), (d1, .inr (0, [.int dn1, .ref da1])), (da1, .inl (g 0, 96, .inl df1)), (d2, .inr (0, [.int dn2, .ref da2])), (da2, .inl (g 0, 96, .inl df2)), (d3, .inr (0, [.int dn3, .ref da3])), (da3, .inl (g 0, 96, .inl df3))] := hD.sub [0, 1, 16, 17, 2, 3, 4, 5, 6, 7, 8, 9, 18, 19, 10, 11, 12, 13, 14, 15] (by decide) rfl
  refine lv_iinc (v := 1) (lv' := [(2, .int 1), (0, .ref s1), (1, .ref s2)]) hx hb dX2_become_22 hl (k := 0) rfl (by decide) (by decide) rfl (fun ls hl => ?_)
  refine lv_goto (tgt := 2) hx hb dX2_become_25 (by decide) ?_
  refine lv_iload_n hx hb dX2_become_2 rfl (lv_at hl 0 rfl) ?_
  refine lv_iconst (v := 4) hx hb dX2_become_3 (by decide) ?_
  refine lv_icmp_ge (tgt := 28) hx hb dX2_become_4 (by decide) (fun h => absurd h (by decide)) (fun _ => ?_)
  refine lv_aload_n hx hb dX2_become_7 rfl (lv_at hl 1 rfl) ?_
  refine va_get (D := G) (ci := 2) (v := .ref q1) (C := RX2) (T := TX2) (N := 1) hx hb hts in_X2_become_X2 hown K.1 hP 0 rfl rfl 0 (by decide) (hts _ (List.mem_of_getElem? (i := 1) rfl)) (fun _ h9 => h9) rfl dX2_become_8 ?_
  refine lv_iload_n hx hb dX2_become_11 rfl (lv_at hl 0 rfl) ?_
  refine va_aldq hx hb K.1 hP 1 2 rfl rfl (vp_in_iff.mpr (by decide)) dX2_become_12 ?_
  refine W.eq (g2 := F0 m 13 ls ([.ref b1])) (by rfl) ?_
  refine lv_aload_n hx hb dX2_become_13 rfl (lv_at hl 2 rfl) ?_
  refine va_get (D := G) (ci := 2) (v := .ref q2) (C := RX2) (T := TX2) (N := 1) hx hb hts in_X2_become_X2 hown K.1 hP 10 rfl rfl 0 (by decide) (hts _ (List.mem_of_getElem? (i := 1) rfl)) (fun _ h9 => h9) rfl dX2_become_14 ?_
  refine lv_iload_n hx hb dX2_become_17 rfl (lv_at hl 0 rfl) ?_
  refine va_aldq hx hb K.1 hP 11 2 rfl rfl (vp_in_iff.mpr (by decide)) dX2_become_18 ?_
  refine W.eq (g2 := F0 m 19 ls ([.ref d1, .ref b1])) (by rfl) ?_
  obtain ⟨⟨y5, y6⟩, hh7, hq⟩ := q_bd hq
  refine rwN (ci := 0) (host := RX3) (wr := [(s1, .inr (2, [.ref q1])), (q1, .inl (g 2, 4, .inr (.inr (.inr (.inr (vq4 b0 b1 b2 b3)))))), (b0, .inr (0, [.int y1, .ref ba0])), (ba0, .inl (g 0, 96, .inl y2)), (b2, .inr (0, [.int bn2, .ref ba2])), (ba2, .inl (g 0, 96, .inl bf2)), (b3, .inr (0, [.int bn3, .ref ba3])), (ba3, .inl (g 0, 96, .inl bf3)), (s2, .inr (2, [.ref q2])), (q2, .inl (g 2, 4, .inr (.inr (.inr (.inr (vq4 d0 d1 d2 d3)))))), (d0, .inr (0, [.int dn0, .ref da0])), (da0, .inl (g 0, 96, .inl df0)), (d2, .inr (0, [.int dn2, .ref da2])), (da2, .inl (g 0, 96, .inl df2)), (d3, .inr (0, [.int dn3, .ref da3])), (da3, .inl (g 0, 96, .inl df3))]) (As := [.ref d1]) (rest := []) X K (k_X0_become l G g b1 ba1 d1 da1 bn1 bf1 dn1 df1 _ hh7) hd_X0_become ggX2_become_X0_become (by decide +kernel) (List.mem_of_getElem? (i := 3) rfl) (List.mem_of_getElem? (i := 2) rfl) (List.mem_of_getElem? (i := 4) rfl) hP hD hS hA [4, 5, 14, 15] [0, 1, 2, 3, 6, 7, 8, 9, 10, 11, 12, 13, 16, 17, 18, 19] rfl rfl ⟨by decide, by decide, by decide⟩ hl.1 dX2_become_19 rfl rfl ⟨Nat.le_of_ble_eq_true rfl, Nat.le_of_ble_eq_true rfl⟩ rfl rfl rfl (Nat.le_of_ble_eq_true rfl) ⟨Nat.zero_le _, Nat.zero_le _⟩ (fun H locs hP hD hS => ?_)
  have hP : va_P G vwCl [(s1, .inr (2, [.ref q1])), (q1, .inl (g 2, 4, .inr (.inr (.inr (.inr (vq4 b0 b1 b2 b3)))))), (b0, .inr (0, [.int y1, .ref ba0])), (ba0, .inl (g 0, 96, .inl y2)), (b1, .inr (0, [.int y5, .ref ba1])), (ba1, .inl (g 0, 96, .inl y6)), (b2, .inr (0, [.int bn2, .ref ba2])), (ba2, .inl (g 0, 96, .inl bf2)), (b3, .inr (0, [.int bn3, .ref ba3])), (ba3, .inl (g 0, 96, .inl bf3)), (s2, .inr (2, [.ref q2])), (q2, .inl (g 2, 4, .inr (.inr (.inr (.inr (vq4 d0 d1 d2 d3)))))), (d0, .inr (0, [.int dn0, .ref da0])), (da0, .inl (g 0, 96, .inl df0)), (d1, .inr (0, [.int dn1, .ref da1])), (da1, .inl (g 0, 96, .inl df1)), (d2, .inr (0, [.int dn2, .ref da2])), (da2, .inl (g 0, 96, .inl df2)), (d3, .inr (0, [.int dn3, .ref da3])), (da3, .inl (g 0, 96, .inl df3))] H := hP.sub [0, 1, 2, 3, 16, 17, 4, 5, 6, 7, 8, 9, 10, 11, 18, 19, 12, 13, 14, 15] rfl
  have hD : va_D A [(s1, .inr (2, [.ref q1])), (q1, .inl (g 2, 4, .inr (.inr (.inr (.inr (vq4 b0 b1 b2 b3)))))), (b0, .inr (0, [.int y1, .ref ba0])), (ba0, .inl (g 0, 96, .inl y2)), (b1, .inr (0, [.int y5, .ref ba1])), (ba1, .inl (g 0, 96, .inl y6)), (b2, .inr (0, [.int bn2, .ref ba2])), (ba2, .inl (g 0, 96, .inl bf2)), (b3, .inr (0, [.int bn3, .ref ba3])), (ba3, .inl (g 0, 96, .inl bf3)), (s2, .inr (2, [.ref q2])), (q2, .inl (g 2, 4, .inr (.inr (.inr (.inr (vq4 d0 d1 d2 d3)))))), (d0, .inr (0, [.int dn0, .ref da0])), (da0, .inl (g 0, 96, .inl df0)), (d1, .inr (0, [.int dn1, .ref da1])), (da1, .inl (g 0, 96, .inl df1)), (d2, .inr (0, [.int dn2, .ref da2])), (da2, .inl (g 0, 96, .inl df2)), (d3, .inr (0, [.int dn3, .ref da3])), (da3, .inl (g 0, 96, .inl df3))] := hD.sub [0, 1, 2, 3, 16, 17, 4, 5, 6, 7, 8, 9, 10, 11, 18, 19, 12, 13, 14, 15] (by decide) rfl
  refine lv_iinc (v := 2) (lv' := [(2, .int 2), (0, .ref s1), (1, .ref s2)]) hx hb dX2_become_22 hl (k := 0) rfl (by decide) (by decide) rfl (fun ls hl => ?_)
  refine lv_goto (tgt := 2) hx hb dX2_become_25 (by decide) ?_
  refine lv_iload_n hx hb dX2_become_2 rfl (lv_at hl 0 rfl) ?_
  refine lv_iconst (v := 4) hx hb dX2_become_3 (by decide) ?_
  refine lv_icmp_ge (tgt := 28) hx hb dX2_become_4 (by decide) (fun h => absurd h (by decide)) (fun _ => ?_)
  refine lv_aload_n hx hb dX2_become_7 rfl (lv_at hl 1 rfl) ?_
  refine va_get (D := G) (ci := 2) (v := .ref q1) (C := RX2) (T := TX2) (N := 1) hx hb hts in_X2_become_X2 hown K.1 hP 0 rfl rfl 0 (by decide) (hts _ (List.mem_of_getElem? (i := 1) rfl)) (fun _ h9 => h9) rfl dX2_become_8 ?_
  refine lv_iload_n hx hb dX2_become_11 rfl (lv_at hl 0 rfl) ?_
  refine va_aldq hx hb K.1 hP 1 2 rfl rfl (vp_in_iff.mpr (by decide)) dX2_become_12 ?_
  refine W.eq (g2 := F0 m 13 ls ([.ref b2])) (by rfl) ?_
  refine lv_aload_n hx hb dX2_become_13 rfl (lv_at hl 2 rfl) ?_
  refine va_get (D := G) (ci := 2) (v := .ref q2) (C := RX2) (T := TX2) (N := 1) hx hb hts in_X2_become_X2 hown K.1 hP 10 rfl rfl 0 (by decide) (hts _ (List.mem_of_getElem? (i := 1) rfl)) (fun _ h9 => h9) rfl dX2_become_14 ?_
  refine lv_iload_n hx hb dX2_become_17 rfl (lv_at hl 0 rfl) ?_
  refine va_aldq hx hb K.1 hP 11 2 rfl rfl (vp_in_iff.mpr (by decide)) dX2_become_18 ?_
  refine W.eq (g2 := F0 m 19 ls ([.ref d2, .ref b2])) (by rfl) ?_
  obtain ⟨⟨y9, y10⟩, hh11, hq⟩ := q_bd hq
  refine rwN (ci := 0) (host := RX3) (wr := [(s1, .inr (2, [.ref q1])), (q1, .inl (g 2, 4, .inr (.inr (.inr (.inr (vq4 b0 b1 b2 b3)))))), (b0, .inr (0, [.int y1, .ref ba0])), (ba0, .inl (g 0, 96, .inl y2)), (b1, .inr (0, [.int y5, .ref ba1])), (ba1, .inl (g 0, 96, .inl y6)), (b3, .inr (0, [.int bn3, .ref ba3])), (ba3, .inl (g 0, 96, .inl bf3)), (s2, .inr (2, [.ref q2])), (q2, .inl (g 2, 4, .inr (.inr (.inr (.inr (vq4 d0 d1 d2 d3)))))), (d0, .inr (0, [.int dn0, .ref da0])), (da0, .inl (g 0, 96, .inl df0)), (d1, .inr (0, [.int dn1, .ref da1])), (da1, .inl (g 0, 96, .inl df1)), (d3, .inr (0, [.int dn3, .ref da3])), (da3, .inl (g 0, 96, .inl df3))]) (As := [.ref d2]) (rest := []) X K (k_X0_become l G g b2 ba2 d2 da2 bn2 bf2 dn2 df2 _ hh11) hd_X0_become ggX2_become_X0_become (by decide +kernel) (List.mem_of_getElem? (i := 3) rfl) (List.mem_of_getElem? (i := 2) rfl) (List.mem_of_getElem? (i := 4) rfl) hP hD hS hA [6, 7, 16, 17] [0, 1, 2, 3, 4, 5, 8, 9, 10, 11, 12, 13, 14, 15, 18, 19] rfl rfl ⟨by decide, by decide, by decide⟩ hl.1 dX2_become_19 rfl rfl ⟨Nat.le_of_ble_eq_true rfl, Nat.le_of_ble_eq_true rfl⟩ rfl rfl rfl (Nat.le_of_ble_eq_true rfl) ⟨Nat.zero_le _, Nat.zero_le _⟩ (fun H locs hP hD hS => ?_)
  have hP : va_P G vwCl [(s1, .inr (2, [.ref q1])), (q1, .inl (g 2, 4, .inr (.inr (.inr (.inr (vq4 b0 b1 b2 b3)))))), (b0, .inr (0, [.int y1, .ref ba0])), (ba0, .inl (g 0, 96, .inl y2)), (b1, .inr (0, [.int y5, .ref ba1])), (ba1, .inl (g 0, 96, .inl y6)), (b2, .inr (0, [.int y9, .ref ba2])), (ba2, .inl (g 0, 96, .inl y10)), (b3, .inr (0, [.int bn3, .ref ba3])), (ba3, .inl (g 0, 96, .inl bf3)), (s2, .inr (2, [.ref q2])), (q2, .inl (g 2, 4, .inr (.inr (.inr (.inr (vq4 d0 d1 d2 d3)))))), (d0, .inr (0, [.int dn0, .ref da0])), (da0, .inl (g 0, 96, .inl df0)), (d1, .inr (0, [.int dn1, .ref da1])), (da1, .inl (g 0, 96, .inl df1)), (d2, .inr (0, [.int dn2, .ref da2])), (da2, .inl (g 0, 96, .inl df2)), (d3, .inr (0, [.int dn3, .ref da3])), (da3, .inl (g 0, 96, .inl df3))] H := hP.sub [0, 1, 2, 3, 4, 5, 16, 17, 6, 7, 8, 9, 10, 11, 12, 13, 18, 19, 14, 15] rfl
  have hD : va_D A [(s1, .inr (2, [.ref q1])), (q1, .inl (g 2, 4, .inr (.inr (.inr (.inr (vq4 b0 b1 b2 b3)))))), (b0, .inr (0, [.int y1, .ref ba0])), (ba0, .inl (g 0, 96, .inl y2)), (b1, .inr (0, [.int y5, .ref ba1])), (ba1, .inl (g 0, 96, .inl y6)), (b2, .inr (0, [.int y9, .ref ba2])), (ba2, .inl (g 0, 96, .inl y10)), (b3, .inr (0, [.int bn3, .ref ba3])), (ba3, .inl (g 0, 96, .inl bf3)), (s2, .inr (2, [.ref q2])), (q2, .inl (g 2, 4, .inr (.inr (.inr (.inr (vq4 d0 d1 d2 d3)))))), (d0, .inr (0, [.int dn0, .ref da0])), (da0, .inl (g 0, 96, .inl df0)), (d1, .inr (0, [.int dn1, .ref da1])), (da1, .inl (g 0, 96, .inl df1)), (d2, .inr (0, [.int dn2, .ref da2])), (da2, .inl (g 0, 96, .inl df2)), (d3, .inr (0, [.int dn3, .ref da3])), (da3, .inl (g 0, 96, .inl df3))] := hD.sub [0, 1, 2, 3, 4, 5, 16, 17, 6, 7, 8, 9, 10, 11, 12, 13, 18, 19, 14, 15] (by decide) rfl
  refine lv_iinc (v := 3) (lv' := [(2, .int 3), (0, .ref s1), (1, .ref s2)]) hx hb dX2_become_22 hl (k := 0) rfl (by decide) (by decide) rfl (fun ls hl => ?_)
  refine lv_goto (tgt := 2) hx hb dX2_become_25 (by decide) ?_
  refine lv_iload_n hx hb dX2_become_2 rfl (lv_at hl 0 rfl) ?_
  refine lv_iconst (v := 4) hx hb dX2_become_3 (by decide) ?_
  refine lv_icmp_ge (tgt := 28) hx hb dX2_become_4 (by decide) (fun h => absurd h (by decide)) (fun _ => ?_)
  refine lv_aload_n hx hb dX2_become_7 rfl (lv_at hl 1 rfl) ?_
  refine va_get (D := G) (ci := 2) (v := .ref q1) (C := RX2) (T := TX2) (N := 1) hx hb hts in_X2_become_X2 hown K.1 hP 0 rfl rfl 0 (by decide) (hts _ (List.mem_of_getElem? (i := 1) rfl)) (fun _ h9 => h9) rfl dX2_become_8 ?_
  refine lv_iload_n hx hb dX2_become_11 rfl (lv_at hl 0 rfl) ?_
  refine va_aldq hx hb K.1 hP 1 2 rfl rfl (vp_in_iff.mpr (by decide)) dX2_become_12 ?_
  refine W.eq (g2 := F0 m 13 ls ([.ref b3])) (by rfl) ?_
  refine lv_aload_n hx hb dX2_become_13 rfl (lv_at hl 2 rfl) ?_
  refine va_get (D := G) (ci := 2) (v := .ref q2) (C := RX2) (T := TX2) (N := 1) hx hb hts in_X2_become_X2 hown K.1 hP 10 rfl rfl 0 (by decide) (hts _ (List.mem_of_getElem? (i := 1) rfl)) (fun _ h9 => h9) rfl dX2_become_14 ?_
  refine lv_iload_n hx hb dX2_become_17 rfl (lv_at hl 0 rfl) ?_
  refine va_aldq hx hb K.1 hP 11 2 rfl rfl (vp_in_iff.mpr (by decide)) dX2_become_18 ?_
  refine W.eq (g2 := F0 m 19 ls ([.ref d3, .ref b3])) (by rfl) ?_
  obtain ⟨⟨y13, y14⟩, hh15, hq⟩ := q_bd hq
  refine rwN (ci := 0) (host := RX3) (wr := [(s1, .inr (2, [.ref q1])), (q1, .inl (g 2, 4, .inr (.inr (.inr (.inr (vq4 b0 b1 b2 b3)))))), (b0, .inr (0, [.int y1, .ref ba0])), (ba0, .inl (g 0, 96, .inl y2)), (b1, .inr (0, [.int y5, .ref ba1])), (ba1, .inl (g 0, 96, .inl y6)), (b2, .inr (0, [.int y9, .ref ba2])), (ba2, .inl (g 0, 96, .inl y10)), (s2, .inr (2, [.ref q2])), (q2, .inl (g 2, 4, .inr (.inr (.inr (.inr (vq4 d0 d1 d2 d3)))))), (d0, .inr (0, [.int dn0, .ref da0])), (da0, .inl (g 0, 96, .inl df0)), (d1, .inr (0, [.int dn1, .ref da1])), (da1, .inl (g 0, 96, .inl df1)), (d2, .inr (0, [.int dn2, .ref da2])), (da2, .inl (g 0, 96, .inl df2))]) (As := [.ref d3]) (rest := []) X K (k_X0_become l G g b3 ba3 d3 da3 bn3 bf3 dn3 df3 _ hh15) hd_X0_become ggX2_become_X0_become (by decide +kernel) (List.mem_of_getElem? (i := 3) rfl) (List.mem_of_getElem? (i := 2) rfl) (List.mem_of_getElem? (i := 4) rfl) hP hD hS hA [8, 9, 18, 19] [0, 1, 2, 3, 4, 5, 6, 7, 10, 11, 12, 13, 14, 15, 16, 17] rfl rfl ⟨by decide, by decide, by decide⟩ hl.1 dX2_become_19 rfl rfl ⟨Nat.le_of_ble_eq_true rfl, Nat.le_of_ble_eq_true rfl⟩ rfl rfl rfl (Nat.le_of_ble_eq_true rfl) ⟨Nat.zero_le _, Nat.zero_le _⟩ (fun H locs hP hD hS => ?_)
  have hP : va_P G vwCl [(s1, .inr (2, [.ref q1])), (q1, .inl (g 2, 4, .inr (.inr (.inr (.inr (vq4 b0 b1 b2 b3)))))), (b0, .inr (0, [.int y1, .ref ba0])), (ba0, .inl (g 0, 96, .inl y2)), (b1, .inr (0, [.int y5, .ref ba1])), (ba1, .inl (g 0, 96, .inl y6)), (b2, .inr (0, [.int y9, .ref ba2])), (ba2, .inl (g 0, 96, .inl y10)), (b3, .inr (0, [.int y13, .ref ba3])), (ba3, .inl (g 0, 96, .inl y14)), (s2, .inr (2, [.ref q2])), (q2, .inl (g 2, 4, .inr (.inr (.inr (.inr (vq4 d0 d1 d2 d3)))))), (d0, .inr (0, [.int dn0, .ref da0])), (da0, .inl (g 0, 96, .inl df0)), (d1, .inr (0, [.int dn1, .ref da1])), (da1, .inl (g 0, 96, .inl df1)), (d2, .inr (0, [.int dn2, .ref da2])), (da2, .inl (g 0, 96, .inl df2)), (d3, .inr (0, [.int dn3, .ref da3])), (da3, .inl (g 0, 96, .inl df3))] H := hP.sub [0, 1, 2, 3, 4, 5, 6, 7, 16, 17, 8, 9, 10, 11, 12, 13, 14, 15, 18, 19] rfl
  have hD : va_D A [(s1, .inr (2, [.ref q1])), (q1, .inl (g 2, 4, .inr (.inr (.inr (.inr (vq4 b0 b1 b2 b3)))))), (b0, .inr (0, [.int y1, .ref ba0])), (ba0, .inl (g 0, 96, .inl y2)), (b1, .inr (0, [.int y5, .ref ba1])), (ba1, .inl (g 0, 96, .inl y6)), (b2, .inr (0, [.int y9, .ref ba2])), (ba2, .inl (g 0, 96, .inl y10)), (b3, .inr (0, [.int y13, .ref ba3])), (ba3, .inl (g 0, 96, .inl y14)), (s2, .inr (2, [.ref q2])), (q2, .inl (g 2, 4, .inr (.inr (.inr (.inr (vq4 d0 d1 d2 d3)))))), (d0, .inr (0, [.int dn0, .ref da0])), (da0, .inl (g 0, 96, .inl df0)), (d1, .inr (0, [.int dn1, .ref da1])), (da1, .inl (g 0, 96, .inl df1)), (d2, .inr (0, [.int dn2, .ref da2])), (da2, .inl (g 0, 96, .inl df2)), (d3, .inr (0, [.int dn3, .ref da3])), (da3, .inl (g 0, 96, .inl df3))] := hD.sub [0, 1, 2, 3, 4, 5, 6, 7, 16, 17, 8, 9, 10, 11, 12, 13, 14, 15, 18, 19] (by decide) rfl
  refine lv_iinc (v := 4) (lv' := [(2, .int 4), (0, .ref s1), (1, .ref s2)]) hx hb dX2_become_22 hl (k := 0) rfl (by decide) (by decide) rfl (fun ls hl => ?_)
  refine lv_goto (tgt := 2) hx hb dX2_become_25 (by decide) ?_
  refine lv_iload_n hx hb dX2_become_2 rfl (lv_at hl 0 rfl) ?_
  refine lv_iconst (v := 4) hx hb dX2_become_3 (by decide) ?_
  refine lv_icmp_ge (tgt := 28) hx hb dX2_become_4 (by decide) (fun _ => ?_) (fun h => absurd (by decide) h)
  obtain rfl := q_rt hq
  exact rw_vret hx hb hr hk hP hD hS dX2_become_28

def F_X3_aboutKey (cn : Int32) (cf : Nat → Int32) (p2 : Int32) (p3 : Int32) : Option (Int32) := if p3 = 5 then ((F_X0_tangentOf cn cf p2).bind fun r2 => some (r2)) else (if p3 = 6 then ((F_X0_cell cn cf p2 5).bind fun r5 => some (r5)) else ((F_X0_cell cn cf p2 p3).bind fun r7 => some (r7)))
set_option maxHeartbeats 4000000 in
set_option maxRecDepth 100000 in
theorem k_X3_aboutKey (l : Launch) (G : va_G) (g : Nat → ClassId) (h1 a1 : Nat) (cn : Int32) (cf : Nat → Int32) (p2 : Int32) (p3 : Int32) (res : Int32) (hq : F_X3_aboutKey cn cf p2 p3 = some res) : roC l yX3_aboutKey wsX3_aboutKey (rmF 2 47) G g [.ref h1, .int p2, .int p3] [(h1, .inr (0, [.int cn, .ref a1])), (a1, .inl (g 0, 96, .inl cf))] (some (.int res)) := by
  refine roC.of (cc := cX3_aboutKey) (maxL := 3) (ret := (some .int)) (by decide) rfl (Nat.le_of_ble_eq_true rfl) ?_
  intro p e s m below meth c ls X K hP hl
  obtain ⟨hx, hb, hml, hr, hown, hts, hk⟩ := id X
  have hl : lv_has ls 3 [(0, .ref h1), (1, .int p2), (2, .int p3)] := hl
  unfold F_X3_aboutKey at hq
  refine lv_iload_n hx hb dX3_aboutKey_0 rfl (lv_at hl 2 rfl) ?_
  refine sw_c (x := p3) (k := 5) (fun c1 => ?_) (fun c1 => ?_)
  · have hq := q_if_t hq c1
    refine lv_lookup (off := 27) (tgt := 28) hx hb dX3_aboutKey_1 (by decide) (by rw [c1]; decide) (by decide) ?_
    refine lv_aload_n hx hb dX3_aboutKey_28 rfl (lv_at hl 0 rfl) ?_
    refine lv_iload_n hx hb dX3_aboutKey_29 rfl (lv_at hl 1 rfl) ?_
    obtain ⟨r2, hh3, hq⟩ := q_bd hq
    refine roN (ci := 0) (host := RX3) (As := [.int p2]) (rest := []) X K (k_X0_tangentOf l G g h1 a1 cn cf p2 _ hh3) hd_X0_tangentOf ggX3_aboutKey_X0_tangentOf (by decide +kernel) (List.mem_of_getElem? (i := 2) rfl) (List.mem_of_getElem? (i := 1) rfl) (List.mem_of_getElem? (i := 3) rfl) hP hl.1 dX3_aboutKey_30 rfl rfl ⟨Nat.le_of_ble_eq_true rfl, Nat.le_of_ble_eq_true rfl⟩ rfl rfl rfl (Nat.le_of_ble_eq_true rfl) ⟨Nat.zero_le _, Nat.zero_le _⟩ ?_
    obtain rfl := q_rt hq
    exact ro_iret hx hb hr hk dX3_aboutKey_33
  have hq := q_if_f hq c1
  refine sw_c (x := p3) (k := 6) (fun c4 => ?_) (fun c4 => ?_)
  · have hq := q_if_t hq c4
    refine lv_lookup (off := 33) (tgt := 34) hx hb dX3_aboutKey_1 (by decide) (by rw [c4]; decide) (by decide) ?_
    refine lv_aload_n hx hb dX3_aboutKey_34 rfl (lv_at hl 0 rfl) ?_
    refine lv_iload_n hx hb dX3_aboutKey_35 rfl (lv_at hl 1 rfl) ?_
    refine lv_iconst (v := 5) hx hb dX3_aboutKey_36 (by decide) ?_
    obtain ⟨r5, hh6, hq⟩ := q_bd hq
    refine roN (ci := 0) (host := RX3) (As := [.int p2, .int 5]) (rest := []) X K (k_X0_cell l G g h1 a1 cn cf p2 5 _ hh6) hd_X0_cell ggX3_aboutKey_X0_cell (by decide +kernel) (List.mem_of_getElem? (i := 2) rfl) (List.mem_of_getElem? (i := 7) rfl) (List.mem_of_getElem? (i := 8) rfl) hP hl.1 dX3_aboutKey_37 rfl rfl ⟨Nat.le_of_ble_eq_true rfl, Nat.le_of_ble_eq_true rfl⟩ rfl rfl rfl (Nat.le_of_ble_eq_true rfl) ⟨Nat.zero_le _, Nat.zero_le _⟩ ?_
    obtain rfl := q_rt hq
    exact ro_iret hx hb hr hk dX3_aboutKey_40
  have hq := q_if_f hq c4
  refine lv_lookup (off := 40) (tgt := 41) hx hb dX3_aboutKey_1 (by decide) ((lv_osw c1 rfl).trans ((lv_osw c4 rfl).trans rfl)) (by decide) ?_
  refine lv_aload_n hx hb dX3_aboutKey_41 rfl (lv_at hl 0 rfl) ?_
  refine lv_iload_n hx hb dX3_aboutKey_42 rfl (lv_at hl 1 rfl) ?_
  refine lv_iload_n hx hb dX3_aboutKey_43 rfl (lv_at hl 2 rfl) ?_
  obtain ⟨r7, hh8, hq⟩ := q_bd hq
  refine roN (ci := 0) (host := RX3) (As := [.int p2, .int p3]) (rest := []) X K (k_X0_cell l G g h1 a1 cn cf p2 p3 _ hh8) hd_X0_cell ggX3_aboutKey_X0_cell (by decide +kernel) (List.mem_of_getElem? (i := 2) rfl) (List.mem_of_getElem? (i := 7) rfl) (List.mem_of_getElem? (i := 8) rfl) hP hl.1 dX3_aboutKey_44 rfl rfl ⟨Nat.le_of_ble_eq_true rfl, Nat.le_of_ble_eq_true rfl⟩ rfl rfl rfl (Nat.le_of_ble_eq_true rfl) ⟨Nat.zero_le _, Nat.zero_le _⟩ ?_
  obtain rfl := q_rt hq
  exact ro_iret hx hb hr hk dX3_aboutKey_47
def F_X3_requireRange (p1 : Int32) (p2 : Int32) (p3 : Int32) : Option (Sum Nat (Unit)) := if p1 < p2 then (some (.inl 2)) else (if p1 ≤ p3 then (some (.inr ())) else (some (.inl 2)))
set_option maxHeartbeats 4000000 in
set_option maxRecDepth 100000 in
theorem k_X3_requireRange (l : Launch) (G : va_G) (g : Nat → ClassId) (p1 : Int32) (p2 : Int32) (p3 : Int32) (res : Unit) (hq : F_X3_requireRange p1 p2 p3 = some (.inr res)) : roC l yX3_requireRange wsX3_requireRange (rmF 0 0) G g [.int p1, .int p2, .int p3] [] none := by
  refine roC.of (cc := cX3_requireRange) (maxL := 3) (ret := none) (by decide) rfl (Nat.le_of_ble_eq_true rfl) ?_
  intro p e s m below meth c ls X K hP hl
  obtain ⟨hx, hb, hml, hr, hown, hts, hk⟩ := id X
  have hl : lv_has ls 3 [(0, .int p1), (1, .int p2), (2, .int p3)] := hl
  unfold F_X3_requireRange at hq
  refine lv_iload_n hx hb dX3_requireRange_0 rfl (lv_at hl 0 rfl) ?_
  refine lv_iload_n hx hb dX3_requireRange_1 rfl (lv_at hl 1 rfl) ?_
  refine lv_icmp_lt (tgt := 10) hx hb dX3_requireRange_2 (by decide) (fun c1 => ?_) (fun c1 => ?_)
  · have hq := q_if_t hq c1
    exact q_lr hq
  · have hq := q_if_f hq c1
    refine lv_iload_n hx hb dX3_requireRange_5 rfl (lv_at hl 0 rfl) ?_
    refine lv_iload_n hx hb dX3_requireRange_6 rfl (lv_at hl 2 rfl) ?_
    refine lv_icmp_le (tgt := 20) hx hb dX3_requireRange_7 (by decide) (fun c2 => ?_) (fun c2 => ?_)
    · have hq := q_if_t hq c2
      obtain rfl := q_ri hq
      exact ro_vret hx hb hr hk dX3_requireRange_20
    · have hq := q_if_f hq c2
      exact q_lr hq
theorem hd_X3_requireRange : ynm yX3_requireRange 3 := by unfold ynm; decide +kernel
def F_X3_requireSpan (p1 : Int32) (p2 : Int32) : Option (Sum Nat (Unit)) := thr (F_X3_requireRange p1 0 998) fun _u => thr (F_X3_requireRange p2 (p1 + 1) 999) fun _u => some (.inr ())
set_option maxHeartbeats 4000000 in
set_option maxRecDepth 100000 in
theorem k_X3_requireSpan (l : Launch) (G : va_G) (g : Nat → ClassId) (p1 : Int32) (p2 : Int32) (res : Unit) (hq : F_X3_requireSpan p1 p2 = some (.inr res)) : roC l yX3_requireSpan wsX3_requireSpan (rmF 1 22) G g [.int p1, .int p2] [] none := by
  refine roC.of (cc := cX3_requireSpan) (maxL := 2) (ret := none) (by decide) rfl (Nat.le_of_ble_eq_true rfl) ?_
  intro p e s m below meth c ls X K hP hl
  obtain ⟨hx, hb, hml, hr, hown, hts, hk⟩ := id X
  have hl : lv_has ls 2 [(0, .int p1), (1, .int p2)] := hl
  unfold F_X3_requireSpan at hq
  refine lv_iload_n hx hb dX3_requireSpan_0 rfl (lv_at hl 0 rfl) ?_
  refine lv_iconst (v := 0) hx hb dX3_requireSpan_1 (by decide) ?_
  refine lv_sipush (v := 998) hx hb dX3_requireSpan_2 (by decide) ?_
  obtain ⟨_, hh1, hq⟩ := q_th hq
  refine roS (As := [.int p1, .int 0, .int 998]) (rest := []) X K (k_X3_requireRange l G g p1 0 998 _ hh1) hd_X3_requireRange gX3_requireSpan_X3_requireRange hP hl.1 dX3_requireSpan_5 rfl rfl ⟨Nat.le_of_ble_eq_true rfl, Nat.le_of_ble_eq_true rfl⟩ rfl (Nat.le_of_ble_eq_true rfl) ⟨Nat.zero_le _, Nat.zero_le _⟩ ?_
  refine lv_iload_n hx hb dX3_requireSpan_8 rfl (lv_at hl 1 rfl) ?_
  refine lv_iload_n hx hb dX3_requireSpan_9 rfl (lv_at hl 0 rfl) ?_
  refine lv_iconst (v := 1) hx hb dX3_requireSpan_10 (by decide) ?_
  refine lv_iadd hx hb dX3_requireSpan_11 ?_
  refine lv_sipush (v := 999) hx hb dX3_requireSpan_12 (by decide) ?_
  obtain ⟨_, hh2, hq⟩ := q_th hq
  refine roS (As := [.int p2, .int (p1 + 1), .int 999]) (rest := []) X K (k_X3_requireRange l G g p2 (p1 + 1) 999 _ hh2) hd_X3_requireRange gX3_requireSpan_X3_requireRange hP hl.1 dX3_requireSpan_15 rfl rfl ⟨Nat.le_of_ble_eq_true rfl, Nat.le_of_ble_eq_true rfl⟩ rfl (Nat.le_of_ble_eq_true rfl) ⟨Nat.zero_le _, Nat.zero_le _⟩ ?_
  obtain rfl := q_ri hq
  exact ro_vret hx hb hr hk dX3_requireSpan_18
theorem in_X3_requireKey_X0 : ∀ w ∈ wsX00, w ∈ wsX3_requireKey := fun _ h => List.mem_cons_of_mem _ (List.mem_append_left _ (List.mem_append_right _ h))
def F_X3_requireKey (cn : Int32) (p2 : Int32) : Option (Sum Nat (Unit)) := if p2 < 0 then (some (.inl 1)) else (if p2 < cn then (some (.inr ())) else (some (.inl 1)))
set_option maxHeartbeats 4000000 in
set_option maxRecDepth 100000 in
theorem k_X3_requireKey (l : Launch) (G : va_G) (g : Nat → ClassId) (h1 a1 : Nat) (cn : Int32) (cf : Nat → Int32) (p2 : Int32) (res : Unit) (hq : F_X3_requireKey cn p2 = some (.inr res)) : roC l yX3_requireKey wsX3_requireKey (rmF 0 0) G g [.ref h1, .int p2] [(h1, .inr (0, [.int cn, .ref a1])), (a1, .inl (g 0, 96, .inl cf))] none := by
  refine roC.of (cc := cX3_requireKey) (maxL := 2) (ret := none) (by decide) rfl (Nat.le_of_ble_eq_true rfl) ?_
  intro p e s m below meth c ls X K hP hl
  obtain ⟨hx, hb, hml, hr, hown, hts, hk⟩ := id X
  have hl : lv_has ls 2 [(0, .ref h1), (1, .int p2)] := hl
  unfold F_X3_requireKey at hq
  refine lv_iload_n hx hb dX3_requireKey_0 rfl (lv_at hl 1 rfl) ?_
  refine lv_if_lt (tgt := 12) hx hb dX3_requireKey_1 (by decide) (fun c1 => ?_) (fun c1 => ?_)
  · have hq := q_if_t hq c1
    exact q_lr hq
  · have hq := q_if_f hq c1
    refine lv_iload_n hx hb dX3_requireKey_4 rfl (lv_at hl 1 rfl) ?_
    refine lv_aload_n hx hb dX3_requireKey_5 rfl (lv_at hl 0 rfl) ?_
    refine va_getN (D := G) (ci := 0) (v := .int cn) (C := RX0) (T := TX0) (N := 2) (host := RX3) hx hb hts in_X3_requireKey_X0 hown K.1 hP 0 rfl rfl 0 (by decide) ((K.2.2 (RX3, 53, RX0, "count", "I", RX3) (by decide +kernel)).use rfl) (fun _ h9 => h9) rfl dX3_requireKey_6 ?_
    refine lv_icmp_lt (tgt := 22) hx hb dX3_requireKey_9 (by decide) (fun c2 => ?_) (fun c2 => ?_)
    · have hq := q_if_t hq c2
      obtain rfl := q_ri hq
      exact ro_vret hx hb hr hk dX3_requireKey_22
    · have hq := q_if_f hq c2
      exact q_lr hq
def F_X3_requireUnlocked (cn : Int32) (cf : Nat → Int32) (p2 : Int32) : Option (Sum Nat (Unit)) := (F_X0_isLocked cn cf p2).bind fun r1 => if r1 = 0 then (some (.inr ())) else (some (.inl 3))
set_option maxHeartbeats 4000000 in
set_option maxRecDepth 100000 in
theorem k_X3_requireUnlocked (l : Launch) (G : va_G) (g : Nat → ClassId) (h1 a1 : Nat) (cn : Int32) (cf : Nat → Int32) (p2 : Int32) (res : Unit) (hq : F_X3_requireUnlocked cn cf p2 = some (.inr res)) : roC l yX3_requireUnlocked wsX3_requireUnlocked (rmF 2 43) G g [.ref h1, .int p2] [(h1, .inr (0, [.int cn, .ref a1])), (a1, .inl (g 0, 96, .inl cf))] none := by
  refine roC.of (cc := cX3_requireUnlocked) (maxL := 2) (ret := none) (by decide) rfl (Nat.le_of_ble_eq_true rfl) ?_
  intro p e s m below meth c ls X K hP hl
  obtain ⟨hx, hb, hml, hr, hown, hts, hk⟩ := id X
  have hl : lv_has ls 2 [(0, .ref h1), (1, .int p2)] := hl
  unfold F_X3_requireUnlocked at hq
  refine lv_aload_n hx hb dX3_requireUnlocked_0 rfl (lv_at hl 0 rfl) ?_
  refine lv_iload_n hx hb dX3_requireUnlocked_1 rfl (lv_at hl 1 rfl) ?_
  obtain ⟨r1, hh2, hq⟩ := q_bd hq
  refine roN (ci := 0) (host := RX3) (As := [.int p2]) (rest := []) X K (k_X0_isLocked l G g h1 a1 cn cf p2 _ hh2) hd_X0_isLocked ggX3_requireUnlocked_X0_isLocked (by decide +kernel) (List.mem_of_getElem? (i := 4) rfl) (List.mem_of_getElem? (i := 3) rfl) (List.mem_of_getElem? (i := 5) rfl) hP hl.1 dX3_requireUnlocked_2 rfl rfl ⟨Nat.le_of_ble_eq_true rfl, Nat.le_of_ble_eq_true rfl⟩ rfl rfl rfl (Nat.le_of_ble_eq_true rfl) ⟨Nat.zero_le _, Nat.zero_le _⟩ ?_
  refine lv_if_eq (tgt := 18) hx hb dX3_requireUnlocked_5 (by decide) (fun c3 => ?_) (fun c3 => ?_)
  · have hq := q_if_t hq c3
    obtain rfl := q_ri hq
    exact ro_vret hx hb hr hk dX3_requireUnlocked_18
  · have hq := q_if_f hq c3
    exact q_lr hq
theorem hd_X0_hasLock : ynm yX0_hasLock 0 := by unfold ynm; decide +kernel
def F_X3_requireNoLock (cn : Int32) (cf : Nat → Int32) : Option (Sum Nat (Unit)) := (F_X0_hasLock cn cf).bind fun r1 => if r1 = 0 then (some (.inr ())) else (some (.inl 3))
set_option maxHeartbeats 4000000 in
set_option maxRecDepth 100000 in
theorem k_X3_requireNoLock (l : Launch) (G : va_G) (g : Nat → ClassId) (h1 a1 : Nat) (cn : Int32) (cf : Nat → Int32) (res : Unit) (hq : F_X3_requireNoLock cn cf = some (.inr res)) : roC l yX3_requireNoLock wsX3_requireNoLock (rmF 3 64) G g [.ref h1] [(h1, .inr (0, [.int cn, .ref a1])), (a1, .inl (g 0, 96, .inl cf))] none := by
  refine roC.of (cc := cX3_requireNoLock) (maxL := 1) (ret := none) (by decide) rfl (Nat.le_of_ble_eq_true rfl) ?_
  intro p e s m below meth c ls X K hP hl
  obtain ⟨hx, hb, hml, hr, hown, hts, hk⟩ := id X
  have hl : lv_has ls 1 [(0, .ref h1)] := hl
  unfold F_X3_requireNoLock at hq
  refine lv_aload_n hx hb dX3_requireNoLock_0 rfl (lv_at hl 0 rfl) ?_
  obtain ⟨r1, hh2, hq⟩ := q_bd hq
  refine roN (ci := 0) (host := RX3) (As := []) (rest := []) X K (k_X0_hasLock l G g h1 a1 cn cf _ hh2) hd_X0_hasLock ggX3_requireNoLock_X0_hasLock (by decide +kernel) (List.mem_of_getElem? (i := 4) rfl) (List.mem_of_getElem? (i := 3) rfl) (List.mem_of_getElem? (i := 5) rfl) hP hl.1 dX3_requireNoLock_1 rfl rfl ⟨Nat.le_of_ble_eq_true rfl, Nat.le_of_ble_eq_true rfl⟩ rfl rfl rfl (Nat.le_of_ble_eq_true rfl) ⟨Nat.zero_le _, Nat.zero_le _⟩ ?_
  refine lv_if_eq (tgt := 17) hx hb dX3_requireNoLock_4 (by decide) (fun c3 => ?_) (fun c3 => ?_)
  · have hq := q_if_t hq c3
    obtain rfl := q_ri hq
    exact ro_vret hx hb hr hk dX3_requireNoLock_17
  · have hq := q_if_f hq c3
    exact q_lr hq

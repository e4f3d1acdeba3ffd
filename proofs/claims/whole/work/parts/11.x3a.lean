def F_X3_aboutKey (cn : Int32) (cf : Nat → Int32) (p2 : Int32) (p3 : Int32) : Option (Int32) := if p3 = 5 then ((F_X0_tangentOf cn cf p2).bind fun r2 => some (r2)) else (if p3 = 6 then ((F_X0_cell cn cf p2 5).bind fun r5 => some (r5)) else ((F_X0_cell cn cf p2 p3).bind fun r7 => some (r7)))
set_option maxHeartbeats 4000000 in
set_option maxRecDepth 100000 in
theorem k_X3_aboutKey (l : Launch) (G : va_G) (g : Nat → ClassId) (h1 a1 : Nat) (cn : Int32) (cf : Nat → Int32) (p2 : Int32) (p3 : Int32) (res : Int32) (hq : F_X3_aboutKey cn cf p2 p3 = some res) : roC l yX3_aboutKey wsX3_aboutKey (rmF 2 47) G g [.ref h1, .int p2, .int p3] [(h1, .inr (0, [.int cn, .ref a1])), (a1, .inl (g 0, 96, .inl cf))] (some (.int res)) := by
  refine roC.of (cc := cX3_aboutKey) (maxL := 3) (ret := (some .int)) (by decide) rfl (Nat.le_of_ble_eq_true rfl) ?_
  intro p e s m below meth c ls X K hP hl
  obtain ⟨hx, hb, hml, hr, hown, hts, hk⟩ := id X
  have hl : lv_has ls 3 [(0, .ref h1), (1, .int p2), (2, .int p3)] := hl
  unfold F_X3_aboutKey at hq
  refine lv_iload_n hx hb dX3_aboutKey_0 rfl (lv_at hl 2 rfl) ?_
  refine sw_c (x := p3) (k := 5) (fun c1 => ?_) (fun c1 => ?_)
  · have hq := q_if_t hq c1
    refine lv_lookup (off := 27) (tgt := 28) hx hb dX3_aboutKey_1 (by decide) (by rw [c1]; decide) (by decide) ?_
    refine lv_aload_n hx hb dX3_aboutKey_28 rfl (lv_at hl 0 rfl) ?_
    refine lv_iload_n hx hb dX3_aboutKey_29 rfl (lv_at hl 1 rfl) ?_
    obtain ⟨r2, hh3, hq⟩ := q_bd hq
    refine roN (ci := 0) (host := RX3) (As := [.int p2]) (rest := []) X K (k_X0_tangentOf l G g h1 a1 cn cf p2 _ hh3) hd_X0_tangentOf ggX3_aboutKey_X0_tangentOf (by decide +kernel) (List.mem_of_getElem? (i := 2) rfl) (List.mem_of_getElem? (i := 1) rfl) (List.mem_of_getElem? (i := 3) rfl) hP hl.1 dX3_aboutKey_30 rfl rfl ⟨Nat.le_of_ble_eq_true rfl, Nat.le_of_ble_eq_true rfl⟩ rfl rfl rfl (Nat.le_of_ble_eq_true rfl) ⟨Nat.zero_le _, Nat.zero_le _⟩ ?_
    obtain rfl := q_rt hq
    exact ro_iret hx hb hr hk dX3_aboutKey_33
  have hq := q_if_f hq c1
  refine sw_c (x := p3) (k := 6) (fun c4 => ?_) (fun c4 => ?_)
  · have hq := q_if_t hq c4
    refine lv_lookup (off := 33) (tgt := 34) hx hb dX3_aboutKey_1 (by decide) (by rw [c4]; decide) (by decide) ?_
    refine lv_aload_n hx hb dX3_aboutKey_34 rfl (lv_at hl 0 rfl) ?_
    refine lv_iload_n hx hb dX3_aboutKey_35 rfl (lv_at hl 1 rfl) ?_
    refine lv_iconst (v := 5) hx hb dX3_aboutKey_36 (by decide) ?_
    obtain ⟨r5, hh6, hq⟩ := q_bd hq
    refine roN (ci := 0) (host := RX3) (As := [.int p2, .int 5]) (rest := []) X K (k_X0_cell l G g h1 a1 cn cf p2 5 _ hh6) hd_X0_cell ggX3_aboutKey_X0_cell (by decide +kernel) (List.mem_of_getElem? (i := 2) rfl) (List.mem_of_getElem? (i := 7) rfl) (List.mem_of_getElem? (i := 8) rfl) hP hl.1 dX3_aboutKey_37 rfl rfl ⟨Nat.le_of_ble_eq_true rfl, Nat.le_of_ble_eq_true rfl⟩ rfl rfl rfl (Nat.le_of_ble_eq_true rfl) ⟨Nat.zero_le _, Nat.zero_le _⟩ ?_
    obtain rfl := q_rt hq
    exact ro_iret hx hb hr hk dX3_aboutKey_40
  have hq := q_if_f hq c4
  refine lv_lookup (off := 40) (tgt := 41) hx hb dX3_aboutKey_1 (by decide) ((lv_osw c1 rfl).trans ((lv_osw c4 rfl).trans rfl)) (by decide) ?_
  refine lv_aload_n hx hb dX3_aboutKey_41 rfl (lv_at hl 0 rfl) ?_
  refine lv_iload_n hx hb dX3_aboutKey_42 rfl (lv_at hl 1 rfl) ?_
  refine lv_iload_n hx hb dX3_aboutKey_43 rfl (lv_at hl 2 rfl) ?_
  obtain ⟨r7, hh8, hq⟩ := q_bd hq
  refine roN (ci := 0) (host := RX3) (As := [.int p2, .int p3]) (rest := []) X K (k_X0_cell l G g h1 a1 cn cf p2 p3 _ hh8) hd_X0_cell ggX3_aboutKey_X0_cell (by decide +kernel) (List.mem_of_getElem? (i := 2) rfl) (List.mem_of_getElem? (i := 7) rfl) (List.mem_of_getElem? (i := 8) rfl) hP hl.1 dX3_aboutKey_44 rfl rfl ⟨Nat.le_of_ble_eq_true rfl, Nat.le_of_ble_eq_true rfl⟩ rfl rfl rfl (Nat.le_of_ble_eq_true rfl) ⟨Nat.zero_le _, Nat.zero_le _⟩ ?_
  obtain rfl := q_rt hq
  exact ro_iret hx hb hr hk dX3_aboutKey_47
theorem hd_X0_valueAt : ynm yX0_valueAt 1 := by unfold ynm; decide +kernel
theorem hd_X3_aboutKey : ynm yX3_aboutKey 3 := by unfold ynm; decide +kernel
theorem in_X3_digestOfCurve_X0 : ∀ w ∈ wsX00, w ∈ wsX3_digestOfCurve := fun _ h => List.mem_cons_of_mem _ (List.mem_append_right _ h)
def F_X3_digestOfCurve_65 (cn : Int32) (cf : Nat → Int32) : Nat → Int64 → Int32 → Option (Int64)
  | 0, _, _ => none
  | n + 1, v1, v2 => if (1000 : Int32) ≤ v2 then (some (v1)) else ((F_X0_valueAt cn cf v2).bind fun r4 => vlet (((31 : Int64) * v1) + (r4.toInt64)) fun x6 => vlet ((v2 : Int32) + 37) fun x7 => F_X3_digestOfCurve_65 cn cf n x6 x7)
set_option maxHeartbeats 4000000 in
set_option maxRecDepth 100000 in
theorem w_X3_digestOfCurve_65 {p : Program} {l : Launch} {e : Env} {s : State} {m : MethodId} {args : Array Value} {below : List Frame} {meth : Method} {c : Code} {G : va_G} {g : Nat → ClassId} (X : cx p s m args meth c cX3_digestOfCurve 7 (some .long) RX3 wsX3_digestOfCurve) (K : amb G g s) (h1 a1 : Nat) (cn : Int32) (cf : Nat → Int32) (hP : va_P G vwCl [(h1, .inr (0, [.int cn, .ref a1])), (a1, .inl (g 0, 96, .inl cf))] s.heap) (res : Int64) : ∀ (n : Nat) (v1 : Int64) (v2 : Int32), F_X3_digestOfCurve_65 cn cf n v1 v2 = some res → ∀ (ls : Array Slot), lv_has ls 7 [(2, .ref h1), (3, .long v1), (5, .int v2)] → W p l e (rmF 4 101) s m args below meth c s.heap [] 0 0 (roM below (some (.long res)) args s) (F0 m 65 ls []) := by
  obtain ⟨hx, hb, hml, hr, hown, hts, hk⟩ := id X
  intro n
  induction n with
  | zero => intro v1 v2 hq; exact q_no hq
  | succ n ih =>
    intro v1 v2 hq ls hl
    rw [F_X3_digestOfCurve_65] at hq
    refine lv_iload hx hb dX3_digestOfCurve_65 (lv_at hl 2 rfl) ?_
    refine lv_sipush (v := 1000) hx hb dX3_digestOfCurve_67 (by decide) ?_
    refine lv_icmp_ge (tgt := 93) hx hb dX3_digestOfCurve_70 (by decide) (fun c3 => ?_) (fun c3 => ?_)
    · have hq := q_if_t hq c3
      refine lv_lload_n hx hb dX3_digestOfCurve_93 rfl (lv_at hl 1 rfl) ?_
      obtain rfl := q_rt hq
      exact ro_lret hx hb hr hk dX3_digestOfCurve_94
    · have hq := q_if_f hq c3
      refine lv_ldc2 (v := 31) hx hb hown (hts _ (List.mem_of_getElem? (i := 1) rfl)) dX3_digestOfCurve_73 ?_
      refine lv_lload_n hx hb dX3_digestOfCurve_76 rfl (lv_at hl 1 rfl) ?_
      refine lv_lmul hx hb dX3_digestOfCurve_77 ?_
      refine lv_aload_n hx hb dX3_digestOfCurve_78 rfl (lv_at hl 0 rfl) ?_
      refine lv_iload hx hb dX3_digestOfCurve_79 (lv_at hl 2 rfl) ?_
      obtain ⟨r4, hh5, hq⟩ := q_bd hq
      refine roN (ci := 0) (host := RX3) (As := [.int v2]) (rest := [.long ((31 : Int64) * v1)]) X K (k_X0_valueAt l G g h1 a1 cn cf v2 _ hh5) hd_X0_valueAt ggX3_digestOfCurve_X0_valueAt (by decide +kernel) (List.mem_of_getElem? (i := 7) rfl) (List.mem_of_getElem? (i := 19) rfl) (List.mem_of_getElem? (i := 20) rfl) hP hl.1 dX3_digestOfCurve_81 rfl rfl ⟨Nat.le_of_ble_eq_true rfl, Nat.le_of_ble_eq_true rfl⟩ rfl rfl rfl (Nat.le_of_ble_eq_true rfl) ⟨Nat.zero_le _, Nat.zero_le _⟩ ?_
      refine lv_i2l (v := r4.toInt64) hx hb dX3_digestOfCurve_84 rfl ?_
      refine lv_ladd hx hb dX3_digestOfCurve_85 ?_
      refine lv_topl (fun x6 ex6 => ?_)
      have hq := q_let hq ex6
      refine lv_lstore_n (lv' := [(3, .long x6), (2, .ref h1), (5, .int v2)]) hx hb dX3_digestOfCurve_86 rfl hl (by decide) rfl (fun ls hl => ?_)
      obtain ⟨x7, ex7⟩ : ∃ y : Int32, y = (v2 : Int32) + 37 := ⟨_, rfl⟩
      have hq := q_let hq ex7
      refine lv_iinc (v := x7) (lv' := [(5, .int x7), (3, .long x6), (2, .ref h1)]) hx hb dX3_digestOfCurve_87 hl (k := 2) rfl (by rw [ex7]; rfl) (by decide) rfl (fun ls hl => ?_)
      refine lv_goto (tgt := 65) hx hb dX3_digestOfCurve_90 (by decide) ?_
      exact ih x6 x7 hq ls (lv_sub hl [2, 1, 0] rfl)
def F_X3_digestOfCurve_27 (cn : Int32) (cf : Nat → Int32) (v2 : Int32) : Nat → Int64 → Int32 → Option (Int64)
  | 0, _, _ => none
  | n + 1, v1, v3 => if (6 : Int32) < v3 then (some v1) else ((F_X3_aboutKey cn cf v2 v3).bind fun r5 => vlet (((31 : Int64) * v1) + (r5.toInt64)) fun x7 => vlet ((v3 : Int32) + 1) fun x8 => F_X3_digestOfCurve_27 cn cf v2 n x7 x8)
set_option maxHeartbeats 4000000 in
set_option maxRecDepth 100000 in
theorem w_X3_digestOfCurve_27 {p : Program} {l : Launch} {e : Env} {s : State} {m : MethodId} {args : Array Value} {below : List Frame} {meth : Method} {c : Code} {G : va_G} {g : Nat → ClassId} (X : cx p s m args meth c cX3_digestOfCurve 7 (some .long) RX3 wsX3_digestOfCurve) (K : amb G g s) (h1 a1 : Nat) (cn : Int32) (cf : Nat → Int32) (v2 : Int32) (hP : va_P G vwCl [(h1, .inr (0, [.int cn, .ref a1])), (a1, .inl (g 0, 96, .inl cf))] s.heap) (res : Int64) {Q : State → Prop} (kk : ∀ (ls : Array Slot), lv_has ls 7 [(2, .ref h1), (3, .long res), (5, .int v2)] → W p l e (rmF 4 101) s m args below meth c s.heap [] 0 0 Q (F0 m 56 ls [])) : ∀ (n : Nat) (v1 : Int64) (v3 : Int32), F_X3_digestOfCurve_27 cn cf v2 n v1 v3 = some res → ∀ (ls : Array Slot), lv_has ls 7 [(2, .ref h1), (3, .long v1), (5, .int v2), (6, .int v3)] → W p l e (rmF 4 101) s m args below meth c s.heap [] 0 0 Q (F0 m 27 ls []) := by
  obtain ⟨hx, hb, hml, hr, hown, hts, hk⟩ := id X
  intro n
  induction n with
  | zero => intro v1 v3 hq; exact q_no hq
  | succ n ih =>
    intro v1 v3 hq ls hl
    rw [F_X3_digestOfCurve_27] at hq
    refine lv_iload hx hb dX3_digestOfCurve_27 (lv_at hl 3 rfl) ?_
    refine lv_bipush (v := 6) hx hb dX3_digestOfCurve_29 (by decide) ?_
    refine lv_icmp_gt (tgt := 56) hx hb dX3_digestOfCurve_31 (by decide) (fun c4 => ?_) (fun c4 => ?_)
    · have hq := q_if_t hq c4
      obtain rfl := q_rt hq
      exact kk ls (lv_sub hl [0, 1, 2] rfl)
    · have hq := q_if_f hq c4
      refine lv_ldc2 (v := 31) hx hb hown (hts _ (List.mem_of_getElem? (i := 1) rfl)) dX3_digestOfCurve_34 ?_
      refine lv_lload_n hx hb dX3_digestOfCurve_37 rfl (lv_at hl 1 rfl) ?_
      refine lv_lmul hx hb dX3_digestOfCurve_38 ?_
      refine lv_aload_n hx hb dX3_digestOfCurve_39 rfl (lv_at hl 0 rfl) ?_
      refine lv_iload hx hb dX3_digestOfCurve_40 (lv_at hl 2 rfl) ?_
      refine lv_iload hx hb dX3_digestOfCurve_42 (lv_at hl 3 rfl) ?_
      obtain ⟨r5, hh6, hq⟩ := q_bd hq
      refine roS (As := [.ref h1, .int v2, .int v3]) (rest := [.long ((31 : Int64) * v1)]) X K (k_X3_aboutKey l G g h1 a1 cn cf v2 v3 _ hh6) hd_X3_aboutKey gX3_digestOfCurve_X3_aboutKey hP hl.1 dX3_digestOfCurve_44 rfl rfl ⟨Nat.le_of_ble_eq_true rfl, Nat.le_of_ble_eq_true rfl⟩ rfl (Nat.le_of_ble_eq_true rfl) ⟨Nat.zero_le _, Nat.zero_le _⟩ ?_
      refine lv_i2l (v := r5.toInt64) hx hb dX3_digestOfCurve_47 rfl ?_
      refine lv_ladd hx hb dX3_digestOfCurve_48 ?_
      refine lv_topl (fun x7 ex7 => ?_)
      have hq := q_let hq ex7
      refine lv_lstore_n (lv' := [(3, .long x7), (2, .ref h1), (5, .int v2), (6, .int v3)]) hx hb dX3_digestOfCurve_49 rfl hl (by decide) rfl (fun ls hl => ?_)
      obtain ⟨x8, ex8⟩ : ∃ y : Int32, y = (v3 : Int32) + 1 := ⟨_, rfl⟩
      have hq := q_let hq ex8
      refine lv_iinc (v := x8) (lv' := [(6, .int x8), (3, .long x7), (2, .ref h1), (5, .int v2)]) hx hb dX3_digestOfCurve_50 hl (k := 3) rfl (by rw [ex8]; rfl) (by decide) rfl (fun ls hl => ?_)
      refine lv_goto (tgt := 27) hx hb dX3_digestOfCurve_53 (by decide) ?_
      exact ih x7 x8 hq ls (lv_sub hl [2, 1, 3, 0] rfl)
def F_X3_digestOfCurve_15 (cn : Int32) (cf : Nat → Int32) : Nat → Int64 → Int32 → Option (Int64)
  | 0, _, _ => none
  | n + 1, v1, v2 => if cn ≤ v2 then (F_X3_digestOfCurve_65 cn cf 2000 v1 0) else ((F_X3_digestOfCurve_27 cn cf v2 2000 v1 0).bind fun o4 => vlet ((v2 : Int32) + 1) fun x5 => F_X3_digestOfCurve_15 cn cf n o4 x5)
set_option maxHeartbeats 4000000 in
set_option maxRecDepth 100000 in
theorem w_X3_digestOfCurve_15 {p : Program} {l : Launch} {e : Env} {s : State} {m : MethodId} {args : Array Value} {below : List Frame} {meth : Method} {c : Code} {G : va_G} {g : Nat → ClassId} (X : cx p s m args meth c cX3_digestOfCurve 7 (some .long) RX3 wsX3_digestOfCurve) (K : amb G g s) (h1 a1 : Nat) (cn : Int32) (cf : Nat → Int32) (hP : va_P G vwCl [(h1, .inr (0, [.int cn, .ref a1])), (a1, .inl (g 0, 96, .inl cf))] s.heap) (res : Int64) : ∀ (n : Nat) (v1 : Int64) (v2 : Int32), F_X3_digestOfCurve_15 cn cf n v1 v2 = some res → ∀ (ls : Array Slot), lv_has ls 7 [(2, .ref h1), (3, .long v1), (5, .int v2)] → W p l e (rmF 4 101) s m args below meth c s.heap [] 0 0 (roM below (some (.long res)) args s) (F0 m 15 ls []) := by
  obtain ⟨hx, hb, hml, hr, hown, hts, hk⟩ := id X
  intro n
  induction n with
  | zero => intro v1 v2 hq; exact q_no hq
  | succ n ih =>
    intro v1 v2 hq ls hl
    rw [F_X3_digestOfCurve_15] at hq
    refine lv_iload hx hb dX3_digestOfCurve_15 (lv_at hl 2 rfl) ?_
    refine lv_aload_n hx hb dX3_digestOfCurve_17 rfl (lv_at hl 0 rfl) ?_
    refine va_getN (D := G) (ci := 0) (v := .int cn) (C := RX0) (T := TX0) (N := 2) (host := RX3) hx hb hts in_X3_digestOfCurve_X0 hown K.1 hP 0 rfl rfl 0 (by decide) ((K.2.2 (RX3, 53, RX0, "count", "I", RX3) (by decide +kernel)).use rfl) (fun _ h9 => h9) rfl dX3_digestOfCurve_18 ?_
    refine lv_icmp_ge (tgt := 62) hx hb dX3_digestOfCurve_21 (by decide) (fun c3 => ?_) (fun c3 => ?_)
    · have hq := q_if_t hq c3
      refine lv_iconst (v := 0) hx hb dX3_digestOfCurve_62 (by decide) ?_
      refine lv_istore (lv' := [(5, .int 0), (2, .ref h1), (3, .long v1)]) hx hb dX3_digestOfCurve_63 hl (by decide) rfl (fun ls hl => ?_)
      exact w_X3_digestOfCurve_65 X K h1 a1 cn cf hP _ 2000 v1 0 hq ls (lv_sub hl [1, 2, 0] rfl)
    · have hq := q_if_f hq c3
      refine lv_iconst (v := 0) hx hb dX3_digestOfCurve_24 (by decide) ?_
      refine lv_istore (lv' := [(6, .int 0), (2, .ref h1), (3, .long v1), (5, .int v2)]) hx hb dX3_digestOfCurve_25 hl (by decide) rfl (fun ls hl => ?_)
      obtain ⟨o4, ho4, hq⟩ := q_bd hq
      refine w_X3_digestOfCurve_27 X K h1 a1 cn cf v2 hP o4 (fun ls hl => ?_) 2000 v1 0 ho4 ls (lv_sub hl [1, 2, 3, 0] rfl)
      have hl : lv_has ls 7 [(2, .ref h1), (3, .long o4), (5, .int v2)] := hl
      obtain ⟨x5, ex5⟩ : ∃ y : Int32, y = (v2 : Int32) + 1 := ⟨_, rfl⟩
      have hq := q_let hq ex5
      refine lv_iinc (v := x5) (lv' := [(5, .int x5), (2, .ref h1), (3, .long o4)]) hx hb dX3_digestOfCurve_56 hl (k := 2) rfl (by rw [ex5]; rfl) (by decide) rfl (fun ls hl => ?_)
      refine lv_goto (tgt := 15) hx hb dX3_digestOfCurve_59 (by decide) ?_
      exact ih o4 x5 hq ls (lv_sub hl [1, 2, 0] rfl)
def F_X3_digestOfCurve (cn : Int32) (cf : Nat → Int32) (p1 : Int64) : Option (Int64) := vlet (((31 : Int64) * p1) + (cn.toInt64)) fun x1 => F_X3_digestOfCurve_15 cn cf 2000 x1 0
set_option maxHeartbeats 4000000 in
set_option maxRecDepth 100000 in
theorem k_X3_digestOfCurve (l : Launch) (G : va_G) (g : Nat → ClassId) (h1 a1 : Nat) (cn : Int32) (cf : Nat → Int32) (p1 : Int64) (res : Int64) (hq : F_X3_digestOfCurve cn cf p1 = some res) : roC l yX3_digestOfCurve wsX3_digestOfCurve (rmF 4 101) G g [.long p1, .ref h1] [(h1, .inr (0, [.int cn, .ref a1])), (a1, .inl (g 0, 96, .inl cf))] (some (.long res)) := by
  refine roC.of (cc := cX3_digestOfCurve) (maxL := 7) (ret := (some .long)) (by decide) rfl (Nat.le_of_ble_eq_true rfl) ?_
  intro p e s m below meth c ls X K hP hl
  obtain ⟨hx, hb, hml, hr, hown, hts, hk⟩ := id X
  have hl : lv_has ls 7 [(0, .long p1), (2, .ref h1)] := hl
  unfold F_X3_digestOfCurve at hq
  refine lv_ldc2 (v := 31) hx hb hown (hts _ (List.mem_of_getElem? (i := 1) rfl)) dX3_digestOfCurve_0 ?_
  refine lv_lload_n hx hb dX3_digestOfCurve_3 rfl (lv_at hl 0 rfl) ?_
  refine lv_lmul hx hb dX3_digestOfCurve_4 ?_
  refine lv_aload_n hx hb dX3_digestOfCurve_5 rfl (lv_at hl 1 rfl) ?_
  refine va_getN (D := G) (ci := 0) (v := .int cn) (C := RX0) (T := TX0) (N := 2) (host := RX3) hx hb hts in_X3_digestOfCurve_X0 hown K.1 hP 0 rfl rfl 0 (by decide) ((K.2.2 (RX3, 53, RX0, "count", "I", RX3) (by decide +kernel)).use rfl) (fun _ h9 => h9) rfl dX3_digestOfCurve_6 ?_
  refine lv_i2l (v := cn.toInt64) hx hb dX3_digestOfCurve_9 rfl ?_
  refine lv_ladd hx hb dX3_digestOfCurve_10 ?_
  refine lv_topl (fun x1 ex1 => ?_)
  have hq := q_let hq ex1
  refine lv_lstore_n (lv' := [(3, .long x1), (0, .long p1), (2, .ref h1)]) hx hb dX3_digestOfCurve_11 rfl hl (by decide) rfl (fun ls hl => ?_)
  refine lv_iconst (v := 0) hx hb dX3_digestOfCurve_12 (by decide) ?_
  refine lv_istore (lv' := [(5, .int 0), (3, .long x1), (0, .long p1), (2, .ref h1)]) hx hb dX3_digestOfCurve_13 hl (by decide) rfl (fun ls hl => ?_)
  exact w_X3_digestOfCurve_15 X K h1 a1 cn cf hP _ 2000 x1 0 hq ls (lv_sub hl [3, 1, 0] rfl)
theorem hd_X0_bake : ynm yX0_bake 3 := by unfold ynm; decide +kernel
theorem in_X3_sumOver_X3 : ∀ w ∈ wsX30, w ∈ wsX3_sumOver := fun _ h => List.mem_cons_of_mem _ (List.mem_append_left _ (List.mem_append_right _ h))
def F_X3_sumOver_16 (vv : Nat → Int32) (cn : Int32) (cf : Nat → Int32) (v1 : Int32) : Nat → Int64 → Int32 → Option (Int64 × (Nat → Int32))
  | 0, _, _ => none
  | n + 1, v2, v3 => if v1 < v3 then (some (v2, vv)) else (vgd (ix (v3) 1000) <| vlet (v2 + ((vv v3.toNatClampNeg).toInt64)) fun x6 => vlet ((v3 : Int32) + 1) fun x7 => F_X3_sumOver_16 vv cn cf v1 n x6 x7)
set_option maxHeartbeats 4000000 in
set_option maxRecDepth 100000 in
theorem w_X3_sumOver_16 {p : Program} {l : Launch} {e : Env} {s : State} {m : MethodId} {args : Array Value} {below : List Frame} {meth : Method} {c : Code} {G : va_G} {g : Nat → ClassId} (X : cx p s m args meth c cX3_sumOver 7 (some .long) RX3 wsX3_sumOver) (K : amb G g s) {A : Nat → Prop} (hA : ∀ q : Nat, s.heap.size ≤ q → A q) (x0 va h1 a1 ps sv tx tr vo : Nat) (sc : Int32) (vv : Nat → Int32) (cn : Int32) (cf : Nat → Int32) (v1 : Int32) (res : Int64 × (Nat → Int32)) : ∀ (n : Nat) (v2 : Int64) (v3 : Int32), F_X3_sumOver_16 vv cn cf v1 n v2 v3 = some res → ∀ (H : Heap) (locs : List Loc), va_P G vwCl [(x0, .inr (3, [.ref ps, .ref sv, .int sc, .ref tx, .ref tr, .ref va, .ref vo])), (va, .inl (g 0, 1000, .inl vv)), (h1, .inr (0, [.int cn, .ref a1])), (a1, .inl (g 0, 96, .inl cf))] H → va_D A [(x0, .inr (3, [.ref ps, .ref sv, .int sc, .ref tx, .ref tr, .ref va, .ref vo])), (va, .inl (g 0, 1000, .inl vv)), (h1, .inr (0, [.int cn, .ref a1])), (a1, .inl (g 0, 96, .inl cf))] → va_S A s.heap H locs → ∀ (ls : Array Slot), lv_has ls 7 [(0, .ref x0), (3, .int v1), (4, .long v2), (6, .int v3)] → W p l e (rmF 4 105) s m args below meth c H locs 0 0 (rwM G A below (some (.long res.1)) [(x0, .inr (3, [.ref ps, .ref sv, .int sc, .ref tx, .ref tr, .ref va, .ref vo])), (va, .inl (g 0, 1000, .inl res.2)), (h1, .inr (0, [.int cn, .ref a1])), (a1, .inl (g 0, 96, .inl cf))] args s) (F0 m 16 ls []) := by
  obtain ⟨hx, hb, hml, hr, hown, hts, hk⟩ := id X
  intro n
  induction n with
  | zero => intro v2 v3 hq; exact q_no hq
  | succ n ih =>
    intro v2 v3 hq H locs hP hD hS ls hl
    rw [F_X3_sumOver_16] at hq
    refine lv_iload hx hb dX3_sumOver_16 (lv_at hl 3 rfl) ?_
    refine lv_iload_n hx hb dX3_sumOver_18 rfl (lv_at hl 1 rfl) ?_
    refine lv_icmp_gt (tgt := 41) hx hb dX3_sumOver_19 (by decide) (fun c4 => ?_) (fun c4 => ?_)
    · have hq := q_if_t hq c4
      refine lv_lload hx hb dX3_sumOver_41 (lv_at hl 2 rfl) ?_
      obtain rfl := q_rt hq
      exact rw_lret hx hb hr hk hP hD hS dX3_sumOver_43
    · have hq := q_if_f hq c4
      refine lv_lload hx hb dX3_sumOver_22 (lv_at hl 2 rfl) ?_
      refine lv_aload_n hx hb dX3_sumOver_24 rfl (lv_at hl 0 rfl) ?_
      refine va_get (D := G) (ci := 3) (v := .ref va) (C := RX3) (T := TX3) (N := 7) hx hb hts in_X3_sumOver_X3 hown K.1 hP 0 rfl rfl 5 (by decide) (hts _ (List.mem_of_getElem? (i := 1) rfl)) (fun _ h9 => h9) rfl dX3_sumOver_25 ?_
      refine lv_iload hx hb dX3_sumOver_28 (lv_at hl 3 rfl) ?_
      obtain ⟨hh5, hq⟩ := q_gd hq
      refine va_iald hx hb K.1 hP 1 0 rfl rfl (vp_in_iff.mpr hh5) dX3_sumOver_30 ?_
      refine lv_i2l (v := (vv v3.toNatClampNeg).toInt64) hx hb dX3_sumOver_31 rfl ?_
      refine lv_ladd hx hb dX3_sumOver_32 ?_
      refine lv_topl (fun x6 ex6 => ?_)
      have hq := q_let hq ex6
      refine lv_lstore (lv' := [(4, .long x6), (0, .ref x0), (3, .int v1), (6, .int v3)]) hx hb dX3_sumOver_33 hl (by decide) rfl (fun ls hl => ?_)
      obtain ⟨x7, ex7⟩ : ∃ y : Int32, y = (v3 : Int32) + 1 := ⟨_, rfl⟩
      have hq := q_let hq ex7
      refine lv_iinc (v := x7) (lv' := [(6, .int x7), (4, .long x6), (0, .ref x0), (3, .int v1)]) hx hb dX3_sumOver_35 hl (k := 3) rfl (by rw [ex7]; rfl) (by decide) rfl (fun ls hl => ?_)
      refine lv_goto (tgt := 16) hx hb dX3_sumOver_38 (by decide) ?_
      exact ih x6 x7 hq _ _ hP hD hS ls (lv_sub hl [2, 3, 1, 0] rfl)
def F_X3_sumOver (vv : Nat → Int32) (cn : Int32) (cf : Nat → Int32) (p2 : Int32) (p3 : Int32) : Option (Int64 × (Nat → Int32)) := (F_X0_bake cn cf vv p2 p3).bind fun y1 => F_X3_sumOver_16 y1 cn cf p3 2000 0 p2
set_option maxHeartbeats 4000000 in
set_option maxRecDepth 100000 in
theorem k_X3_sumOver (l : Launch) (G : va_G) (g : Nat → ClassId) (x0 va h1 a1 ps sv tx tr vo : Nat) (sc : Int32) (vv : Nat → Int32) (cn : Int32) (cf : Nat → Int32) (p2 : Int32) (p3 : Int32) (res : Int64 × (Nat → Int32)) (hq : F_X3_sumOver vv cn cf p2 p3 = some res) : rwC l yX3_sumOver wsX3_sumOver (rmF 4 105) G g [.ref x0, .ref h1, .int p2, .int p3] [(x0, .inr (3, [.ref ps, .ref sv, .int sc, .ref tx, .ref tr, .ref va, .ref vo])), (va, .inl (g 0, 1000, .inl vv)), (h1, .inr (0, [.int cn, .ref a1])), (a1, .inl (g 0, 96, .inl cf))] (some (.long res.1)) [(x0, .inr (3, [.ref ps, .ref sv, .int sc, .ref tx, .ref tr, .ref va, .ref vo])), (va, .inl (g 0, 1000, .inl res.2)), (h1, .inr (0, [.int cn, .ref a1])), (a1, .inl (g 0, 96, .inl cf))] := by
  refine rwC.of (cc := cX3_sumOver) (maxL := 7) (ret := (some .long)) (by decide) rfl (Nat.le_of_ble_eq_true rfl) ?_
  intro p e s m below meth c ls A X K hA hP hD hS hl
  obtain ⟨hx, hb, hml, hr, hown, hts, hk⟩ := id X
  have hl : lv_has ls 7 [(0, .ref x0), (1, .ref h1), (2, .int p2), (3, .int p3)] := hl
  unfold F_X3_sumOver at hq
  refine lv_aload_n hx hb dX3_sumOver_0 rfl (lv_at hl 1 rfl) ?_
  refine lv_aload_n hx hb dX3_sumOver_1 rfl (lv_at hl 0 rfl) ?_
  refine va_get (D := G) (ci := 3) (v := .ref va) (C := RX3) (T := TX3) (N := 7) hx hb hts in_X3_sumOver_X3 hown K.1 hP 0 rfl rfl 5 (by decide) (hts _ (List.mem_of_getElem? (i := 1) rfl)) (fun _ h9 => h9) rfl dX3_sumOver_2 ?_
  refine lv_iload_n hx hb dX3_sumOver_5 rfl (lv_at hl 2 rfl) ?_
  refine lv_iload_n hx hb dX3_sumOver_6 rfl (lv_at hl 3 rfl) ?_
  obtain ⟨y1, hh2, hq⟩ := q_bd hq
  refine rwN (ci := 0) (host := RX3) (wr := [(x0, .inr (3, [.ref ps, .ref sv, .int sc, .ref tx, .ref tr, .ref va, .ref vo]))]) (As := [.ref va, .int p2, .int p3]) (rest := []) X K (k_X0_bake l G g h1 a1 va cn cf vv p2 p3 _ hh2) hd_X0_bake ggX3_sumOver_X0_bake (by decide +kernel) (List.mem_of_getElem? (i := 3) rfl) (List.mem_of_getElem? (i := 2) rfl) (List.mem_of_getElem? (i := 4) rfl) hP hD hS hA [2, 3, 1] [0] rfl rfl ⟨by decide, by decide, by decide⟩ hl.1 dX3_sumOver_7 rfl rfl ⟨Nat.le_of_ble_eq_true rfl, Nat.le_of_ble_eq_true rfl⟩ rfl rfl rfl (Nat.le_of_ble_eq_true rfl) ⟨Nat.zero_le _, Nat.zero_le _⟩ (fun H locs hP hD hS => ?_)
  have hP : va_P G vwCl [(x0, .inr (3, [.ref ps, .ref sv, .int sc, .ref tx, .ref tr, .ref va, .ref vo])), (va, .inl (g 0, 1000, .inl y1)), (h1, .inr (0, [.int cn, .ref a1])), (a1, .inl (g 0, 96, .inl cf))] H := hP.sub [0, 3, 1, 2] rfl
  have hD : va_D A [(x0, .inr (3, [.ref ps, .ref sv, .int sc, .ref tx, .ref tr, .ref va, .ref vo])), (va, .inl (g 0, 1000, .inl y1)), (h1, .inr (0, [.int cn, .ref a1])), (a1, .inl (g 0, 96, .inl cf))] := hD.sub [0, 3, 1, 2] (by decide) rfl
  refine lv_lconst (v := 0) hx hb dX3_sumOver_10 (by decide) ?_
  refine lv_lstore (lv' := [(4, .long 0), (0, .ref x0), (1, .ref h1), (2, .int p2), (3, .int p3)]) hx hb dX3_sumOver_11 hl (by decide) rfl (fun ls hl => ?_)
  refine lv_iload_n hx hb dX3_sumOver_13 rfl (lv_at hl 3 rfl) ?_
  refine lv_istore (lv' := [(6, .int p2), (4, .long 0), (0, .ref x0), (1, .ref h1), (2, .int p2), (3, .int p3)]) hx hb dX3_sumOver_14 hl (by decide) rfl (fun ls hl => ?_)
  exact w_X3_sumOver_16 X K hA x0 va h1 a1 ps sv tx tr vo sc y1 cn cf p3 _ 2000 0 p2 hq _ _ hP hD hS ls (lv_sub hl [2, 5, 1, 0] rfl)
theorem in_X3_frameOfGreatest_X3 : ∀ w ∈ wsX30, w ∈ wsX3_frameOfGreatest := fun _ h => List.mem_cons_of_mem _ (List.mem_append_right _ h)
def F_X3_frameOfGreatest_7 (vv : Nat → Int32) (v1 : Int32) : Nat → Int32 → Int32 → Option (Int32)
  | 0, _, _ => none
  | n + 1, v2, v3 => if v1 < v3 then (some (v2)) else (vgd (ix (v3) 1000) <| vgd (ix (v2) 1000) <| if (vv v3.toNatClampNeg) ≤ (vv v2.toNatClampNeg) then (vlet ((v3 : Int32) + 1) fun x8 => F_X3_frameOfGreatest_7 vv v1 n v2 x8) else (vlet ((v3 : Int32) + 1) fun x9 => F_X3_frameOfGreatest_7 vv v1 n v3 x9))
set_option maxHeartbeats 4000000 in
set_option maxRecDepth 100000 in
theorem w_X3_frameOfGreatest_7 {p : Program} {l : Launch} {e : Env} {s : State} {m : MethodId} {args : Array Value} {below : List Frame} {meth : Method} {c : Code} {G : va_G} {g : Nat → ClassId} (X : cx p s m args meth c cX3_frameOfGreatest 5 (some .int) RX3 wsX3_frameOfGreatest) (K : amb G g s) (x0 va ps sv tx tr vo : Nat) (sc : Int32) (vv : Nat → Int32) (v1 : Int32) (hP : va_P G vwCl [(x0, .inr (3, [.ref ps, .ref sv, .int sc, .ref tx, .ref tr, .ref va, .ref vo])), (va, .inl (g 0, 1000, .inl vv))] s.heap) (res : Int32) : ∀ (n : Nat) (v2 : Int32) (v3 : Int32), F_X3_frameOfGreatest_7 vv v1 n v2 v3 = some res → ∀ (ls : Array Slot), lv_has ls 5 [(0, .ref x0), (2, .int v1), (3, .int v2), (4, .int v3)] → W p l e (rmF 0 0) s m args below meth c s.heap [] 0 0 (roM below (some (.int res)) args s) (F0 m 7 ls []) := by
  obtain ⟨hx, hb, hml, hr, hown, hts, hk⟩ := id X
  intro n
  induction n with
  | zero => intro v2 v3 hq; exact q_no hq
  | succ n ih =>
    intro v2 v3 hq ls hl
    rw [F_X3_frameOfGreatest_7] at hq
    refine lv_iload hx hb dX3_frameOfGreatest_7 (lv_at hl 3 rfl) ?_
    refine lv_iload_n hx hb dX3_frameOfGreatest_9 rfl (lv_at hl 1 rfl) ?_
    refine lv_icmp_gt (tgt := 38) hx hb dX3_frameOfGreatest_10 (by decide) (fun c4 => ?_) (fun c4 => ?_)
    · have hq := q_if_t hq c4
      refine lv_iload_n hx hb dX3_frameOfGreatest_38 rfl (lv_at hl 2 rfl) ?_
      obtain rfl := q_rt hq
      exact ro_iret hx hb hr hk dX3_frameOfGreatest_39
    · have hq := q_if_f hq c4
      refine lv_aload_n hx hb dX3_frameOfGreatest_13 rfl (lv_at hl 0 rfl) ?_
      refine va_get (D := G) (ci := 3) (v := .ref va) (C := RX3) (T := TX3) (N := 7) hx hb hts in_X3_frameOfGreatest_X3 hown K.1 hP 0 rfl rfl 5 (by decide) (hts _ (List.mem_of_getElem? (i := 1) rfl)) (fun _ h9 => h9) rfl dX3_frameOfGreatest_14 ?_
      refine lv_iload hx hb dX3_frameOfGreatest_17 (lv_at hl 3 rfl) ?_
      obtain ⟨hh5, hq⟩ := q_gd hq
      refine va_iald hx hb K.1 hP 1 0 rfl rfl (vp_in_iff.mpr hh5) dX3_frameOfGreatest_19 ?_
      refine lv_aload_n hx hb dX3_frameOfGreatest_20 rfl (lv_at hl 0 rfl) ?_
      refine va_get (D := G) (ci := 3) (v := .ref va) (C := RX3) (T := TX3) (N := 7) hx hb hts in_X3_frameOfGreatest_X3 hown K.1 hP 0 rfl rfl 5 (by decide) (hts _ (List.mem_of_getElem? (i := 1) rfl)) (fun _ h9 => h9) rfl dX3_frameOfGreatest_21 ?_
      refine lv_iload_n hx hb dX3_frameOfGreatest_24 rfl (lv_at hl 2 rfl) ?_
      obtain ⟨hh6, hq⟩ := q_gd hq
      refine va_iald hx hb K.1 hP 1 0 rfl rfl (vp_in_iff.mpr hh6) dX3_frameOfGreatest_25 ?_
      refine lv_icmp_le (tgt := 32) hx hb dX3_frameOfGreatest_26 (by decide) (fun c7 => ?_) (fun c7 => ?_)
      · have hq := q_if_t hq c7
        obtain ⟨x8, ex8⟩ : ∃ y : Int32, y = (v3 : Int32) + 1 := ⟨_, rfl⟩
        have hq := q_let hq ex8
        refine lv_iinc (v := x8) (lv' := [(4, .int x8), (0, .ref x0), (2, .int v1), (3, .int v2)]) hx hb dX3_frameOfGreatest_32 hl (k := 3) rfl (by rw [ex8]; rfl) (by decide) rfl (fun ls hl => ?_)
        refine lv_goto (tgt := 7) hx hb dX3_frameOfGreatest_35 (by decide) ?_
        exact ih v2 x8 hq ls (lv_sub hl [1, 2, 3, 0] rfl)
      · have hq := q_if_f hq c7
        refine lv_iload hx hb dX3_frameOfGreatest_29 (lv_at hl 3 rfl) ?_
        refine lv_istore_n (lv' := [(3, .int v3), (0, .ref x0), (2, .int v1), (4, .int v3)]) hx hb dX3_frameOfGreatest_31 rfl hl (by decide) rfl (fun ls hl => ?_)
        obtain ⟨x9, ex9⟩ : ∃ y : Int32, y = (v3 : Int32) + 1 := ⟨_, rfl⟩
        have hq := q_let hq ex9
        refine lv_iinc (v := x9) (lv' := [(4, .int x9), (3, .int v3), (0, .ref x0), (2, .int v1)]) hx hb dX3_frameOfGreatest_32 hl (k := 3) rfl (by rw [ex9]; rfl) (by decide) rfl (fun ls hl => ?_)
        refine lv_goto (tgt := 7) hx hb dX3_frameOfGreatest_35 (by decide) ?_
        exact ih v3 x9 hq ls (lv_sub hl [2, 3, 1, 0] rfl)
def F_X3_frameOfGreatest (vv : Nat → Int32) (p1 : Int32) (p2 : Int32) : Option (Int32) := vlet (p1 + 1) fun x1 => F_X3_frameOfGreatest_7 vv p2 2000 p1 x1
set_option maxHeartbeats 4000000 in
set_option maxRecDepth 100000 in
theorem k_X3_frameOfGreatest (l : Launch) (G : va_G) (g : Nat → ClassId) (x0 va ps sv tx tr vo : Nat) (sc : Int32) (vv : Nat → Int32) (p1 : Int32) (p2 : Int32) (res : Int32) (hq : F_X3_frameOfGreatest vv p1 p2 = some res) : roC l yX3_frameOfGreatest wsX3_frameOfGreatest (rmF 0 0) G g [.ref x0, .int p1, .int p2] [(x0, .inr (3, [.ref ps, .ref sv, .int sc, .ref tx, .ref tr, .ref va, .ref vo])), (va, .inl (g 0, 1000, .inl vv))] (some (.int res)) := by
  refine roC.of (cc := cX3_frameOfGreatest) (maxL := 5) (ret := (some .int)) (by decide) rfl (Nat.le_of_ble_eq_true rfl) ?_
  intro p e s m below meth c ls X K hP hl
  obtain ⟨hx, hb, hml, hr, hown, hts, hk⟩ := id X
  have hl : lv_has ls 5 [(0, .ref x0), (1, .int p1), (2, .int p2)] := hl
  unfold F_X3_frameOfGreatest at hq
  refine lv_iload_n hx hb dX3_frameOfGreatest_0 rfl (lv_at hl 1 rfl) ?_
  refine lv_istore_n (lv' := [(3, .int p1), (0, .ref x0), (1, .int p1), (2, .int p2)]) hx hb dX3_frameOfGreatest_1 rfl hl (by decide) rfl (fun ls hl => ?_)
  refine lv_iload_n hx hb dX3_frameOfGreatest_2 rfl (lv_at hl 2 rfl) ?_
  refine lv_iconst (v := 1) hx hb dX3_frameOfGreatest_3 (by decide) ?_
  refine lv_iadd hx hb dX3_frameOfGreatest_4 ?_
  refine lv_topi (fun x1 ex1 => ?_)
  have hq := q_let hq ex1
  refine lv_istore (lv' := [(4, .int x1), (3, .int p1), (0, .ref x0), (1, .int p1), (2, .int p2)]) hx hb dX3_frameOfGreatest_5 hl (by decide) rfl (fun ls hl => ?_)
  exact w_X3_frameOfGreatest_7 X K x0 va ps sv tx tr vo sc vv p2 hP _ 2000 p1 x1 hq ls (lv_sub hl [2, 4, 1, 0] rfl)
theorem in_X3_frameOfSmallest_X3 : ∀ w ∈ wsX30, w ∈ wsX3_frameOfSmallest := fun _ h => List.mem_cons_of_mem _ (List.mem_append_right _ h)
def F_X3_frameOfSmallest_7 (vv : Nat → Int32) (v1 : Int32) : Nat → Int32 → Int32 → Option (Int32)
  | 0, _, _ => none
  | n + 1, v2, v3 => if v1 < v3 then (some (v2)) else (vgd (ix (v3) 1000) <| vgd (ix (v2) 1000) <| if (vv v2.toNatClampNeg) ≤ (vv v3.toNatClampNeg) then (vlet ((v3 : Int32) + 1) fun x8 => F_X3_frameOfSmallest_7 vv v1 n v2 x8) else (vlet ((v3 : Int32) + 1) fun x9 => F_X3_frameOfSmallest_7 vv v1 n v3 x9))
set_option maxHeartbeats 4000000 in
set_option maxRecDepth 100000 in
theorem w_X3_frameOfSmallest_7 {p : Program} {l : Launch} {e : Env} {s : State} {m : MethodId} {args : Array Value} {below : List Frame} {meth : Method} {c : Code} {G : va_G} {g : Nat → ClassId} (X : cx p s m args meth c cX3_frameOfSmallest 5 (some .int) RX3 wsX3_frameOfSmallest) (K : amb G g s) (x0 va ps sv tx tr vo : Nat) (sc : Int32) (vv : Nat → Int32) (v1 : Int32) (hP : va_P G vwCl [(x0, .inr (3, [.ref ps, .ref sv, .int sc, .ref tx, .ref tr, .ref va, .ref vo])), (va, .inl (g 0, 1000, .inl vv))] s.heap) (res : Int32) : ∀ (n : Nat) (v2 : Int32) (v3 : Int32), F_X3_frameOfSmallest_7 vv v1 n v2 v3 = some res → ∀ (ls : Array Slot), lv_has ls 5 [(0, .ref x0), (2, .int v1), (3, .int v2), (4, .int v3)] → W p l e (rmF 0 0) s m args below meth c s.heap [] 0 0 (roM below (some (.int res)) args s) (F0 m 7 ls []) := by
  obtain ⟨hx, hb, hml, hr, hown, hts, hk⟩ := id X
  intro n
  induction n with
  | zero => intro v2 v3 hq; exact q_no hq
  | succ n ih =>
    intro v2 v3 hq ls hl
    rw [F_X3_frameOfSmallest_7] at hq
    refine lv_iload hx hb dX3_frameOfSmallest_7 (lv_at hl 3 rfl) ?_
    refine lv_iload_n hx hb dX3_frameOfSmallest_9 rfl (lv_at hl 1 rfl) ?_
    refine lv_icmp_gt (tgt := 38) hx hb dX3_frameOfSmallest_10 (by decide) (fun c4 => ?_) (fun c4 => ?_)
    · have hq := q_if_t hq c4
      refine lv_iload_n hx hb dX3_frameOfSmallest_38 rfl (lv_at hl 2 rfl) ?_
      obtain rfl := q_rt hq
      exact ro_iret hx hb hr hk dX3_frameOfSmallest_39
    · have hq := q_if_f hq c4
      refine lv_aload_n hx hb dX3_frameOfSmallest_13 rfl (lv_at hl 0 rfl) ?_
      refine va_get (D := G) (ci := 3) (v := .ref va) (C := RX3) (T := TX3) (N := 7) hx hb hts in_X3_frameOfSmallest_X3 hown K.1 hP 0 rfl rfl 5 (by decide) (hts _ (List.mem_of_getElem? (i := 1) rfl)) (fun _ h9 => h9) rfl dX3_frameOfSmallest_14 ?_
      refine lv_iload hx hb dX3_frameOfSmallest_17 (lv_at hl 3 rfl) ?_
      obtain ⟨hh5, hq⟩ := q_gd hq
      refine va_iald hx hb K.1 hP 1 0 rfl rfl (vp_in_iff.mpr hh5) dX3_frameOfSmallest_19 ?_
      refine lv_aload_n hx hb dX3_frameOfSmallest_20 rfl (lv_at hl 0 rfl) ?_
      refine va_get (D := G) (ci := 3) (v := .ref va) (C := RX3) (T := TX3) (N := 7) hx hb hts in_X3_frameOfSmallest_X3 hown K.1 hP 0 rfl rfl 5 (by decide) (hts _ (List.mem_of_getElem? (i := 1) rfl)) (fun _ h9 => h9) rfl dX3_frameOfSmallest_21 ?_
      refine lv_iload_n hx hb dX3_frameOfSmallest_24 rfl (lv_at hl 2 rfl) ?_
      obtain ⟨hh6, hq⟩ := q_gd hq
      refine va_iald hx hb K.1 hP 1 0 rfl rfl (vp_in_iff.mpr hh6) dX3_frameOfSmallest_25 ?_
      refine lv_icmp_ge (tgt := 32) hx hb dX3_frameOfSmallest_26 (by decide) (fun c7 => ?_) (fun c7 => ?_)
      · have hq := q_if_t hq c7
        obtain ⟨x8, ex8⟩ : ∃ y : Int32, y = (v3 : Int32) + 1 := ⟨_, rfl⟩
        have hq := q_let hq ex8
        refine lv_iinc (v := x8) (lv' := [(4, .int x8), (0, .ref x0), (2, .int v1), (3, .int v2)]) hx hb dX3_frameOfSmallest_32 hl (k := 3) rfl (by rw [ex8]; rfl) (by decide) rfl (fun ls hl => ?_)
        refine lv_goto (tgt := 7) hx hb dX3_frameOfSmallest_35 (by decide) ?_
        exact ih v2 x8 hq ls (lv_sub hl [1, 2, 3, 0] rfl)
      · have hq := q_if_f hq c7
        refine lv_iload hx hb dX3_frameOfSmallest_29 (lv_at hl 3 rfl) ?_
        refine lv_istore_n (lv' := [(3, .int v3), (0, .ref x0), (2, .int v1), (4, .int v3)]) hx hb dX3_frameOfSmallest_31 rfl hl (by decide) rfl (fun ls hl => ?_)
        obtain ⟨x9, ex9⟩ : ∃ y : Int32, y = (v3 : Int32) + 1 := ⟨_, rfl⟩
        have hq := q_let hq ex9
        refine lv_iinc (v := x9) (lv' := [(4, .int x9), (3, .int v3), (0, .ref x0), (2, .int v1)]) hx hb dX3_frameOfSmallest_32 hl (k := 3) rfl (by rw [ex9]; rfl) (by decide) rfl (fun ls hl => ?_)
        refine lv_goto (tgt := 7) hx hb dX3_frameOfSmallest_35 (by decide) ?_
        exact ih v3 x9 hq ls (lv_sub hl [2, 3, 1, 0] rfl)
def F_X3_frameOfSmallest (vv : Nat → Int32) (p1 : Int32) (p2 : Int32) : Option (Int32) := vlet (p1 + 1) fun x1 => F_X3_frameOfSmallest_7 vv p2 2000 p1 x1
set_option maxHeartbeats 4000000 in
set_option maxRecDepth 100000 in
theorem k_X3_frameOfSmallest (l : Launch) (G : va_G) (g : Nat → ClassId) (x0 va ps sv tx tr vo : Nat) (sc : Int32) (vv : Nat → Int32) (p1 : Int32) (p2 : Int32) (res : Int32) (hq : F_X3_frameOfSmallest vv p1 p2 = some res) : roC l yX3_frameOfSmallest wsX3_frameOfSmallest (rmF 0 0) G g [.ref x0, .int p1, .int p2] [(x0, .inr (3, [.ref ps, .ref sv, .int sc, .ref tx, .ref tr, .ref va, .ref vo])), (va, .inl (g 0, 1000, .inl vv))] (some (.int res)) := by
  refine roC.of (cc := cX3_frameOfSmallest) (maxL := 5) (ret := (some .int)) (by decide) rfl (Nat.le_of_ble_eq_true rfl) ?_
  intro p e s m below meth c ls X K hP hl
  obtain ⟨hx, hb, hml, hr, hown, hts, hk⟩ := id X
  have hl : lv_has ls 5 [(0, .ref x0), (1, .int p1), (2, .int p2)] := hl
  unfold F_X3_frameOfSmallest at hq
  refine lv_iload_n hx hb dX3_frameOfSmallest_0 rfl (lv_at hl 1 rfl) ?_
  refine lv_istore_n (lv' := [(3, .int p1), (0, .ref x0), (1, .int p1), (2, .int p2)]) hx hb dX3_frameOfSmallest_1 rfl hl (by decide) rfl (fun ls hl => ?_)
  refine lv_iload_n hx hb dX3_frameOfSmallest_2 rfl (lv_at hl 2 rfl) ?_
  refine lv_iconst (v := 1) hx hb dX3_frameOfSmallest_3 (by decide) ?_
  refine lv_iadd hx hb dX3_frameOfSmallest_4 ?_
  refine lv_topi (fun x1 ex1 => ?_)
  have hq := q_let hq ex1
  refine lv_istore (lv' := [(4, .int x1), (3, .int p1), (0, .ref x0), (1, .int p1), (2, .int p2)]) hx hb dX3_frameOfSmallest_5 hl (by decide) rfl (fun ls hl => ?_)
  exact w_X3_frameOfSmallest_7 X K x0 va ps sv tx tr vo sc vv p2 hP _ 2000 p1 x1 hq ls (lv_sub hl [2, 4, 1, 0] rfl)
theorem in_X3_greatestStep_X3 : ∀ w ∈ wsX30, w ∈ wsX3_greatestStep := fun _ h => List.mem_cons_of_mem _ (List.mem_append_right _ h)
def F_X3_greatestStep_7 (vv : Nat → Int32) (v1 : Int32) : Nat → Int32 → Int32 → Option (Int32)
  | 0, _, _ => none
  | n + 1, v2, v3 => if v1 < v3 then (some (v2)) else (vgd (ix (v3) 1000) <| vgd (ix (v3 - 1) 1000) <| vlet (if 0 ≤ ((vv v3.toNatClampNeg) - (vv (v3 - 1).toNatClampNeg)) then ((vv v3.toNatClampNeg) - (vv (v3 - 1).toNatClampNeg)) else 0 - ((vv v3.toNatClampNeg) - (vv (v3 - 1).toNatClampNeg))) fun x7 => vlet (if v2 < x7 then x7 else v2) fun x8 => vlet ((v3 : Int32) + 1) fun x9 => F_X3_greatestStep_7 vv v1 n x8 x9)
set_option maxHeartbeats 4000000 in
set_option maxRecDepth 100000 in
theorem w_X3_greatestStep_7 {p : Program} {l : Launch} {e : Env} {s : State} {m : MethodId} {args : Array Value} {below : List Frame} {meth : Method} {c : Code} {G : va_G} {g : Nat → ClassId} (X : cx p s m args meth c cX3_greatestStep 5 (some .int) RX3 wsX3_greatestStep) (K : amb G g s) (x0 va ps sv tx tr vo : Nat) (sc : Int32) (vv : Nat → Int32) (v1 : Int32) (hP : va_P G vwCl [(x0, .inr (3, [.ref ps, .ref sv, .int sc, .ref tx, .ref tr, .ref va, .ref vo])), (va, .inl (g 0, 1000, .inl vv))] s.heap) (res : Int32) : ∀ (n : Nat) (v2 : Int32) (v3 : Int32), F_X3_greatestStep_7 vv v1 n v2 v3 = some res → ∀ (ls : Array Slot), lv_has ls 5 [(0, .ref x0), (2, .int v1), (3, .int v2), (4, .int v3)] → W p l e (rmF 1 20) s m args below meth c s.heap [] 0 0 (roM below (some (.int res)) args s) (F0 m 7 ls []) := by
  obtain ⟨hx, hb, hml, hr, hown, hts, hk⟩ := id X
  intro n
  induction n with
  | zero => intro v2 v3 hq; exact q_no hq
  | succ n ih =>
    intro v2 v3 hq ls hl
    rw [F_X3_greatestStep_7] at hq
    refine lv_iload hx hb dX3_greatestStep_7 (lv_at hl 3 rfl) ?_
    refine lv_iload_n hx hb dX3_greatestStep_9 rfl (lv_at hl 1 rfl) ?_
    refine lv_icmp_gt (tgt := 44) hx hb dX3_greatestStep_10 (by decide) (fun c4 => ?_) (fun c4 => ?_)
    · have hq := q_if_t hq c4
      refine lv_iload_n hx hb dX3_greatestStep_44 rfl (lv_at hl 2 rfl) ?_
      obtain rfl := q_rt hq
      exact ro_iret hx hb hr hk dX3_greatestStep_45
    · have hq := q_if_f hq c4
      refine lv_iload_n hx hb dX3_greatestStep_13 rfl (lv_at hl 2 rfl) ?_
      refine lv_aload_n hx hb dX3_greatestStep_14 rfl (lv_at hl 0 rfl) ?_
      refine va_get (D := G) (ci := 3) (v := .ref va) (C := RX3) (T := TX3) (N := 7) hx hb hts in_X3_greatestStep_X3 hown K.1 hP 0 rfl rfl 5 (by decide) (hts _ (List.mem_of_getElem? (i := 1) rfl)) (fun _ h9 => h9) rfl dX3_greatestStep_15 ?_
      refine lv_iload hx hb dX3_greatestStep_18 (lv_at hl 3 rfl) ?_
      obtain ⟨hh5, hq⟩ := q_gd hq
      refine va_iald hx hb K.1 hP 1 0 rfl rfl (vp_in_iff.mpr hh5) dX3_greatestStep_20 ?_
      refine lv_aload_n hx hb dX3_greatestStep_21 rfl (lv_at hl 0 rfl) ?_
      refine va_get (D := G) (ci := 3) (v := .ref va) (C := RX3) (T := TX3) (N := 7) hx hb hts in_X3_greatestStep_X3 hown K.1 hP 0 rfl rfl 5 (by decide) (hts _ (List.mem_of_getElem? (i := 1) rfl)) (fun _ h9 => h9) rfl dX3_greatestStep_22 ?_
      refine lv_iload hx hb dX3_greatestStep_25 (lv_at hl 3 rfl) ?_
      refine lv_iconst (v := 1) hx hb dX3_greatestStep_27 (by decide) ?_
      refine lv_isub hx hb dX3_greatestStep_28 ?_
      obtain ⟨hh6, hq⟩ := q_gd hq
      refine va_iald hx hb K.1 hP 1 0 rfl rfl (vp_in_iff.mpr hh6) dX3_greatestStep_29 ?_
      refine lv_isub hx hb dX3_greatestStep_30 ?_
      refine va_mabs hx hb (hml.trans hl.1.symm) hown (hts _ (List.mem_of_getElem? (i := 2) rfl)) (hts _ (List.mem_of_getElem? (i := 3) rfl)) (hts _ (List.mem_of_getElem? (i := 4) rfl)) (hts _ (List.mem_of_getElem? (i := 5) rfl)) (Nat.le_of_ble_eq_true rfl) (Nat.le_of_ble_eq_true rfl) (Nat.zero_le _) (Nat.zero_le _) dX3_greatestStep_31 ?_
      refine lv_topi (fun x7 ex7 => ?_)
      have hq := q_let hq ex7
      refine va_mmax hx hb (hml.trans hl.1.symm) hown (hts _ (List.mem_of_getElem? (i := 6) rfl)) (hts _ (List.mem_of_getElem? (i := 7) rfl)) (hts _ (List.mem_of_getElem? (i := 4) rfl)) (hts _ (List.mem_of_getElem? (i := 8) rfl)) (Nat.le_of_ble_eq_true rfl) (Nat.le_of_ble_eq_true rfl) (Nat.zero_le _) (Nat.zero_le _) dX3_greatestStep_34 ?_
      refine lv_topi (fun x8 ex8 => ?_)
      have hq := q_let hq ex8
      refine lv_istore_n (lv' := [(3, .int x8), (0, .ref x0), (2, .int v1), (4, .int v3)]) hx hb dX3_greatestStep_37 rfl hl (by decide) rfl (fun ls hl => ?_)
      obtain ⟨x9, ex9⟩ : ∃ y : Int32, y = (v3 : Int32) + 1 := ⟨_, rfl⟩
      have hq := q_let hq ex9
      refine lv_iinc (v := x9) (lv' := [(4, .int x9), (3, .int x8), (0, .ref x0), (2, .int v1)]) hx hb dX3_greatestStep_38 hl (k := 3) rfl (by rw [ex9]; rfl) (by decide) rfl (fun ls hl => ?_)
      refine lv_goto (tgt := 7) hx hb dX3_greatestStep_41 (by decide) ?_
      exact ih x8 x9 hq ls (lv_sub hl [2, 3, 1, 0] rfl)
def F_X3_greatestStep (vv : Nat → Int32) (p1 : Int32) (p2 : Int32) : Option (Int32) := vlet (p1 + 1) fun x1 => F_X3_greatestStep_7 vv p2 2000 0 x1
set_option maxHeartbeats 4000000 in
set_option maxRecDepth 100000 in
theorem k_X3_greatestStep (l : Launch) (G : va_G) (g : Nat → ClassId) (x0 va ps sv tx tr vo : Nat) (sc : Int32) (vv : Nat → Int32) (p1 : Int32) (p2 : Int32) (res : Int32) (hq : F_X3_greatestStep vv p1 p2 = some res) : roC l yX3_greatestStep wsX3_greatestStep (rmF 1 20) G g [.ref x0, .int p1, .int p2] [(x0, .inr (3, [.ref ps, .ref sv, .int sc, .ref tx, .ref tr, .ref va, .ref vo])), (va, .inl (g 0, 1000, .inl vv))] (some (.int res)) := by
  refine roC.of (cc := cX3_greatestStep) (maxL := 5) (ret := (some .int)) (by decide) rfl (Nat.le_of_ble_eq_true rfl) ?_
  intro p e s m below meth c ls X K hP hl
  obtain ⟨hx, hb, hml, hr, hown, hts, hk⟩ := id X
  have hl : lv_has ls 5 [(0, .ref x0), (1, .int p1), (2, .int p2)] := hl
  unfold F_X3_greatestStep at hq
  refine lv_iconst (v := 0) hx hb dX3_greatestStep_0 (by decide) ?_
  refine lv_istore_n (lv' := [(3, .int 0), (0, .ref x0), (1, .int p1), (2, .int p2)]) hx hb dX3_greatestStep_1 rfl hl (by decide) rfl (fun ls hl => ?_)
  refine lv_iload_n hx hb dX3_greatestStep_2 rfl (lv_at hl 2 rfl) ?_
  refine lv_iconst (v := 1) hx hb dX3_greatestStep_3 (by decide) ?_
  refine lv_iadd hx hb dX3_greatestStep_4 ?_
  refine lv_topi (fun x1 ex1 => ?_)
  have hq := q_let hq ex1
  refine lv_istore (lv' := [(4, .int x1), (3, .int 0), (0, .ref x0), (1, .int p1), (2, .int p2)]) hx hb dX3_greatestStep_5 hl (by decide) rfl (fun ls hl => ?_)
  exact w_X3_greatestStep_7 X K x0 va ps sv tx tr vo sc vv p2 hP _ 2000 0 x1 hq ls (lv_sub hl [2, 4, 1, 0] rfl)
theorem in_X3_greatestDifference_X3 : ∀ w ∈ wsX30, w ∈ wsX3_greatestDifference := fun _ h => List.mem_cons_of_mem _ (List.mem_append_right _ h)
def F_X3_greatestDifference_5 (vv : Nat → Int32) (ov : Nat → Int32) (v1 : Int32) : Nat → Int32 → Int32 → Option (Int32)
  | 0, _, _ => none
  | n + 1, v2, v3 => if v1 < v3 then (some (v2)) else (vgd (ix (v3) 1000) <| vgd (ix (v3) 1000) <| vlet (if 0 ≤ ((vv v3.toNatClampNeg) - (ov v3.toNatClampNeg)) then ((vv v3.toNatClampNeg) - (ov v3.toNatClampNeg)) else 0 - ((vv v3.toNatClampNeg) - (ov v3.toNatClampNeg))) fun x7 => vlet (if v2 < x7 then x7 else v2) fun x8 => vlet ((v3 : Int32) + 1) fun x9 => F_X3_greatestDifference_5 vv ov v1 n x8 x9)
set_option maxHeartbeats 4000000 in
set_option maxRecDepth 100000 in
theorem w_X3_greatestDifference_5 {p : Program} {l : Launch} {e : Env} {s : State} {m : MethodId} {args : Array Value} {below : List Frame} {meth : Method} {c : Code} {G : va_G} {g : Nat → ClassId} (X : cx p s m args meth c cX3_greatestDifference 5 (some .int) RX3 wsX3_greatestDifference) (K : amb G g s) (x0 va vo ps sv tx tr : Nat) (sc : Int32) (vv : Nat → Int32) (ov : Nat → Int32) (v1 : Int32) (hP : va_P G vwCl [(x0, .inr (3, [.ref ps, .ref sv, .int sc, .ref tx, .ref tr, .ref va, .ref vo])), (va, .inl (g 0, 1000, .inl vv)), (vo, .inl (g 0, 1000, .inl ov))] s.heap) (res : Int32) : ∀ (n : Nat) (v2 : Int32) (v3 : Int32), F_X3_greatestDifference_5 vv ov v1 n v2 v3 = some res → ∀ (ls : Array Slot), lv_has ls 5 [(0, .ref x0), (2, .int v1), (3, .int v2), (4, .int v3)] → W p l e (rmF 1 20) s m args below meth c s.heap [] 0 0 (roM below (some (.int res)) args s) (F0 m 5 ls []) := by
  obtain ⟨hx, hb, hml, hr, hown, hts, hk⟩ := id X
  intro n
  induction n with
  | zero => intro v2 v3 hq; exact q_no hq
  | succ n ih =>
    intro v2 v3 hq ls hl
    rw [F_X3_greatestDifference_5] at hq
    refine lv_iload hx hb dX3_greatestDifference_5 (lv_at hl 3 rfl) ?_
    refine lv_iload_n hx hb dX3_greatestDifference_7 rfl (lv_at hl 1 rfl) ?_
    refine lv_icmp_gt (tgt := 40) hx hb dX3_greatestDifference_8 (by decide) (fun c4 => ?_) (fun c4 => ?_)
    · have hq := q_if_t hq c4
      refine lv_iload_n hx hb dX3_greatestDifference_40 rfl (lv_at hl 2 rfl) ?_
      obtain rfl := q_rt hq
      exact ro_iret hx hb hr hk dX3_greatestDifference_41
    · have hq := q_if_f hq c4
      refine lv_iload_n hx hb dX3_greatestDifference_11 rfl (lv_at hl 2 rfl) ?_
      refine lv_aload_n hx hb dX3_greatestDifference_12 rfl (lv_at hl 0 rfl) ?_
      refine va_get (D := G) (ci := 3) (v := .ref va) (C := RX3) (T := TX3) (N := 7) hx hb hts in_X3_greatestDifference_X3 hown K.1 hP 0 rfl rfl 5 (by decide) (hts _ (List.mem_of_getElem? (i := 1) rfl)) (fun _ h9 => h9) rfl dX3_greatestDifference_13 ?_
      refine lv_iload hx hb dX3_greatestDifference_16 (lv_at hl 3 rfl) ?_
      obtain ⟨hh5, hq⟩ := q_gd hq
      refine va_iald hx hb K.1 hP 1 0 rfl rfl (vp_in_iff.mpr hh5) dX3_greatestDifference_18 ?_
      refine lv_aload_n hx hb dX3_greatestDifference_19 rfl (lv_at hl 0 rfl) ?_
      refine va_get (D := G) (ci := 3) (v := .ref vo) (C := RX3) (T := TX3) (N := 7) hx hb hts in_X3_greatestDifference_X3 hown K.1 hP 0 rfl rfl 6 (by decide) (hts _ (List.mem_of_getElem? (i := 2) rfl)) (fun _ h9 => h9) rfl dX3_greatestDifference_20 ?_
      refine lv_iload hx hb dX3_greatestDifference_23 (lv_at hl 3 rfl) ?_
      obtain ⟨hh6, hq⟩ := q_gd hq
      refine va_iald hx hb K.1 hP 2 0 rfl rfl (vp_in_iff.mpr hh6) dX3_greatestDifference_25 ?_
      refine lv_isub hx hb dX3_greatestDifference_26 ?_
      refine va_mabs hx hb (hml.trans hl.1.symm) hown (hts _ (List.mem_of_getElem? (i := 3) rfl)) (hts _ (List.mem_of_getElem? (i := 4) rfl)) (hts _ (List.mem_of_getElem? (i := 5) rfl)) (hts _ (List.mem_of_getElem? (i := 6) rfl)) (Nat.le_of_ble_eq_true rfl) (Nat.le_of_ble_eq_true rfl) (Nat.zero_le _) (Nat.zero_le _) dX3_greatestDifference_27 ?_
      refine lv_topi (fun x7 ex7 => ?_)
      have hq := q_let hq ex7
      refine va_mmax hx hb (hml.trans hl.1.symm) hown (hts _ (List.mem_of_getElem? (i := 7) rfl)) (hts _ (List.mem_of_getElem? (i := 8) rfl)) (hts _ (List.mem_of_getElem? (i := 5) rfl)) (hts _ (List.mem_of_getElem? (i := 9) rfl)) (Nat.le_of_ble_eq_true rfl) (Nat.le_of_ble_eq_true rfl) (Nat.zero_le _) (Nat.zero_le _) dX3_greatestDifference_30 ?_
      refine lv_topi (fun x8 ex8 => ?_)
      have hq := q_let hq ex8
      refine lv_istore_n (lv' := [(3, .int x8), (0, .ref x0), (2, .int v1), (4, .int v3)]) hx hb dX3_greatestDifference_33 rfl hl (by decide) rfl (fun ls hl => ?_)
      obtain ⟨x9, ex9⟩ : ∃ y : Int32, y = (v3 : Int32) + 1 := ⟨_, rfl⟩
      have hq := q_let hq ex9
      refine lv_iinc (v := x9) (lv' := [(4, .int x9), (3, .int x8), (0, .ref x0), (2, .int v1)]) hx hb dX3_greatestDifference_34 hl (k := 3) rfl (by rw [ex9]; rfl) (by decide) rfl (fun ls hl => ?_)
      refine lv_goto (tgt := 5) hx hb dX3_greatestDifference_37 (by decide) ?_
      exact ih x8 x9 hq ls (lv_sub hl [2, 3, 1, 0] rfl)
def F_X3_greatestDifference (vv : Nat → Int32) (ov : Nat → Int32) (p1 : Int32) (p2 : Int32) : Option (Int32) := F_X3_greatestDifference_5 vv ov p2 2000 0 p1
set_option maxHeartbeats 4000000 in
set_option maxRecDepth 100000 in
theorem k_X3_greatestDifference (l : Launch) (G : va_G) (g : Nat → ClassId) (x0 va vo ps sv tx tr : Nat) (sc : Int32) (vv : Nat → Int32) (ov : Nat → Int32) (p1 : Int32) (p2 : Int32) (res : Int32) (hq : F_X3_greatestDifference vv ov p1 p2 = some res) : roC l yX3_greatestDifference wsX3_greatestDifference (rmF 1 20) G g [.ref x0, .int p1, .int p2] [(x0, .inr (3, [.ref ps, .ref sv, .int sc, .ref tx, .ref tr, .ref va, .ref vo])), (va, .inl (g 0, 1000, .inl vv)), (vo, .inl (g 0, 1000, .inl ov))] (some (.int res)) := by
  refine roC.of (cc := cX3_greatestDifference) (maxL := 5) (ret := (some .int)) (by decide) rfl (Nat.le_of_ble_eq_true rfl) ?_
  intro p e s m below meth c ls X K hP hl
  obtain ⟨hx, hb, hml, hr, hown, hts, hk⟩ := id X
  have hl : lv_has ls 5 [(0, .ref x0), (1, .int p1), (2, .int p2)] := hl
  unfold F_X3_greatestDifference at hq
  refine lv_iconst (v := 0) hx hb dX3_greatestDifference_0 (by decide) ?_
  refine lv_istore_n (lv' := [(3, .int 0), (0, .ref x0), (1, .int p1), (2, .int p2)]) hx hb dX3_greatestDifference_1 rfl hl (by decide) rfl (fun ls hl => ?_)
  refine lv_iload_n hx hb dX3_greatestDifference_2 rfl (lv_at hl 2 rfl) ?_
  refine lv_istore (lv' := [(4, .int p1), (3, .int 0), (0, .ref x0), (1, .int p1), (2, .int p2)]) hx hb dX3_greatestDifference_3 hl (by decide) rfl (fun ls hl => ?_)
  exact w_X3_greatestDifference_5 X K x0 va vo ps sv tx tr sc vv ov p2 hP _ 2000 0 p1 hq ls (lv_sub hl [2, 4, 1, 0] rfl)
theorem hd_X3_greatestDifference : ynm yX3_greatestDifference 2 := by unfold ynm; decide +kernel
theorem in_X3_differenceWithout_X0 : ∀ w ∈ wsX00, w ∈ wsX3_differenceWithout := fun _ h => List.mem_cons_of_mem _ (List.mem_append_left _ (List.mem_append_right _ h))
theorem in_X3_differenceWithout_X3 : ∀ w ∈ wsX30, w ∈ wsX3_differenceWithout := fun _ h => List.mem_cons_of_mem _ (List.mem_append_right _ h)
def F_X3_differenceWithout (vv : Nat → Int32) (ov : Nat → Int32) (cn : Int32) (cf : Nat → Int32) (tn : Int32) (tf : Nat → Int32) (p2 : Int32) : Option (Int32 × (Nat → Int32) × Int32 × (Nat → Int32)) := vlet (if (p2 - 2) < 0 then (0 : Int32) else (p2 - 2)) fun x1 => (F_X0_cell cn cf x1 0).bind fun r2 => vlet (if (cn - 1) < (p2 + 2) then (cn - 1) else (p2 + 2)) fun x4 => (F_X0_cell cn cf x4 0).bind fun r5 => (F_X0_become tn tf cn cf).bind fun o10 => (F_X0_takeOut o10.1 o10.2 p2).bind fun o14 => (F_X0_bake o14.1 o14.2 ov r2 r5).bind fun y15 => (F_X3_greatestDifference vv y15 r2 r5).bind fun r17 => some (r17, y15, o14.1, o14.2)
set_option maxHeartbeats 4000000 in
set_option maxRecDepth 100000 in
theorem k_X3_differenceWithout (l : Launch) (G : va_G) (g : Nat → ClassId) (x0 va vo h1 a1 tr ta ps sv tx : Nat) (sc : Int32) (vv : Nat → Int32) (ov : Nat → Int32) (cn : Int32) (cf : Nat → Int32) (tn : Int32) (tf : Nat → Int32) (p2 : Int32) (res : Int32 × (Nat → Int32) × Int32 × (Nat → Int32)) (hq : F_X3_differenceWithout vv ov cn cf tn tf p2 = some res) : rwC l yX3_differenceWithout wsX3_differenceWithout (rmF 4 105) G g [.ref x0, .ref h1, .int p2] [(x0, .inr (3, [.ref ps, .ref sv, .int sc, .ref tx, .ref tr, .ref va, .ref vo])), (va, .inl (g 0, 1000, .inl vv)), (vo, .inl (g 0, 1000, .inl ov)), (h1, .inr (0, [.int cn, .ref a1])), (a1, .inl (g 0, 96, .inl cf)), (tr, .inr (0, [.int tn, .ref ta])), (ta, .inl (g 0, 96, .inl tf))] (some (.int res.1)) [(x0, .inr (3, [.ref ps, .ref sv, .int sc, .ref tx, .ref tr, .ref va, .ref vo])), (va, .inl (g 0, 1000, .inl vv)), (vo, .inl (g 0, 1000, .inl res.2.1)), (h1, .inr (0, [.int cn, .ref a1])), (a1, .inl (g 0, 96, .inl cf)), (tr, .inr (0, [.int res.2.2.1, .ref ta])), (ta, .inl (g 0, 96, .inl res.2.2.2))] := by
  refine rwC.of (cc := cX3_differenceWithout) (maxL := 5) (ret := (some .int)) (by decide) rfl (Nat.le_of_ble_eq_true rfl) ?_
  intro p e s m below meth c ls A X K hA hP hD hS hl
  obtain ⟨hx, hb, hml, hr, hown, hts, hk⟩ := id X
  have hl : lv_has ls 5 [(0, .ref x0), (1, .ref h1), (2, .int p2)] := hl
  unfold F_X3_differenceWithout at hq
  refine lv_aload_n hx hb dX3_differenceWithout_0 rfl (lv_at hl 1 rfl) ?_
  refine lv_iload_n hx hb dX3_differenceWithout_1 rfl (lv_at hl 2 rfl) ?_
  refine lv_iconst (v := 2) hx hb dX3_differenceWithout_2 (by decide) ?_
  refine lv_isub hx hb dX3_differenceWithout_3 ?_
  refine lv_iconst (v := 0) hx hb dX3_differenceWithout_4 (by decide) ?_
  refine va_mmax hx hb (hml.trans hl.1.symm) hown (hts _ (List.mem_of_getElem? (i := 1) rfl)) (hts _ (List.mem_of_getElem? (i := 2) rfl)) (hts _ (List.mem_of_getElem? (i := 3) rfl)) (hts _ (List.mem_of_getElem? (i := 4) rfl)) (Nat.le_of_ble_eq_true rfl) (Nat.le_of_ble_eq_true rfl) (Nat.zero_le _) (Nat.zero_le _) dX3_differenceWithout_5 ?_
  refine lv_topi (fun x1 ex1 => ?_)
  have hq := q_let hq ex1
  refine lv_iconst (v := 0) hx hb dX3_differenceWithout_8 (by decide) ?_
  obtain ⟨r2, hh3, hq⟩ := q_bd hq
  refine roN (ci := 0) (host := RX3) (As := [.int x1, .int 0]) (rest := []) X K (k_X0_cell l G g h1 a1 cn cf x1 0 _ hh3) hd_X0_cell ggX3_differenceWithout_X0_cell (by decide +kernel) (List.mem_of_getElem? (i := 11) rfl) (List.mem_of_getElem? (i := 10) rfl) (List.mem_of_getElem? (i := 12) rfl) (hP.sub [3, 4] rfl) hl.1 dX3_differenceWithout_9 rfl rfl ⟨Nat.le_of_ble_eq_true rfl, Nat.le_of_ble_eq_true rfl⟩ rfl rfl rfl (Nat.le_of_ble_eq_true rfl) ⟨Nat.zero_le _, Nat.zero_le _⟩ ?_
  refine lv_istore_n (lv' := [(3, .int r2), (0, .ref x0), (1, .ref h1), (2, .int p2)]) hx hb dX3_differenceWithout_12 rfl hl (by decide) rfl (fun ls hl => ?_)
  refine lv_aload_n hx hb dX3_differenceWithout_13 rfl (lv_at hl 2 rfl) ?_
  refine lv_iload_n hx hb dX3_differenceWithout_14 rfl (lv_at hl 3 rfl) ?_
  refine lv_iconst (v := 2) hx hb dX3_differenceWithout_15 (by decide) ?_
  refine lv_iadd hx hb dX3_differenceWithout_16 ?_
  refine lv_aload_n hx hb dX3_differenceWithout_17 rfl (lv_at hl 2 rfl) ?_
  refine va_getN (D := G) (ci := 0) (v := .int cn) (C := RX0) (T := TX0) (N := 2) (host := RX3) hx hb hts in_X3_differenceWithout_X0 hown K.1 hP 3 rfl rfl 0 (by decide) ((K.2.2 (RX3, 53, RX0, "count", "I", RX3) (by decide +kernel)).use rfl) (fun _ h9 => h9) rfl dX3_differenceWithout_18 ?_
  refine lv_iconst (v := 1) hx hb dX3_differenceWithout_21 (by decide) ?_
  refine lv_isub hx hb dX3_differenceWithout_22 ?_
  refine va_mmin hx hb (hml.trans hl.1.symm) hown (hts _ (List.mem_of_getElem? (i := 5) rfl)) (hts _ (List.mem_of_getElem? (i := 6) rfl)) (hts _ (List.mem_of_getElem? (i := 3) rfl)) (hts _ (List.mem_of_getElem? (i := 7) rfl)) (Nat.le_of_ble_eq_true rfl) (Nat.le_of_ble_eq_true rfl) (Nat.zero_le _) (Nat.zero_le _) dX3_differenceWithout_23 ?_
  refine lv_topi (fun x4 ex4 => ?_)
  have hq := q_let hq ex4
  refine lv_iconst (v := 0) hx hb dX3_differenceWithout_26 (by decide) ?_
  obtain ⟨r5, hh6, hq⟩ := q_bd hq
  refine roN (ci := 0) (host := RX3) (As := [.int x4, .int 0]) (rest := []) X K (k_X0_cell l G g h1 a1 cn cf x4 0 _ hh6) hd_X0_cell ggX3_differenceWithout_X0_cell (by decide +kernel) (List.mem_of_getElem? (i := 11) rfl) (List.mem_of_getElem? (i := 10) rfl) (List.mem_of_getElem? (i := 12) rfl) (hP.sub [3, 4] rfl) hl.1 dX3_differenceWithout_27 rfl rfl ⟨Nat.le_of_ble_eq_true rfl, Nat.le_of_ble_eq_true rfl⟩ rfl rfl rfl (Nat.le_of_ble_eq_true rfl) ⟨Nat.zero_le _, Nat.zero_le _⟩ ?_
  refine lv_istore (lv' := [(4, .int r5), (3, .int r2), (0, .ref x0), (1, .ref h1), (2, .int p2)]) hx hb dX3_differenceWithout_30 hl (by decide) rfl (fun ls hl => ?_)
  refine lv_aload_n hx hb dX3_differenceWithout_32 rfl (lv_at hl 2 rfl) ?_
  refine va_get (D := G) (ci := 3) (v := .ref tr) (C := RX3) (T := TX3) (N := 7) hx hb hts in_X3_differenceWithout_X3 hown K.1 hP 0 rfl rfl 4 (by decide) (hts _ (List.mem_of_getElem? (i := 8) rfl)) (fun _ h9 => h9) rfl dX3_differenceWithout_33 ?_
  refine lv_aload_n hx hb dX3_differenceWithout_36 rfl (lv_at hl 3 rfl) ?_
  obtain ⟨⟨y7, y8⟩, hh9, hq⟩ := q_bd hq
  refine rwN (ci := 0) (host := RX3) (wr := [(x0, .inr (3, [.ref ps, .ref sv, .int sc, .ref tx, .ref tr, .ref va, .ref vo])), (va, .inl (g 0, 1000, .inl vv)), (vo, .inl (g 0, 1000, .inl ov))]) (As := [.ref h1]) (rest := []) X K (k_X0_become l G g tr ta h1 a1 tn tf cn cf _ hh9) hd_X0_become ggX3_differenceWithout_X0_become (by decide +kernel) (List.mem_of_getElem? (i := 11) rfl) (List.mem_of_getElem? (i := 16) rfl) (List.mem_of_getElem? (i := 17) rfl) hP hD hS hA [5, 6, 3, 4] [0, 1, 2] rfl rfl ⟨by decide, by decide, by decide⟩ hl.1 dX3_differenceWithout_37 rfl rfl ⟨Nat.le_of_ble_eq_true rfl, Nat.le_of_ble_eq_true rfl⟩ rfl rfl rfl (Nat.le_of_ble_eq_true rfl) ⟨Nat.zero_le _, Nat.zero_le _⟩ (fun H locs hP hD hS => ?_)
  have hP : va_P G vwCl [(x0, .inr (3, [.ref ps, .ref sv, .int sc, .ref tx, .ref tr, .ref va, .ref vo])), (va, .inl (g 0, 1000, .inl vv)), (vo, .inl (g 0, 1000, .inl ov)), (h1, .inr (0, [.int cn, .ref a1])), (a1, .inl (g 0, 96, .inl cf)), (tr, .inr (0, [.int y7, .ref ta])), (ta, .inl (g 0, 96, .inl y8))] H := hP.sub [0, 1, 2, 5, 6, 3, 4] rfl
  have hD : va_D A [(x0, .inr (3, [.ref ps, .ref sv, .int sc, .ref tx, .ref tr, .ref va, .ref vo])), (va, .inl (g 0, 1000, .inl vv)), (vo, .inl (g 0, 1000, .inl ov)), (h1, .inr (0, [.int cn, .ref a1])), (a1, .inl (g 0, 96, .inl cf)), (tr, .inr (0, [.int y7, .ref ta])), (ta, .inl (g 0, 96, .inl y8))] := hD.sub [0, 1, 2, 5, 6, 3, 4] (by decide) rfl
  refine lv_aload_n hx hb dX3_differenceWithout_40 rfl (lv_at hl 2 rfl) ?_
  refine va_get (D := G) (ci := 3) (v := .ref tr) (C := RX3) (T := TX3) (N := 7) hx hb hts in_X3_differenceWithout_X3 hown K.1 hP 0 rfl rfl 4 (by decide) (hts _ (List.mem_of_getElem? (i := 8) rfl)) (fun _ h9 => h9) rfl dX3_differenceWithout_41 ?_
  refine lv_iload_n hx hb dX3_differenceWithout_44 rfl (lv_at hl 4 rfl) ?_
  obtain ⟨⟨y11, y12⟩, hh13, hq⟩ := q_bd hq
  refine rwN (ci := 0) (host := RX3) (wr := [(x0, .inr (3, [.ref ps, .ref sv, .int sc, .ref tx, .ref tr, .ref va, .ref vo])), (va, .inl (g 0, 1000, .inl vv)), (vo, .inl (g 0, 1000, .inl ov)), (h1, .inr (0, [.int cn, .ref a1])), (a1, .inl (g 0, 96, .inl cf))]) (As := [.int p2]) (rest := []) X K (k_X0_takeOut l G g tr ta y7 y8 p2 _ hh13) hd_X0_takeOut ggX3_differenceWithout_X0_takeOut (by decide +kernel) (List.mem_of_getElem? (i := 11) rfl) (List.mem_of_getElem? (i := 23) rfl) (List.mem_of_getElem? (i := 24) rfl) hP hD hS hA [5, 6] [0, 1, 2, 3, 4] rfl rfl ⟨by decide, by decide, by decide⟩ hl.1 dX3_differenceWithout_45 rfl rfl ⟨Nat.le_of_ble_eq_true rfl, Nat.le_of_ble_eq_true rfl⟩ rfl rfl rfl (Nat.le_of_ble_eq_true rfl) ⟨Nat.zero_le _, Nat.zero_le _⟩ (fun H locs hP hD hS => ?_)
  have hP : va_P G vwCl [(x0, .inr (3, [.ref ps, .ref sv, .int sc, .ref tx, .ref tr, .ref va, .ref vo])), (va, .inl (g 0, 1000, .inl vv)), (vo, .inl (g 0, 1000, .inl ov)), (h1, .inr (0, [.int cn, .ref a1])), (a1, .inl (g 0, 96, .inl cf)), (tr, .inr (0, [.int y11, .ref ta])), (ta, .inl (g 0, 96, .inl y12))] H := hP
  have hD : va_D A [(x0, .inr (3, [.ref ps, .ref sv, .int sc, .ref tx, .ref tr, .ref va, .ref vo])), (va, .inl (g 0, 1000, .inl vv)), (vo, .inl (g 0, 1000, .inl ov)), (h1, .inr (0, [.int cn, .ref a1])), (a1, .inl (g 0, 96, .inl cf)), (tr, .inr (0, [.int y11, .ref ta])), (ta, .inl (g 0, 96, .inl y12))] := hD
  refine lv_aload_n hx hb dX3_differenceWithout_48 rfl (lv_at hl 2 rfl) ?_
  refine va_get (D := G) (ci := 3) (v := .ref tr) (C := RX3) (T := TX3) (N := 7) hx hb hts in_X3_differenceWithout_X3 hown K.1 hP 0 rfl rfl 4 (by decide) (hts _ (List.mem_of_getElem? (i := 8) rfl)) (fun _ h9 => h9) rfl dX3_differenceWithout_49 ?_
  refine lv_aload_n hx hb dX3_differenceWithout_52 rfl (lv_at hl 2 rfl) ?_
  refine va_get (D := G) (ci := 3) (v := .ref vo) (C := RX3) (T := TX3) (N := 7) hx hb hts in_X3_differenceWithout_X3 hown K.1 hP 0 rfl rfl 6 (by decide) (hts _ (List.mem_of_getElem? (i := 9) rfl)) (fun _ h9 => h9) rfl dX3_differenceWithout_53 ?_
  refine lv_iload_n hx hb dX3_differenceWithout_56 rfl (lv_at hl 1 rfl) ?_
  refine lv_iload hx hb dX3_differenceWithout_57 (lv_at hl 0 rfl) ?_
  obtain ⟨y15, hh16, hq⟩ := q_bd hq
  refine rwN (ci := 0) (host := RX3) (wr := [(x0, .inr (3, [.ref ps, .ref sv, .int sc, .ref tx, .ref tr, .ref va, .ref vo])), (va, .inl (g 0, 1000, .inl vv)), (h1, .inr (0, [.int cn, .ref a1])), (a1, .inl (g 0, 96, .inl cf))]) (As := [.ref vo, .int r2, .int r5]) (rest := []) X K (k_X0_bake l G g tr ta vo y11 y12 ov r2 r5 _ hh16) hd_X0_bake ggX3_differenceWithout_X0_bake (by decide +kernel) (List.mem_of_getElem? (i := 11) rfl) (List.mem_of_getElem? (i := 26) rfl) (List.mem_of_getElem? (i := 27) rfl) hP hD hS hA [5, 6, 2] [0, 1, 3, 4] rfl rfl ⟨by decide, by decide, by decide⟩ hl.1 dX3_differenceWithout_59 rfl rfl ⟨Nat.le_of_ble_eq_true rfl, Nat.le_of_ble_eq_true rfl⟩ rfl rfl rfl (Nat.le_of_ble_eq_true rfl) ⟨Nat.zero_le _, Nat.zero_le _⟩ (fun H locs hP hD hS => ?_)
  have hP : va_P G vwCl [(x0, .inr (3, [.ref ps, .ref sv, .int sc, .ref tx, .ref tr, .ref va, .ref vo])), (va, .inl (g 0, 1000, .inl vv)), (vo, .inl (g 0, 1000, .inl y15)), (h1, .inr (0, [.int cn, .ref a1])), (a1, .inl (g 0, 96, .inl cf)), (tr, .inr (0, [.int y11, .ref ta])), (ta, .inl (g 0, 96, .inl y12))] H := hP.sub [0, 1, 6, 2, 3, 4, 5] rfl
  have hD : va_D A [(x0, .inr (3, [.ref ps, .ref sv, .int sc, .ref tx, .ref tr, .ref va, .ref vo])), (va, .inl (g 0, 1000, .inl vv)), (vo, .inl (g 0, 1000, .inl y15)), (h1, .inr (0, [.int cn, .ref a1])), (a1, .inl (g 0, 96, .inl cf)), (tr, .inr (0, [.int y11, .ref ta])), (ta, .inl (g 0, 96, .inl y12))] := hD.sub [0, 1, 6, 2, 3, 4, 5] (by decide) rfl
  refine lv_aload_n hx hb dX3_differenceWithout_62 rfl (lv_at hl 2 rfl) ?_
  refine lv_iload_n hx hb dX3_differenceWithout_63 rfl (lv_at hl 1 rfl) ?_
  refine lv_iload hx hb dX3_differenceWithout_64 (lv_at hl 0 rfl) ?_
  obtain ⟨r17, hh18, hq⟩ := q_bd hq
  refine roV (ci := 3) (As := [.int r2, .int r5]) (rest := []) X K (k_X3_greatestDifference l G g x0 va vo ps sv tx tr sc vv y15 r2 r5 _ hh18) hd_X3_greatestDifference gX3_differenceWithout_X3_greatestDifference (hP.sub [0, 1, 2] rfl) hl.1 dX3_differenceWithout_66 rfl rfl ⟨Nat.le_of_ble_eq_true rfl, Nat.le_of_ble_eq_true rfl⟩ rfl rfl rfl (Nat.le_of_ble_eq_true rfl) ⟨Nat.zero_le _, Nat.zero_le _⟩ ?_
  obtain rfl := q_rt hq
  exact rw_iret hx hb hr hk hP hD hS dX3_differenceWithout_69
theorem hd_X0_mayLeaveOut : ynm yX0_mayLeaveOut 1 := by unfold ynm; decide +kernel
theorem hd_X3_differenceWithout : ynm yX3_differenceWithout 2 := by unfold ynm; decide +kernel
theorem in_X3_keyToLeaveOut_X0 : ∀ w ∈ wsX00, w ∈ wsX3_keyToLeaveOut := fun _ h => List.mem_cons_of_mem _ (List.mem_append_right _ h)
theorem in_X3_keyToLeaveOut_X3 : ∀ w ∈ wsX30, w ∈ wsX3_keyToLeaveOut := fun _ h => List.mem_cons_of_mem _ (List.mem_append_left _ (List.mem_append_right _ h))
def F_X3_keyToLeaveOut_22 (vv : Nat → Int32) (cn : Int32) (cf : Nat → Int32) : Nat → (Nat → Int32) → Int32 → (Nat → Int32) → Int32 → Int32 → Int32 → Option (Int32 × (Nat → Int32) × (Nat → Int32) × Int32 × (Nat → Int32))
  | 0, _, _, _, _, _, _ => none
  | n + 1, ov, tn, tf, v1, v2, v3 => if cn ≤ v3 then (some (v1, vv, ov, tn, tf)) else ((F_X0_mayLeaveOut cn cf v3).bind fun r5 => if r5 = 0 then (vlet ((v3 : Int32) + 1) fun x8 => F_X3_keyToLeaveOut_22 vv cn cf n ov tn tf v1 v2 x8) else ((F_X3_differenceWithout vv ov cn cf tn tf v3).bind fun o14 => if v2 ≤ o14.1 then (vlet ((v3 : Int32) + 1) fun x16 => F_X3_keyToLeaveOut_22 vv cn cf n o14.2.1 o14.2.2.1 o14.2.2.2 v1 v2 x16) else (vlet ((v3 : Int32) + 1) fun x17 => F_X3_keyToLeaveOut_22 vv cn cf n o14.2.1 o14.2.2.1 o14.2.2.2 v3 o14.1 x17)))
set_option maxHeartbeats 4000000 in
set_option maxRecDepth 100000 in
theorem w_X3_keyToLeaveOut_22 {p : Program} {l : Launch} {e : Env} {s : State} {m : MethodId} {args : Array Value} {below : List Frame} {meth : Method} {c : Code} {G : va_G} {g : Nat → ClassId} (X : cx p s m args meth c cX3_keyToLeaveOut 7 (some .int) RX3 wsX3_keyToLeaveOut) (K : amb G g s) {A : Nat → Prop} (hA : ∀ q : Nat, s.heap.size ≤ q → A q) (x0 va vo h1 a1 tr ta ps sv tx : Nat) (sc : Int32) (vv : Nat → Int32) (cn : Int32) (cf : Nat → Int32) (res : Int32 × (Nat → Int32) × (Nat → Int32) × Int32 × (Nat → Int32)) : ∀ (n : Nat) (ov : Nat → Int32) (tn : Int32) (tf : Nat → Int32) (v1 : Int32) (v2 : Int32) (v3 : Int32), F_X3_keyToLeaveOut_22 vv cn cf n ov tn tf v1 v2 v3 = some res → ∀ (H : Heap) (locs : List Loc), va_P G vwCl [(x0, .inr (3, [.ref ps, .ref sv, .int sc, .ref tx, .ref tr, .ref va, .ref vo])), (va, .inl (g 0, 1000, .inl vv)), (vo, .inl (g 0, 1000, .inl ov)), (h1, .inr (0, [.int cn, .ref a1])), (a1, .inl (g 0, 96, .inl cf)), (tr, .inr (0, [.int tn, .ref ta])), (ta, .inl (g 0, 96, .inl tf))] H → va_D A [(x0, .inr (3, [.ref ps, .ref sv, .int sc, .ref tx, .ref tr, .ref va, .ref vo])), (va, .inl (g 0, 1000, .inl vv)), (vo, .inl (g 0, 1000, .inl ov)), (h1, .inr (0, [.int cn, .ref a1])), (a1, .inl (g 0, 96, .inl cf)), (tr, .inr (0, [.int tn, .ref ta])), (ta, .inl (g 0, 96, .inl tf))] → va_S A s.heap H locs → ∀ (ls : Array Slot), lv_has ls 7 [(0, .ref x0), (1, .ref h1), (3, .int v1), (4, .int v2), (5, .int v3)] → W p l e (rmF 5 129) s m args below meth c H locs 0 0 (rwM G A below (some (.int res.1)) [(x0, .inr (3, [.ref ps, .ref sv, .int sc, .ref tx, .ref tr, .ref va, .ref vo])), (va, .inl (g 0, 1000, .inl res.2.1)), (vo, .inl (g 0, 1000, .inl res.2.2.1)), (h1, .inr (0, [.int cn, .ref a1])), (a1, .inl (g 0, 96, .inl cf)), (tr, .inr (0, [.int res.2.2.2.1, .ref ta])), (ta, .inl (g 0, 96, .inl res.2.2.2.2))] args s) (F0 m 22 ls []) := by
  obtain ⟨hx, hb, hml, hr, hown, hts, hk⟩ := id X
  intro n
  induction n with
  | zero => intro ov tn tf v1 v2 v3 hq; exact q_no hq
  | succ n ih =>
    intro ov tn tf v1 v2 v3 hq H locs hP hD hS ls hl
    rw [F_X3_keyToLeaveOut_22] at hq
    refine lv_iload hx hb dX3_keyToLeaveOut_22 (lv_at hl 4 rfl) ?_
    refine lv_aload_n hx hb dX3_keyToLeaveOut_24 rfl (lv_at hl 1 rfl) ?_
    refine va_getN (D := G) (ci := 0) (v := .int cn) (C := RX0) (T := TX0) (N := 2) (host := RX3) hx hb hts in_X3_keyToLeaveOut_X0 hown K.1 hP 3 rfl rfl 0 (by decide) ((K.2.2 (RX3, 53, RX0, "count", "I", RX3) (by decide +kernel)).use rfl) (fun _ h9 => h9) rfl dX3_keyToLeaveOut_25 ?_
    refine lv_icmp_ge (tgt := 69) hx hb dX3_keyToLeaveOut_28 (by decide) (fun c4 => ?_) (fun c4 => ?_)
    · have hq := q_if_t hq c4
      refine lv_iload_n hx hb dX3_keyToLeaveOut_69 rfl (lv_at hl 2 rfl) ?_
      obtain rfl := q_rt hq
      exact rw_iret hx hb hr hk hP hD hS dX3_keyToLeaveOut_70
    · have hq := q_if_f hq c4
      refine lv_aload_n hx hb dX3_keyToLeaveOut_31 rfl (lv_at hl 1 rfl) ?_
      refine lv_iload hx hb dX3_keyToLeaveOut_32 (lv_at hl 4 rfl) ?_
      obtain ⟨r5, hh6, hq⟩ := q_bd hq
      refine roN (ci := 0) (host := RX3) (As := [.int v3]) (rest := []) X K (k_X0_mayLeaveOut l G g h1 a1 cn cf v3 _ hh6) hd_X0_mayLeaveOut ggX3_keyToLeaveOut_X0_mayLeaveOut (by decide +kernel) (List.mem_of_getElem? (i := 3) rfl) (List.mem_of_getElem? (i := 40) rfl) (List.mem_of_getElem? (i := 41) rfl) (hP.sub [3, 4] rfl) hl.1 dX3_keyToLeaveOut_34 rfl rfl ⟨Nat.le_of_ble_eq_true rfl, Nat.le_of_ble_eq_true rfl⟩ rfl rfl rfl (Nat.le_of_ble_eq_true rfl) ⟨Nat.zero_le _, Nat.zero_le _⟩ ?_
      refine lv_if_eq (tgt := 63) hx hb dX3_keyToLeaveOut_37 (by decide) (fun c7 => ?_) (fun c7 => ?_)
      · have hq := q_if_t hq c7
        obtain ⟨x8, ex8⟩ : ∃ y : Int32, y = (v3 : Int32) + 1 := ⟨_, rfl⟩
        have hq := q_let hq ex8
        refine lv_iinc (v := x8) (lv' := [(5, .int x8), (0, .ref x0), (1, .ref h1), (3, .int v1), (4, .int v2)]) hx hb dX3_keyToLeaveOut_63 hl (k := 4) rfl (by rw [ex8]; rfl) (by decide) rfl (fun ls hl => ?_)
        refine lv_goto (tgt := 22) hx hb dX3_keyToLeaveOut_66 (by decide) ?_
        exact ih ov tn tf v1 v2 x8 hq _ _ hP hD hS ls (lv_sub hl [1, 2, 3, 4, 0] rfl)
      · have hq := q_if_f hq c7
        refine lv_aload_n hx hb dX3_keyToLeaveOut_40 rfl (lv_at hl 0 rfl) ?_
        refine lv_aload_n hx hb dX3_keyToLeaveOut_41 rfl (lv_at hl 1 rfl) ?_
        refine lv_iload hx hb dX3_keyToLeaveOut_42 (lv_at hl 4 rfl) ?_
        obtain ⟨⟨r9, y10, y11, y12⟩, hh13, hq⟩ := q_bd hq
        refine rwV (ci := 3) (wr := []) (As := [.ref h1, .int v3]) (rest := []) X K (k_X3_differenceWithout l G g x0 va vo h1 a1 tr ta ps sv tx sc vv ov cn cf tn tf v3 _ hh13) hd_X3_differenceWithout gX3_keyToLeaveOut_X3_differenceWithout hP hD hS hA [0, 1, 2, 3, 4, 5, 6] [] rfl rfl ⟨by decide, by decide, by decide⟩ hl.1 dX3_keyToLeaveOut_44 rfl rfl ⟨Nat.le_of_ble_eq_true rfl, Nat.le_of_ble_eq_true rfl⟩ rfl rfl rfl (Nat.le_of_ble_eq_true rfl) ⟨Nat.zero_le _, Nat.zero_le _⟩ (fun H locs hP hD hS => ?_)
        have hP : va_P G vwCl [(x0, .inr (3, [.ref ps, .ref sv, .int sc, .ref tx, .ref tr, .ref va, .ref vo])), (va, .inl (g 0, 1000, .inl vv)), (vo, .inl (g 0, 1000, .inl y10)), (h1, .inr (0, [.int cn, .ref a1])), (a1, .inl (g 0, 96, .inl cf)), (tr, .inr (0, [.int y11, .ref ta])), (ta, .inl (g 0, 96, .inl y12))] H := hP
        have hD : va_D A [(x0, .inr (3, [.ref ps, .ref sv, .int sc, .ref tx, .ref tr, .ref va, .ref vo])), (va, .inl (g 0, 1000, .inl vv)), (vo, .inl (g 0, 1000, .inl y10)), (h1, .inr (0, [.int cn, .ref a1])), (a1, .inl (g 0, 96, .inl cf)), (tr, .inr (0, [.int y11, .ref ta])), (ta, .inl (g 0, 96, .inl y12))] := hD
        refine lv_istore (lv' := [(6, .int r9), (0, .ref x0), (1, .ref h1), (3, .int v1), (4, .int v2), (5, .int v3)]) hx hb dX3_keyToLeaveOut_47 hl (by decide) rfl (fun ls hl => ?_)
        refine lv_iload hx hb dX3_keyToLeaveOut_49 (lv_at hl 0 rfl) ?_
        refine lv_iload hx hb dX3_keyToLeaveOut_51 (lv_at hl 4 rfl) ?_
        refine lv_icmp_ge (tgt := 63) hx hb dX3_keyToLeaveOut_53 (by decide) (fun c15 => ?_) (fun c15 => ?_)
        · have hq := q_if_t hq c15
          obtain ⟨x16, ex16⟩ : ∃ y : Int32, y = (v3 : Int32) + 1 := ⟨_, rfl⟩
          have hq := q_let hq ex16
          refine lv_iinc (v := x16) (lv' := [(5, .int x16), (6, .int r9), (0, .ref x0), (1, .ref h1), (3, .int v1), (4, .int v2)]) hx hb dX3_keyToLeaveOut_63 hl (k := 5) rfl (by rw [ex16]; rfl) (by decide) rfl (fun ls hl => ?_)
          refine lv_goto (tgt := 22) hx hb dX3_keyToLeaveOut_66 (by decide) ?_
          exact ih y10 y11 y12 v1 v2 x16 hq _ _ hP hD hS ls (lv_sub hl [2, 3, 4, 5, 0] rfl)
        · have hq := q_if_f hq c15
          refine lv_iload hx hb dX3_keyToLeaveOut_56 (lv_at hl 5 rfl) ?_
          refine lv_istore_n (lv' := [(3, .int v3), (6, .int r9), (0, .ref x0), (1, .ref h1), (4, .int v2), (5, .int v3)]) hx hb dX3_keyToLeaveOut_58 rfl hl (by decide) rfl (fun ls hl => ?_)
          refine lv_iload hx hb dX3_keyToLeaveOut_59 (lv_at hl 1 rfl) ?_
          refine lv_istore (lv' := [(4, .int r9), (3, .int v3), (6, .int r9), (0, .ref x0), (1, .ref h1), (5, .int v3)]) hx hb dX3_keyToLeaveOut_61 hl (by decide) rfl (fun ls hl => ?_)
          obtain ⟨x17, ex17⟩ : ∃ y : Int32, y = (v3 : Int32) + 1 := ⟨_, rfl⟩
          have hq := q_let hq ex17
          refine lv_iinc (v := x17) (lv' := [(5, .int x17), (4, .int r9), (3, .int v3), (6, .int r9), (0, .ref x0), (1, .ref h1)]) hx hb dX3_keyToLeaveOut_63 hl (k := 5) rfl (by rw [ex17]; rfl) (by decide) rfl (fun ls hl => ?_)
          refine lv_goto (tgt := 22) hx hb dX3_keyToLeaveOut_66 (by decide) ?_
          exact ih y10 y11 y12 v3 r9 x17 hq _ _ hP hD hS ls (lv_sub hl [4, 5, 2, 1, 0] rfl)
def F_X3_keyToLeaveOut (vv : Nat → Int32) (ov : Nat → Int32) (cn : Int32) (cf : Nat → Int32) (tn : Int32) (tf : Nat → Int32) (p2 : Int32) : Option (Int32 × (Nat → Int32) × (Nat → Int32) × Int32 × (Nat → Int32)) := (F_X0_bake cn cf vv 0 999).bind fun y1 => vlet (p2 + 1) fun x3 => F_X3_keyToLeaveOut_22 y1 cn cf 2000 ov tn tf (-1) x3 0
set_option maxHeartbeats 4000000 in
set_option maxRecDepth 100000 in
theorem k_X3_keyToLeaveOut (l : Launch) (G : va_G) (g : Nat → ClassId) (x0 va vo h1 a1 tr ta ps sv tx : Nat) (sc : Int32) (vv : Nat → Int32) (ov : Nat → Int32) (cn : Int32) (cf : Nat → Int32) (tn : Int32) (tf : Nat → Int32) (p2 : Int32) (res : Int32 × (Nat → Int32) × (Nat → Int32) × Int32 × (Nat → Int32)) (hq : F_X3_keyToLeaveOut vv ov cn cf tn tf p2 = some res) : rwC l yX3_keyToLeaveOut wsX3_keyToLeaveOut (rmF 5 129) G g [.ref x0, .ref h1, .int p2] [(x0, .inr (3, [.ref ps, .ref sv, .int sc, .ref tx, .ref tr, .ref va, .ref vo])), (va, .inl (g 0, 1000, .inl vv)), (vo, .inl (g 0, 1000, .inl ov)), (h1, .inr (0, [.int cn, .ref a1])), (a1, .inl (g 0, 96, .inl cf)), (tr, .inr (0, [.int tn, .ref ta])), (ta, .inl (g 0, 96, .inl tf))] (some (.int res.1)) [(x0, .inr (3, [.ref ps, .ref sv, .int sc, .ref tx, .ref tr, .ref va, .ref vo])), (va, .inl (g 0, 1000, .inl res.2.1)), (vo, .inl (g 0, 1000, .inl res.2.2.1)), (h1, .inr (0, [.int cn, .ref a1])), (a1, .inl (g 0, 96, .inl cf)), (tr, .inr (0, [.int res.2.2.2.1, .ref ta])), (ta, .inl (g 0, 96, .inl res.2.2.2.2))] := by
  refine rwC.of (cc := cX3_keyToLeaveOut) (maxL := 7) (ret := (some .int)) (by decide) rfl (Nat.le_of_ble_eq_true rfl) ?_
  intro p e s m below meth c ls A X K hA hP hD hS hl
  obtain ⟨hx, hb, hml, hr, hown, hts, hk⟩ := id X
  have hl : lv_has ls 7 [(0, .ref x0), (1, .ref h1), (2, .int p2)] := hl
  unfold F_X3_keyToLeaveOut at hq
  refine lv_aload_n hx hb dX3_keyToLeaveOut_0 rfl (lv_at hl 1 rfl) ?_
  refine lv_aload_n hx hb dX3_keyToLeaveOut_1 rfl (lv_at hl 0 rfl) ?_
  refine va_get (D := G) (ci := 3) (v := .ref va) (C := RX3) (T := TX3) (N := 7) hx hb hts in_X3_keyToLeaveOut_X3 hown K.1 hP 0 rfl rfl 5 (by decide) (hts _ (List.mem_of_getElem? (i := 1) rfl)) (fun _ h9 => h9) rfl dX3_keyToLeaveOut_2 ?_
  refine lv_iconst (v := 0) hx hb dX3_keyToLeaveOut_5 (by decide) ?_
  refine lv_sipush (v := 999) hx hb dX3_keyToLeaveOut_6 (by decide) ?_
  obtain ⟨y1, hh2, hq⟩ := q_bd hq
  refine rwN (ci := 0) (host := RX3) (wr := [(x0, .inr (3, [.ref ps, .ref sv, .int sc, .ref tx, .ref tr, .ref va, .ref vo])), (vo, .inl (g 0, 1000, .inl ov)), (tr, .inr (0, [.int tn, .ref ta])), (ta, .inl (g 0, 96, .inl tf))]) (As := [.ref va, .int 0, .int 999]) (rest := []) X K (k_X0_bake l G g h1 a1 va cn cf vv 0 999 _ hh2) hd_X0_bake ggX3_keyToLeaveOut_X0_bake (by decide +kernel) (List.mem_of_getElem? (i := 3) rfl) (List.mem_of_getElem? (i := 2) rfl) (List.mem_of_getElem? (i := 4) rfl) hP hD hS hA [3, 4, 1] [0, 2, 5, 6] rfl rfl ⟨by decide, by decide, by decide⟩ hl.1 dX3_keyToLeaveOut_9 rfl rfl ⟨Nat.le_of_ble_eq_true rfl, Nat.le_of_ble_eq_true rfl⟩ rfl rfl rfl (Nat.le_of_ble_eq_true rfl) ⟨Nat.zero_le _, Nat.zero_le _⟩ (fun H locs hP hD hS => ?_)
  have hP : va_P G vwCl [(x0, .inr (3, [.ref ps, .ref sv, .int sc, .ref tx, .ref tr, .ref va, .ref vo])), (va, .inl (g 0, 1000, .inl y1)), (vo, .inl (g 0, 1000, .inl ov)), (h1, .inr (0, [.int cn, .ref a1])), (a1, .inl (g 0, 96, .inl cf)), (tr, .inr (0, [.int tn, .ref ta])), (ta, .inl (g 0, 96, .inl tf))] H := hP.sub [0, 6, 1, 4, 5, 2, 3] rfl
  have hD : va_D A [(x0, .inr (3, [.ref ps, .ref sv, .int sc, .ref tx, .ref tr, .ref va, .ref vo])), (va, .inl (g 0, 1000, .inl y1)), (vo, .inl (g 0, 1000, .inl ov)), (h1, .inr (0, [.int cn, .ref a1])), (a1, .inl (g 0, 96, .inl cf)), (tr, .inr (0, [.int tn, .ref ta])), (ta, .inl (g 0, 96, .inl tf))] := hD.sub [0, 6, 1, 4, 5, 2, 3] (by decide) rfl
  refine lv_iconst (v := (-1)) hx hb dX3_keyToLeaveOut_12 (by decide) ?_
  refine lv_istore_n (lv' := [(3, .int (-1)), (0, .ref x0), (1, .ref h1), (2, .int p2)]) hx hb dX3_keyToLeaveOut_13 rfl hl (by decide) rfl (fun ls hl => ?_)
  refine lv_iload_n hx hb dX3_keyToLeaveOut_14 rfl (lv_at hl 3 rfl) ?_
  refine lv_iconst (v := 1) hx hb dX3_keyToLeaveOut_15 (by decide) ?_
  refine lv_iadd hx hb dX3_keyToLeaveOut_16 ?_
  refine lv_topi (fun x3 ex3 => ?_)
  have hq := q_let hq ex3
  refine lv_istore (lv' := [(4, .int x3), (3, .int (-1)), (0, .ref x0), (1, .ref h1), (2, .int p2)]) hx hb dX3_keyToLeaveOut_17 hl (by decide) rfl (fun ls hl => ?_)
  refine lv_iconst (v := 0) hx hb dX3_keyToLeaveOut_19 (by decide) ?_
  refine lv_istore (lv' := [(5, .int 0), (4, .int x3), (3, .int (-1)), (0, .ref x0), (1, .ref h1), (2, .int p2)]) hx hb dX3_keyToLeaveOut_20 hl (by decide) rfl (fun ls hl => ?_)
  exact w_X3_keyToLeaveOut_22 X K hA x0 va vo h1 a1 tr ta ps sv tx sc y1 cn cf _ 2000 ov tn tf (-1) x3 0 hq _ _ hP hD hS ls (lv_sub hl [3, 4, 2, 1, 0] rfl)
def F_X3_requireRange (p1 : Int32) (p2 : Int32) (p3 : Int32) : Option (Sum Nat (Unit)) := if p1 < p2 then (some (.inl 2)) else (if p1 ≤ p3 then (some (.inr ())) else (some (.inl 2)))
set_option maxHeartbeats 4000000 in
set_option maxRecDepth 100000 in
theorem k_X3_requireRange (l : Launch) (G : va_G) (g : Nat → ClassId) (p1 : Int32) (p2 : Int32) (p3 : Int32) (res : Unit) (hq : F_X3_requireRange p1 p2 p3 = some (.inr res)) : roC l yX3_requireRange wsX3_requireRange (rmF 0 0) G g [.int p1, .int p2, .int p3] [] none := by
  refine roC.of (cc := cX3_requireRange) (maxL := 3) (ret := none) (by decide) rfl (Nat.le_of_ble_eq_true rfl) ?_
  intro p e s m below meth c ls X K hP hl
  obtain ⟨hx, hb, hml, hr, hown, hts, hk⟩ := id X
  have hl : lv_has ls 3 [(0, .int p1), (1, .int p2), (2, .int p3)] := hl
  unfold F_X3_requireRange at hq
  refine lv_iload_n hx hb dX3_requireRange_0 rfl (lv_at hl 0 rfl) ?_
  refine lv_iload_n hx hb dX3_requireRange_1 rfl (lv_at hl 1 rfl) ?_
  refine lv_icmp_lt (tgt := 10) hx hb dX3_requireRange_2 (by decide) (fun c1 => ?_) (fun c1 => ?_)
  · have hq := q_if_t hq c1
    exact q_lr hq
  · have hq := q_if_f hq c1
    refine lv_iload_n hx hb dX3_requireRange_5 rfl (lv_at hl 0 rfl) ?_
    refine lv_iload_n hx hb dX3_requireRange_6 rfl (lv_at hl 2 rfl) ?_
    refine lv_icmp_le (tgt := 20) hx hb dX3_requireRange_7 (by decide) (fun c2 => ?_) (fun c2 => ?_)
    · have hq := q_if_t hq c2
      obtain rfl := q_ri hq
      exact ro_vret hx hb hr hk dX3_requireRange_20
    · have hq := q_if_f hq c2
      exact q_lr hq
theorem hd_X3_requireRange : ynm yX3_requireRange 3 := by unfold ynm; decide +kernel
def F_X3_requireFrames (p1 : Int32) (p2 : Int32) : Option (Sum Nat (Unit)) := thr (F_X3_requireRange p1 0 999) fun _u => thr (F_X3_requireRange p2 p1 999) fun _u => some (.inr ())
set_option maxHeartbeats 4000000 in
set_option maxRecDepth 100000 in
theorem k_X3_requireFrames (l : Launch) (G : va_G) (g : Nat → ClassId) (p1 : Int32) (p2 : Int32) (res : Unit) (hq : F_X3_requireFrames p1 p2 = some (.inr res)) : roC l yX3_requireFrames wsX3_requireFrames (rmF 1 22) G g [.int p1, .int p2] [] none := by
  refine roC.of (cc := cX3_requireFrames) (maxL := 2) (ret := none) (by decide) rfl (Nat.le_of_ble_eq_true rfl) ?_
  intro p e s m below meth c ls X K hP hl
  obtain ⟨hx, hb, hml, hr, hown, hts, hk⟩ := id X
  have hl : lv_has ls 2 [(0, .int p1), (1, .int p2)] := hl
  unfold F_X3_requireFrames at hq
  refine lv_iload_n hx hb dX3_requireFrames_0 rfl (lv_at hl 0 rfl) ?_
  refine lv_iconst (v := 0) hx hb dX3_requireFrames_1 (by decide) ?_
  refine lv_sipush (v := 999) hx hb dX3_requireFrames_2 (by decide) ?_
  obtain ⟨_, hh1, hq⟩ := q_th hq
  refine roS (As := [.int p1, .int 0, .int 999]) (rest := []) X K (k_X3_requireRange l G g p1 0 999 _ hh1) hd_X3_requireRange gX3_requireFrames_X3_requireRange hP hl.1 dX3_requireFrames_5 rfl rfl ⟨Nat.le_of_ble_eq_true rfl, Nat.le_of_ble_eq_true rfl⟩ rfl (Nat.le_of_ble_eq_true rfl) ⟨Nat.zero_le _, Nat.zero_le _⟩ ?_
  refine lv_iload_n hx hb dX3_requireFrames_8 rfl (lv_at hl 1 rfl) ?_
  refine lv_iload_n hx hb dX3_requireFrames_9 rfl (lv_at hl 0 rfl) ?_
  refine lv_sipush (v := 999) hx hb dX3_requireFrames_10 (by decide) ?_
  obtain ⟨_, hh2, hq⟩ := q_th hq
  refine roS (As := [.int p2, .int p1, .int 999]) (rest := []) X K (k_X3_requireRange l G g p2 p1 999 _ hh2) hd_X3_requireRange gX3_requireFrames_X3_requireRange hP hl.1 dX3_requireFrames_13 rfl rfl ⟨Nat.le_of_ble_eq_true rfl, Nat.le_of_ble_eq_true rfl⟩ rfl (Nat.le_of_ble_eq_true rfl) ⟨Nat.zero_le _, Nat.zero_le _⟩ ?_
  obtain rfl := q_ri hq
  exact ro_vret hx hb hr hk dX3_requireFrames_16
def F_X3_requireSpan (p1 : Int32) (p2 : Int32) : Option (Sum Nat (Unit)) := thr (F_X3_requireRange p1 0 998) fun _u => thr (F_X3_requireRange p2 (p1 + 1) 999) fun _u => some (.inr ())
set_option maxHeartbeats 4000000 in
set_option maxRecDepth 100000 in
theorem k_X3_requireSpan (l : Launch) (G : va_G) (g : Nat → ClassId) (p1 : Int32) (p2 : Int32) (res : Unit) (hq : F_X3_requireSpan p1 p2 = some (.inr res)) : roC l yX3_requireSpan wsX3_requireSpan (rmF 1 22) G g [.int p1, .int p2] [] none := by
  refine roC.of (cc := cX3_requireSpan) (maxL := 2) (ret := none) (by decide) rfl (Nat.le_of_ble_eq_true rfl) ?_
  intro p e s m below meth c ls X K hP hl
  obtain ⟨hx, hb, hml, hr, hown, hts, hk⟩ := id X
  have hl : lv_has ls 2 [(0, .int p1), (1, .int p2)] := hl
  unfold F_X3_requireSpan at hq
  refine lv_iload_n hx hb dX3_requireSpan_0 rfl (lv_at hl 0 rfl) ?_
  refine lv_iconst (v := 0) hx hb dX3_requireSpan_1 (by decide) ?_
  refine lv_sipush (v := 998) hx hb dX3_requireSpan_2 (by decide) ?_
  obtain ⟨_, hh1, hq⟩ := q_th hq
  refine roS (As := [.int p1, .int 0, .int 998]) (rest := []) X K (k_X3_requireRange l G g p1 0 998 _ hh1) hd_X3_requireRange gX3_requireSpan_X3_requireRange hP hl.1 dX3_requireSpan_5 rfl rfl ⟨Nat.le_of_ble_eq_true rfl, Nat.le_of_ble_eq_true rfl⟩ rfl (Nat.le_of_ble_eq_true rfl) ⟨Nat.zero_le _, Nat.zero_le _⟩ ?_
  refine lv_iload_n hx hb dX3_requireSpan_8 rfl (lv_at hl 1 rfl) ?_
  refine lv_iload_n hx hb dX3_requireSpan_9 rfl (lv_at hl 0 rfl) ?_
  refine lv_iconst (v := 1) hx hb dX3_requireSpan_10 (by decide) ?_
  refine lv_iadd hx hb dX3_requireSpan_11 ?_
  refine lv_sipush (v := 999) hx hb dX3_requireSpan_12 (by decide) ?_
  obtain ⟨_, hh2, hq⟩ := q_th hq
  refine roS (As := [.int p2, .int (p1 + 1), .int 999]) (rest := []) X K (k_X3_requireRange l G g p2 (p1 + 1) 999 _ hh2) hd_X3_requireRange gX3_requireSpan_X3_requireRange hP hl.1 dX3_requireSpan_15 rfl rfl ⟨Nat.le_of_ble_eq_true rfl, Nat.le_of_ble_eq_true rfl⟩ rfl (Nat.le_of_ble_eq_true rfl) ⟨Nat.zero_le _, Nat.zero_le _⟩ ?_
  obtain rfl := q_ri hq
  exact ro_vret hx hb hr hk dX3_requireSpan_18
theorem in_X3_requireKey_X0 : ∀ w ∈ wsX00, w ∈ wsX3_requireKey := fun _ h => List.mem_cons_of_mem _ (List.mem_append_left _ (List.mem_append_right _ h))
def F_X3_requireKey (cn : Int32) (p2 : Int32) : Option (Sum Nat (Unit)) := if p2 < 0 then (some (.inl 1)) else (if p2 < cn then (some (.inr ())) else (some (.inl 1)))
set_option maxHeartbeats 4000000 in
set_option maxRecDepth 100000 in
theorem k_X3_requireKey (l : Launch) (G : va_G) (g : Nat → ClassId) (h1 a1 : Nat) (cn : Int32) (cf : Nat → Int32) (p2 : Int32) (res : Unit) (hq : F_X3_requireKey cn p2 = some (.inr res)) : roC l yX3_requireKey wsX3_requireKey (rmF 0 0) G g [.ref h1, .int p2] [(h1, .inr (0, [.int cn, .ref a1])), (a1, .inl (g 0, 96, .inl cf))] none := by
  refine roC.of (cc := cX3_requireKey) (maxL := 2) (ret := none) (by decide) rfl (Nat.le_of_ble_eq_true rfl) ?_
  intro p e s m below meth c ls X K hP hl
  obtain ⟨hx, hb, hml, hr, hown, hts, hk⟩ := id X
  have hl : lv_has ls 2 [(0, .ref h1), (1, .int p2)] := hl
  unfold F_X3_requireKey at hq
  refine lv_iload_n hx hb dX3_requireKey_0 rfl (lv_at hl 1 rfl) ?_
  refine lv_if_lt (tgt := 12) hx hb dX3_requireKey_1 (by decide) (fun c1 => ?_) (fun c1 => ?_)
  · have hq := q_if_t hq c1
    exact q_lr hq
  · have hq := q_if_f hq c1
    refine lv_iload_n hx hb dX3_requireKey_4 rfl (lv_at hl 1 rfl) ?_
    refine lv_aload_n hx hb dX3_requireKey_5 rfl (lv_at hl 0 rfl) ?_
    refine va_getN (D := G) (ci := 0) (v := .int cn) (C := RX0) (T := TX0) (N := 2) (host := RX3) hx hb hts in_X3_requireKey_X0 hown K.1 hP 0 rfl rfl 0 (by decide) ((K.2.2 (RX3, 53, RX0, "count", "I", RX3) (by decide +kernel)).use rfl) (fun _ h9 => h9) rfl dX3_requireKey_6 ?_
    refine lv_icmp_lt (tgt := 22) hx hb dX3_requireKey_9 (by decide) (fun c2 => ?_) (fun c2 => ?_)
    · have hq := q_if_t hq c2
      obtain rfl := q_ri hq
      exact ro_vret hx hb hr hk dX3_requireKey_22
    · have hq := q_if_f hq c2
      exact q_lr hq
def F_X3_requireUnlocked (cn : Int32) (cf : Nat → Int32) (p2 : Int32) : Option (Sum Nat (Unit)) := (F_X0_isLocked cn cf p2).bind fun r1 => if r1 = 0 then (some (.inr ())) else (some (.inl 3))
set_option maxHeartbeats 4000000 in
set_option maxRecDepth 100000 in
theorem k_X3_requireUnlocked (l : Launch) (G : va_G) (g : Nat → ClassId) (h1 a1 : Nat) (cn : Int32) (cf : Nat → Int32) (p2 : Int32) (res : Unit) (hq : F_X3_requireUnlocked cn cf p2 = some (.inr res)) : roC l yX3_requireUnlocked wsX3_requireUnlocked (rmF 2 43) G g [.ref h1, .int p2] [(h1, .inr (0, [.int cn, .ref a1])), (a1, .inl (g 0, 96, .inl cf))] none := by
  refine roC.of (cc := cX3_requireUnlocked) (maxL := 2) (ret := none) (by decide) rfl (Nat.le_of_ble_eq_true rfl) ?_
  intro p e s m below meth c ls X K hP hl
  obtain ⟨hx, hb, hml, hr, hown, hts, hk⟩ := id X
  have hl : lv_has ls 2 [(0, .ref h1), (1, .int p2)] := hl
  unfold F_X3_requireUnlocked at hq
  refine lv_aload_n hx hb dX3_requireUnlocked_0 rfl (lv_at hl 0 rfl) ?_
  refine lv_iload_n hx hb dX3_requireUnlocked_1 rfl (lv_at hl 1 rfl) ?_
  obtain ⟨r1, hh2, hq⟩ := q_bd hq
  refine roN (ci := 0) (host := RX3) (As := [.int p2]) (rest := []) X K (k_X0_isLocked l G g h1 a1 cn cf p2 _ hh2) hd_X0_isLocked ggX3_requireUnlocked_X0_isLocked (by decide +kernel) (List.mem_of_getElem? (i := 4) rfl) (List.mem_of_getElem? (i := 3) rfl) (List.mem_of_getElem? (i := 5) rfl) hP hl.1 dX3_requireUnlocked_2 rfl rfl ⟨Nat.le_of_ble_eq_true rfl, Nat.le_of_ble_eq_true rfl⟩ rfl rfl rfl (Nat.le_of_ble_eq_true rfl) ⟨Nat.zero_le _, Nat.zero_le _⟩ ?_
  refine lv_if_eq (tgt := 18) hx hb dX3_requireUnlocked_5 (by decide) (fun c3 => ?_) (fun c3 => ?_)
  · have hq := q_if_t hq c3
    obtain rfl := q_ri hq
    exact ro_vret hx hb hr hk dX3_requireUnlocked_18
  · have hq := q_if_f hq c3
    exact q_lr hq
theorem hd_X0_hasLock : ynm yX0_hasLock 0 := by unfold ynm; decide +kernel
def F_X3_requireNoLock (cn : Int32) (cf : Nat → Int32) : Option (Sum Nat (Unit)) := (F_X0_hasLock cn cf).bind fun r1 => if r1 = 0 then (some (.inr ())) else (some (.inl 3))
set_option maxHeartbeats 4000000 in
set_option maxRecDepth 100000 in
theorem k_X3_requireNoLock (l : Launch) (G : va_G) (g : Nat → ClassId) (h1 a1 : Nat) (cn : Int32) (cf : Nat → Int32) (res : Unit) (hq : F_X3_requireNoLock cn cf = some (.inr res)) : roC l yX3_requireNoLock wsX3_requireNoLock (rmF 3 64) G g [.ref h1] [(h1, .inr (0, [.int cn, .ref a1])), (a1, .inl (g 0, 96, .inl cf))] none := by
  refine roC.of (cc := cX3_requireNoLock) (maxL := 1) (ret := none) (by decide) rfl (Nat.le_of_ble_eq_true rfl) ?_
  intro p e s m below meth c ls X K hP hl
  obtain ⟨hx, hb, hml, hr, hown, hts, hk⟩ := id X
  have hl : lv_has ls 1 [(0, .ref h1)] := hl
  unfold F_X3_requireNoLock at hq
  refine lv_aload_n hx hb dX3_requireNoLock_0 rfl (lv_at hl 0 rfl) ?_
  obtain ⟨r1, hh2, hq⟩ := q_bd hq
  refine roN (ci := 0) (host := RX3) (As := []) (rest := []) X K (k_X0_hasLock l G g h1 a1 cn cf _ hh2) hd_X0_hasLock ggX3_requireNoLock_X0_hasLock (by decide +kernel) (List.mem_of_getElem? (i := 4) rfl) (List.mem_of_getElem? (i := 3) rfl) (List.mem_of_getElem? (i := 5) rfl) hP hl.1 dX3_requireNoLock_1 rfl rfl ⟨Nat.le_of_ble_eq_true rfl, Nat.le_of_ble_eq_true rfl⟩ rfl rfl rfl (Nat.le_of_ble_eq_true rfl) ⟨Nat.zero_le _, Nat.zero_le _⟩ ?_
  refine lv_if_eq (tgt := 17) hx hb dX3_requireNoLock_4 (by decide) (fun c3 => ?_) (fun c3 => ?_)
  · have hq := q_if_t hq c3
    obtain rfl := q_ri hq
    exact ro_vret hx hb hr hk dX3_requireNoLock_17
  · have hq := q_if_f hq c3
    exact q_lr hq

theorem hd_L_keyOf : ynm yL_keyOf 4 := by unfold ynm; decide +kernel
theorem hd_L_low : ynm yL_low 2 := by unfold ynm; decide +kernel
theorem hd_L_value : ynm yL_value 7 := by unfold ynm; decide +kernel
theorem hd_L_valueOf : ynm yL_valueOf 3 := by unfold ynm; decide +kernel
def F_L_isSo_66 (an : Nat → Int32) (af : Nat → Int32) (av : Nat → Int32) (ae : Nat → Int32) (aw : Nat → Int32) (cn : Nat → Int32) (cf : Nat → Nat → Int32) (v1 : Int32) (v3 : Int32) : Nat → Int32 → Int32 → Option (Int32)
  | 0, _, _ => none
  | n + 1, v2, v4 => vgd (ix (v3) 2) <| if (an v3.toNatClampNeg) ≤ v4 then (some v2) else (if v2 = 0 then (some v2) else (vlet (((8 : Int32) * v3) + v4) fun x8 => (F_L_keyOf cn cf v3 v4 0).bind fun r9 => vgd (ix (x8) 16) <| if r9 = (af x8.toNatClampNeg) then ((F_L_keyOf cn cf v3 v4 1).bind fun r14 => vgd (ix (x8) 16) <| if r14 = (av x8.toNatClampNeg) then ((F_L_keyOf cn cf v3 v4 2).bind fun r19 => vgd (ix (x8) 16) <| if r19 = ((ae x8.toNatClampNeg) / 100) then ((F_L_keyOf cn cf v3 v4 3).bind fun r24 => vgd (ix (x8) 16) <| if r24 = (((ae x8.toNatClampNeg) / 10) - ((ae x8.toNatClampNeg) / 10) / 10 * 10) then ((F_L_keyOf cn cf v3 v4 4).bind fun r29 => vgd (ix (x8) 16) <| if r29 = (aw x8.toNatClampNeg) then ((F_L_keyOf cn cf v3 v4 5).bind fun r34 => (F_L_tangent an af av ae aw v3 v4).bind fun r36 => if r34 = r36 then ((F_L_keyOf cn cf v3 v4 6).bind fun r40 => vgd (ix (x8) 16) <| if r40 = ((ae x8.toNatClampNeg) - (ae x8.toNatClampNeg) / 10 * 10) then (vgd (ix (x8) 16) <| (F_L_valueOf cn cf v3 (af x8.toNatClampNeg)).bind fun r46 => vgd (ix (x8) 16) <| if r46 = (av x8.toNatClampNeg) then (vlet ((v4 : Int32) + 1) fun x51 => F_L_isSo_66 an af av ae aw cn cf v1 v3 n 1 x51) else (vlet ((v4 : Int32) + 1) fun x50 => F_L_isSo_66 an af av ae aw cn cf v1 v3 n 0 x50)) else (vlet ((v4 : Int32) + 1) fun x44 => F_L_isSo_66 an af av ae aw cn cf v1 v3 n 0 x44)) else (vlet ((v4 : Int32) + 1) fun x39 => F_L_isSo_66 an af av ae aw cn cf v1 v3 n 0 x39)) else (vlet ((v4 : Int32) + 1) fun x33 => F_L_isSo_66 an af av ae aw cn cf v1 v3 n 0 x33)) else (vlet ((v4 : Int32) + 1) fun x28 => F_L_isSo_66 an af av ae aw cn cf v1 v3 n 0 x28)) else (vlet ((v4 : Int32) + 1) fun x23 => F_L_isSo_66 an af av ae aw cn cf v1 v3 n 0 x23)) else (vlet ((v4 : Int32) + 1) fun x18 => F_L_isSo_66 an af av ae aw cn cf v1 v3 n 0 x18)) else (vlet ((v4 : Int32) + 1) fun x13 => F_L_isSo_66 an af av ae aw cn cf v1 v3 n 0 x13)))
set_option maxHeartbeats 4000000 in
set_option maxRecDepth 100000 in
theorem w_L_isSo_66 {p : Program} {l : Launch} {e : Env} {s : State} {m : MethodId} {args : Array Value} {below : List Frame} {meth : Method} {c : Code} {G : va_G} {g : Nat → ClassId} (X : cx p s m args meth c cL_isSo 11 (some .boolean) RL wsL_isSo) (K : amb G g s) (ad : Nat → Nat) (qn qf qv qe qw : Nat) (bd : Nat → Nat → Nat) (sc : Int32) (tl : Int32) (tat : Int32) (tb : Nat → Int32) (sn : Nat → Nat → Int32) (sf : Nat → Nat → Nat → Int32) (tn : Int32) (tf : Nat → Int32) (vv : Nat → Int32) (ov : Nat → Int32) (an : Nat → Int32) (af : Nat → Int32) (av : Nat → Int32) (ae : Nat → Int32) (aw : Nat → Int32) (cn : Nat → Int32) (cf : Nat → Nat → Int32) (v1 : Int32) (v3 : Int32) (hP : va_P G vwCl ((qn, .inl (g 0, 2, .inl an)) :: (qf, .inl (g 0, 16, .inl af)) :: (qv, .inl (g 0, 16, .inl av)) :: (qe, .inl (g 0, 16, .inl ae)) :: (qw, .inl (g 0, 16, .inl aw)) :: (wX g ad bd sc tl tat tb cn cf sn sf tn tf vv ov)) s.heap) (res : Int32) {Q : State → Prop} (kk : ∀ (ls : Array Slot), lv_has ls 11 [(0, .ref (ad 0)), (1, .ref qn), (2, .ref qf), (3, .ref qv), (4, .ref qe), (5, .ref qw), (6, .int v1), (7, .int res), (8, .int v3)] → W p l e (rmF 6 147) s m args below meth c s.heap [] 0 0 Q (F0 m 259 ls [])) : ∀ (n : Nat) (v2 : Int32) (v4 : Int32), F_L_isSo_66 an af av ae aw cn cf v1 v3 n v2 v4 = some res → ∀ (ls : Array Slot), lv_has ls 11 [(0, .ref (ad 0)), (1, .ref qn), (2, .ref qf), (3, .ref qv), (4, .ref qe), (5, .ref qw), (6, .int v1), (7, .int v2), (8, .int v3), (9, .int v4)] → W p l e (rmF 6 147) s m args below meth c s.heap [] 0 0 Q (F0 m 66 ls []) := by
  obtain ⟨hx, hb, hml, hr, hown, hts, hk⟩ := id X
  intro n
  induction n with
  | zero => intro v2 v4 hq; exact q_no hq
  | succ n ih =>
    intro v2 v4 hq ls hl
    rw [F_L_isSo_66] at hq
    refine lv_iload hx hb dL_isSo_66 (lv_at hl 9 rfl) ?_
    refine lv_aload_n hx hb dL_isSo_68 rfl (lv_at hl 1 rfl) ?_
    refine lv_iload hx hb dL_isSo_69 (lv_at hl 8 rfl) ?_
    obtain ⟨hh5, hq⟩ := q_gd hq
    refine va_iald hx hb K.1 hP 0 0 rfl rfl (vp_in_iff.mpr hh5) dL_isSo_71 ?_
    refine lv_icmp_ge (tgt := 259) hx hb dL_isSo_72 (by decide) (fun c6 => ?_) (fun c6 => ?_)
    · have hq := q_if_t hq c6
      obtain rfl := q_rt hq
      exact kk ls (lv_sub hl [0, 1, 2, 3, 4, 5, 6, 7, 8] rfl)
    · have hq := q_if_f hq c6
      refine lv_iload hx hb dL_isSo_75 (lv_at hl 7 rfl) ?_
      refine lv_if_eq (tgt := 259) hx hb dL_isSo_77 (by decide) (fun c7 => ?_) (fun c7 => ?_)
      · have hq := q_if_t hq c7
        obtain rfl := q_rt hq
        exact kk ls (lv_sub hl [0, 1, 2, 3, 4, 5, 6, 7, 8] rfl)
      · have hq := q_if_f hq c7
        refine lv_bipush (v := 8) hx hb dL_isSo_80 (by decide) ?_
        refine lv_iload hx hb dL_isSo_82 (lv_at hl 8 rfl) ?_
        refine lv_imul hx hb dL_isSo_84 ?_
        refine lv_iload hx hb dL_isSo_85 (lv_at hl 9 rfl) ?_
        refine lv_iadd hx hb dL_isSo_87 ?_
        refine lv_topi (fun x8 ex8 => ?_)
        have hq := q_let hq ex8
        refine lv_istore (lv' := [(10, .int x8), (0, .ref (ad 0)), (1, .ref qn), (2, .ref qf), (3, .ref qv), (4, .ref qe), (5, .ref qw), (6, .int v1), (7, .int v2), (8, .int v3), (9, .int v4)]) hx hb dL_isSo_88 hl (by decide) rfl (fun ls hl => ?_)
        refine lv_aload_n hx hb dL_isSo_90 rfl (lv_at hl 1 rfl) ?_
        refine lv_iload hx hb dL_isSo_91 (lv_at hl 9 rfl) ?_
        refine lv_iload hx hb dL_isSo_93 (lv_at hl 10 rfl) ?_
        refine lv_iconst (v := 0) hx hb dL_isSo_95 (by decide) ?_
        obtain ⟨r9, hh10, hq⟩ := q_bd hq
        refine roSW (As := [.ref (ad 0), .int v3, .int v4, .int 0]) (rest := []) X K (k_L_keyOf l G g ad bd sc tl tat tb cn cf sn sf tn tf vv ov v3 v4 0 _ hh10) hd_L_keyOf gL_isSo_L_keyOf ((foc_ap (wr := [(qn, .inl (g 0, 2, .inl an)), (qf, .inl (g 0, 16, .inl af)), (qv, .inl (g 0, 16, .inl av)), (qe, .inl (g 0, 16, .inl ae)), (qw, .inl (g 0, 16, .inl aw))]) (w1 := [])).sub hP) hl.1 dL_isSo_96 rfl rfl ⟨Nat.le_of_ble_eq_true rfl, Nat.le_of_ble_eq_true rfl⟩ rfl (Nat.le_of_ble_eq_true rfl) ⟨Nat.le_of_ble_eq_true rfl, Nat.le_of_ble_eq_true rfl⟩ ?_
        refine lv_aload_n hx hb dL_isSo_99 rfl (lv_at hl 3 rfl) ?_
        refine lv_iload hx hb dL_isSo_100 (lv_at hl 0 rfl) ?_
        obtain ⟨hh11, hq⟩ := q_gd hq
        refine va_iald hx hb K.1 hP 1 0 rfl rfl (vp_in_iff.mpr hh11) dL_isSo_102 ?_
        refine lv_icmp_ne (tgt := 250) hx hb dL_isSo_103 (by decide) (fun c12 => ?_) (fun c12 => ?_)
        · have hq := q_if_f hq c12
          refine lv_iconst (v := 0) hx hb dL_isSo_250 (by decide) ?_
          refine lv_istore (lv' := [(7, .int 0), (10, .int x8), (0, .ref (ad 0)), (1, .ref qn), (2, .ref qf), (3, .ref qv), (4, .ref qe), (5, .ref qw), (6, .int v1), (8, .int v3), (9, .int v4)]) hx hb dL_isSo_251 hl (by decide) rfl (fun ls hl => ?_)
          obtain ⟨x13, ex13⟩ : ∃ y : Int32, y = (v4 : Int32) + 1 := ⟨_, rfl⟩
          have hq := q_let hq ex13
          refine lv_iinc (v := x13) (lv' := [(9, .int x13), (7, .int 0), (10, .int x8), (0, .ref (ad 0)), (1, .ref qn), (2, .ref qf), (3, .ref qv), (4, .ref qe), (5, .ref qw), (6, .int v1), (8, .int v3)]) hx hb dL_isSo_253 hl (k := 10) rfl (by rw [ex13]; rfl) (by decide) rfl (fun ls hl => ?_)
          refine lv_goto (tgt := 66) hx hb dL_isSo_256 (by decide) ?_
          exact ih 0 x13 hq ls (lv_sub hl [3, 4, 5, 6, 7, 8, 9, 1, 10, 0] rfl)
        · have hq := q_if_t hq c12
          refine lv_aload_n hx hb dL_isSo_106 rfl (lv_at hl 1 rfl) ?_
          refine lv_iload hx hb dL_isSo_107 (lv_at hl 9 rfl) ?_
          refine lv_iload hx hb dL_isSo_109 (lv_at hl 10 rfl) ?_
          refine lv_iconst (v := 1) hx hb dL_isSo_111 (by decide) ?_
          obtain ⟨r14, hh15, hq⟩ := q_bd hq
          refine roSW (As := [.ref (ad 0), .int v3, .int v4, .int 1]) (rest := []) X K (k_L_keyOf l G g ad bd sc tl tat tb cn cf sn sf tn tf vv ov v3 v4 1 _ hh15) hd_L_keyOf gL_isSo_L_keyOf ((foc_ap (wr := [(qn, .inl (g 0, 2, .inl an)), (qf, .inl (g 0, 16, .inl af)), (qv, .inl (g 0, 16, .inl av)), (qe, .inl (g 0, 16, .inl ae)), (qw, .inl (g 0, 16, .inl aw))]) (w1 := [])).sub hP) hl.1 dL_isSo_112 rfl rfl ⟨Nat.le_of_ble_eq_true rfl, Nat.le_of_ble_eq_true rfl⟩ rfl (Nat.le_of_ble_eq_true rfl) ⟨Nat.le_of_ble_eq_true rfl, Nat.le_of_ble_eq_true rfl⟩ ?_
          refine lv_aload_n hx hb dL_isSo_115 rfl (lv_at hl 4 rfl) ?_
          refine lv_iload hx hb dL_isSo_116 (lv_at hl 0 rfl) ?_
          obtain ⟨hh16, hq⟩ := q_gd hq
          refine va_iald hx hb K.1 hP 2 0 rfl rfl (vp_in_iff.mpr hh16) dL_isSo_118 ?_
          refine lv_icmp_ne (tgt := 250) hx hb dL_isSo_119 (by decide) (fun c17 => ?_) (fun c17 => ?_)
          · have hq := q_if_f hq c17
            refine lv_iconst (v := 0) hx hb dL_isSo_250 (by decide) ?_
            refine lv_istore (lv' := [(7, .int 0), (10, .int x8), (0, .ref (ad 0)), (1, .ref qn), (2, .ref qf), (3, .ref qv), (4, .ref qe), (5, .ref qw), (6, .int v1), (8, .int v3), (9, .int v4)]) hx hb dL_isSo_251 hl (by decide) rfl (fun ls hl => ?_)
            obtain ⟨x18, ex18⟩ : ∃ y : Int32, y = (v4 : Int32) + 1 := ⟨_, rfl⟩
            have hq := q_let hq ex18
            refine lv_iinc (v := x18) (lv' := [(9, .int x18), (7, .int 0), (10, .int x8), (0, .ref (ad 0)), (1, .ref qn), (2, .ref qf), (3, .ref qv), (4, .ref qe), (5, .ref qw), (6, .int v1), (8, .int v3)]) hx hb dL_isSo_253 hl (k := 10) rfl (by rw [ex18]; rfl) (by decide) rfl (fun ls hl => ?_)
            refine lv_goto (tgt := 66) hx hb dL_isSo_256 (by decide) ?_
            exact ih 0 x18 hq ls (lv_sub hl [3, 4, 5, 6, 7, 8, 9, 1, 10, 0] rfl)
          · have hq := q_if_t hq c17
            refine lv_aload_n hx hb dL_isSo_122 rfl (lv_at hl 1 rfl) ?_
            refine lv_iload hx hb dL_isSo_123 (lv_at hl 9 rfl) ?_
            refine lv_iload hx hb dL_isSo_125 (lv_at hl 10 rfl) ?_
            refine lv_iconst (v := 2) hx hb dL_isSo_127 (by decide) ?_
            obtain ⟨r19, hh20, hq⟩ := q_bd hq
            refine roSW (As := [.ref (ad 0), .int v3, .int v4, .int 2]) (rest := []) X K (k_L_keyOf l G g ad bd sc tl tat tb cn cf sn sf tn tf vv ov v3 v4 2 _ hh20) hd_L_keyOf gL_isSo_L_keyOf ((foc_ap (wr := [(qn, .inl (g 0, 2, .inl an)), (qf, .inl (g 0, 16, .inl af)), (qv, .inl (g 0, 16, .inl av)), (qe, .inl (g 0, 16, .inl ae)), (qw, .inl (g 0, 16, .inl aw))]) (w1 := [])).sub hP) hl.1 dL_isSo_128 rfl rfl ⟨Nat.le_of_ble_eq_true rfl, Nat.le_of_ble_eq_true rfl⟩ rfl (Nat.le_of_ble_eq_true rfl) ⟨Nat.le_of_ble_eq_true rfl, Nat.le_of_ble_eq_true rfl⟩ ?_
            refine lv_aload hx hb dL_isSo_131 (lv_at hl 5 rfl) ?_
            refine lv_iload hx hb dL_isSo_133 (lv_at hl 0 rfl) ?_
            obtain ⟨hh21, hq⟩ := q_gd hq
            refine va_iald hx hb K.1 hP 3 0 rfl rfl (vp_in_iff.mpr hh21) dL_isSo_135 ?_
            refine lv_bipush (v := 100) hx hb dL_isSo_136 (by decide) ?_
            refine lv_idiv hx hb dL_isSo_138 (by decide) ?_
            refine lv_icmp_ne (tgt := 250) hx hb dL_isSo_139 (by decide) (fun c22 => ?_) (fun c22 => ?_)
            · have hq := q_if_f hq c22
              refine lv_iconst (v := 0) hx hb dL_isSo_250 (by decide) ?_
              refine lv_istore (lv' := [(7, .int 0), (10, .int x8), (0, .ref (ad 0)), (1, .ref qn), (2, .ref qf), (3, .ref qv), (4, .ref qe), (5, .ref qw), (6, .int v1), (8, .int v3), (9, .int v4)]) hx hb dL_isSo_251 hl (by decide) rfl (fun ls hl => ?_)
              obtain ⟨x23, ex23⟩ : ∃ y : Int32, y = (v4 : Int32) + 1 := ⟨_, rfl⟩
              have hq := q_let hq ex23
              refine lv_iinc (v := x23) (lv' := [(9, .int x23), (7, .int 0), (10, .int x8), (0, .ref (ad 0)), (1, .ref qn), (2, .ref qf), (3, .ref qv), (4, .ref qe), (5, .ref qw), (6, .int v1), (8, .int v3)]) hx hb dL_isSo_253 hl (k := 10) rfl (by rw [ex23]; rfl) (by decide) rfl (fun ls hl => ?_)
              refine lv_goto (tgt := 66) hx hb dL_isSo_256 (by decide) ?_
              exact ih 0 x23 hq ls (lv_sub hl [3, 4, 5, 6, 7, 8, 9, 1, 10, 0] rfl)
            · have hq := q_if_t hq c22
              refine lv_aload_n hx hb dL_isSo_142 rfl (lv_at hl 1 rfl) ?_
              refine lv_iload hx hb dL_isSo_143 (lv_at hl 9 rfl) ?_
              refine lv_iload hx hb dL_isSo_145 (lv_at hl 10 rfl) ?_
              refine lv_iconst (v := 3) hx hb dL_isSo_147 (by decide) ?_
              obtain ⟨r24, hh25, hq⟩ := q_bd hq
              refine roSW (As := [.ref (ad 0), .int v3, .int v4, .int 3]) (rest := []) X K (k_L_keyOf l G g ad bd sc tl tat tb cn cf sn sf tn tf vv ov v3 v4 3 _ hh25) hd_L_keyOf gL_isSo_L_keyOf ((foc_ap (wr := [(qn, .inl (g 0, 2, .inl an)), (qf, .inl (g 0, 16, .inl af)), (qv, .inl (g 0, 16, .inl av)), (qe, .inl (g 0, 16, .inl ae)), (qw, .inl (g 0, 16, .inl aw))]) (w1 := [])).sub hP) hl.1 dL_isSo_148 rfl rfl ⟨Nat.le_of_ble_eq_true rfl, Nat.le_of_ble_eq_true rfl⟩ rfl (Nat.le_of_ble_eq_true rfl) ⟨Nat.le_of_ble_eq_true rfl, Nat.le_of_ble_eq_true rfl⟩ ?_
              refine lv_aload hx hb dL_isSo_151 (lv_at hl 5 rfl) ?_
              refine lv_iload hx hb dL_isSo_153 (lv_at hl 0 rfl) ?_
              obtain ⟨hh26, hq⟩ := q_gd hq
              refine va_iald hx hb K.1 hP 3 0 rfl rfl (vp_in_iff.mpr hh26) dL_isSo_155 ?_
              refine lv_bipush (v := 10) hx hb dL_isSo_156 (by decide) ?_
              refine lv_idiv hx hb dL_isSo_158 (by decide) ?_
              refine lv_bipush (v := 10) hx hb dL_isSo_159 (by decide) ?_
              refine lv_irem hx hb dL_isSo_161 (by decide) ?_
              refine lv_icmp_ne (tgt := 250) hx hb dL_isSo_162 (by decide) (fun c27 => ?_) (fun c27 => ?_)
              · have hq := q_if_f hq c27
                refine lv_iconst (v := 0) hx hb dL_isSo_250 (by decide) ?_
                refine lv_istore (lv' := [(7, .int 0), (10, .int x8), (0, .ref (ad 0)), (1, .ref qn), (2, .ref qf), (3, .ref qv), (4, .ref qe), (5, .ref qw), (6, .int v1), (8, .int v3), (9, .int v4)]) hx hb dL_isSo_251 hl (by decide) rfl (fun ls hl => ?_)
                obtain ⟨x28, ex28⟩ : ∃ y : Int32, y = (v4 : Int32) + 1 := ⟨_, rfl⟩
                have hq := q_let hq ex28
                refine lv_iinc (v := x28) (lv' := [(9, .int x28), (7, .int 0), (10, .int x8), (0, .ref (ad 0)), (1, .ref qn), (2, .ref qf), (3, .ref qv), (4, .ref qe), (5, .ref qw), (6, .int v1), (8, .int v3)]) hx hb dL_isSo_253 hl (k := 10) rfl (by rw [ex28]; rfl) (by decide) rfl (fun ls hl => ?_)
                refine lv_goto (tgt := 66) hx hb dL_isSo_256 (by decide) ?_
                exact ih 0 x28 hq ls (lv_sub hl [3, 4, 5, 6, 7, 8, 9, 1, 10, 0] rfl)
              · have hq := q_if_t hq c27
                refine lv_aload_n hx hb dL_isSo_165 rfl (lv_at hl 1 rfl) ?_
                refine lv_iload hx hb dL_isSo_166 (lv_at hl 9 rfl) ?_
                refine lv_iload hx hb dL_isSo_168 (lv_at hl 10 rfl) ?_
                refine lv_iconst (v := 4) hx hb dL_isSo_170 (by decide) ?_
                obtain ⟨r29, hh30, hq⟩ := q_bd hq
                refine roSW (As := [.ref (ad 0), .int v3, .int v4, .int 4]) (rest := []) X K (k_L_keyOf l G g ad bd sc tl tat tb cn cf sn sf tn tf vv ov v3 v4 4 _ hh30) hd_L_keyOf gL_isSo_L_keyOf ((foc_ap (wr := [(qn, .inl (g 0, 2, .inl an)), (qf, .inl (g 0, 16, .inl af)), (qv, .inl (g 0, 16, .inl av)), (qe, .inl (g 0, 16, .inl ae)), (qw, .inl (g 0, 16, .inl aw))]) (w1 := [])).sub hP) hl.1 dL_isSo_171 rfl rfl ⟨Nat.le_of_ble_eq_true rfl, Nat.le_of_ble_eq_true rfl⟩ rfl (Nat.le_of_ble_eq_true rfl) ⟨Nat.le_of_ble_eq_true rfl, Nat.le_of_ble_eq_true rfl⟩ ?_
                refine lv_aload hx hb dL_isSo_174 (lv_at hl 6 rfl) ?_
                refine lv_iload hx hb dL_isSo_176 (lv_at hl 0 rfl) ?_
                obtain ⟨hh31, hq⟩ := q_gd hq
                refine va_iald hx hb K.1 hP 4 0 rfl rfl (vp_in_iff.mpr hh31) dL_isSo_178 ?_
                refine lv_icmp_ne (tgt := 250) hx hb dL_isSo_179 (by decide) (fun c32 => ?_) (fun c32 => ?_)
                · have hq := q_if_f hq c32
                  refine lv_iconst (v := 0) hx hb dL_isSo_250 (by decide) ?_
                  refine lv_istore (lv' := [(7, .int 0), (10, .int x8), (0, .ref (ad 0)), (1, .ref qn), (2, .ref qf), (3, .ref qv), (4, .ref qe), (5, .ref qw), (6, .int v1), (8, .int v3), (9, .int v4)]) hx hb dL_isSo_251 hl (by decide) rfl (fun ls hl => ?_)
                  obtain ⟨x33, ex33⟩ : ∃ y : Int32, y = (v4 : Int32) + 1 := ⟨_, rfl⟩
                  have hq := q_let hq ex33
                  refine lv_iinc (v := x33) (lv' := [(9, .int x33), (7, .int 0), (10, .int x8), (0, .ref (ad 0)), (1, .ref qn), (2, .ref qf), (3, .ref qv), (4, .ref qe), (5, .ref qw), (6, .int v1), (8, .int v3)]) hx hb dL_isSo_253 hl (k := 10) rfl (by rw [ex33]; rfl) (by decide) rfl (fun ls hl => ?_)
                  refine lv_goto (tgt := 66) hx hb dL_isSo_256 (by decide) ?_
                  exact ih 0 x33 hq ls (lv_sub hl [3, 4, 5, 6, 7, 8, 9, 1, 10, 0] rfl)
                · have hq := q_if_t hq c32
                  refine lv_aload_n hx hb dL_isSo_182 rfl (lv_at hl 1 rfl) ?_
                  refine lv_iload hx hb dL_isSo_183 (lv_at hl 9 rfl) ?_
                  refine lv_iload hx hb dL_isSo_185 (lv_at hl 10 rfl) ?_
                  refine lv_iconst (v := 5) hx hb dL_isSo_187 (by decide) ?_
                  obtain ⟨r34, hh35, hq⟩ := q_bd hq
                  refine roSW (As := [.ref (ad 0), .int v3, .int v4, .int 5]) (rest := []) X K (k_L_keyOf l G g ad bd sc tl tat tb cn cf sn sf tn tf vv ov v3 v4 5 _ hh35) hd_L_keyOf gL_isSo_L_keyOf ((foc_ap (wr := [(qn, .inl (g 0, 2, .inl an)), (qf, .inl (g 0, 16, .inl af)), (qv, .inl (g 0, 16, .inl av)), (qe, .inl (g 0, 16, .inl ae)), (qw, .inl (g 0, 16, .inl aw))]) (w1 := [])).sub hP) hl.1 dL_isSo_188 rfl rfl ⟨Nat.le_of_ble_eq_true rfl, Nat.le_of_ble_eq_true rfl⟩ rfl (Nat.le_of_ble_eq_true rfl) ⟨Nat.le_of_ble_eq_true rfl, Nat.le_of_ble_eq_true rfl⟩ ?_
                  refine lv_aload_n hx hb dL_isSo_191 rfl (lv_at hl 2 rfl) ?_
                  refine lv_aload_n hx hb dL_isSo_192 rfl (lv_at hl 3 rfl) ?_
                  refine lv_aload_n hx hb dL_isSo_193 rfl (lv_at hl 4 rfl) ?_
                  refine lv_aload hx hb dL_isSo_194 (lv_at hl 5 rfl) ?_
                  refine lv_aload hx hb dL_isSo_196 (lv_at hl 6 rfl) ?_
                  refine lv_iload hx hb dL_isSo_198 (lv_at hl 9 rfl) ?_
                  refine lv_iload hx hb dL_isSo_200 (lv_at hl 10 rfl) ?_
                  obtain ⟨r36, hh37, hq⟩ := q_bd hq
                  refine roS (As := [.ref qn, .ref qf, .ref qv, .ref qe, .ref qw, .int v3, .int v4]) (rest := [.int r34]) X K (k_L_tangent l G g qn qf qv qe qw an af av ae aw v3 v4 _ hh37) hd_L_tangent gL_isSo_L_tangent (hP.sub [0, 1, 2, 3, 4] rfl) hl.1 dL_isSo_202 rfl rfl ⟨Nat.le_of_ble_eq_true rfl, Nat.le_of_ble_eq_true rfl⟩ rfl (Nat.le_of_ble_eq_true rfl) ⟨Nat.le_of_ble_eq_true rfl, Nat.le_of_ble_eq_true rfl⟩ ?_
                  refine lv_icmp_ne (tgt := 250) hx hb dL_isSo_205 (by decide) (fun c38 => ?_) (fun c38 => ?_)
                  · have hq := q_if_f hq c38
                    refine lv_iconst (v := 0) hx hb dL_isSo_250 (by decide) ?_
                    refine lv_istore (lv' := [(7, .int 0), (10, .int x8), (0, .ref (ad 0)), (1, .ref qn), (2, .ref qf), (3, .ref qv), (4, .ref qe), (5, .ref qw), (6, .int v1), (8, .int v3), (9, .int v4)]) hx hb dL_isSo_251 hl (by decide) rfl (fun ls hl => ?_)
                    obtain ⟨x39, ex39⟩ : ∃ y : Int32, y = (v4 : Int32) + 1 := ⟨_, rfl⟩
                    have hq := q_let hq ex39
                    refine lv_iinc (v := x39) (lv' := [(9, .int x39), (7, .int 0), (10, .int x8), (0, .ref (ad 0)), (1, .ref qn), (2, .ref qf), (3, .ref qv), (4, .ref qe), (5, .ref qw), (6, .int v1), (8, .int v3)]) hx hb dL_isSo_253 hl (k := 10) rfl (by rw [ex39]; rfl) (by decide) rfl (fun ls hl => ?_)
                    refine lv_goto (tgt := 66) hx hb dL_isSo_256 (by decide) ?_
                    exact ih 0 x39 hq ls (lv_sub hl [3, 4, 5, 6, 7, 8, 9, 1, 10, 0] rfl)
                  · have hq := q_if_t hq c38
                    refine lv_aload_n hx hb dL_isSo_208 rfl (lv_at hl 1 rfl) ?_
                    refine lv_iload hx hb dL_isSo_209 (lv_at hl 9 rfl) ?_
                    refine lv_iload hx hb dL_isSo_211 (lv_at hl 10 rfl) ?_
                    refine lv_bipush (v := 6) hx hb dL_isSo_213 (by decide) ?_
                    obtain ⟨r40, hh41, hq⟩ := q_bd hq
                    refine roSW (As := [.ref (ad 0), .int v3, .int v4, .int 6]) (rest := []) X K (k_L_keyOf l G g ad bd sc tl tat tb cn cf sn sf tn tf vv ov v3 v4 6 _ hh41) hd_L_keyOf gL_isSo_L_keyOf ((foc_ap (wr := [(qn, .inl (g 0, 2, .inl an)), (qf, .inl (g 0, 16, .inl af)), (qv, .inl (g 0, 16, .inl av)), (qe, .inl (g 0, 16, .inl ae)), (qw, .inl (g 0, 16, .inl aw))]) (w1 := [])).sub hP) hl.1 dL_isSo_215 rfl rfl ⟨Nat.le_of_ble_eq_true rfl, Nat.le_of_ble_eq_true rfl⟩ rfl (Nat.le_of_ble_eq_true rfl) ⟨Nat.le_of_ble_eq_true rfl, Nat.le_of_ble_eq_true rfl⟩ ?_
                    refine lv_aload hx hb dL_isSo_218 (lv_at hl 5 rfl) ?_
                    refine lv_iload hx hb dL_isSo_220 (lv_at hl 0 rfl) ?_
                    obtain ⟨hh42, hq⟩ := q_gd hq
                    refine va_iald hx hb K.1 hP 3 0 rfl rfl (vp_in_iff.mpr hh42) dL_isSo_222 ?_
                    refine lv_bipush (v := 10) hx hb dL_isSo_223 (by decide) ?_
                    refine lv_irem hx hb dL_isSo_225 (by decide) ?_
                    refine lv_icmp_ne (tgt := 250) hx hb dL_isSo_226 (by decide) (fun c43 => ?_) (fun c43 => ?_)
                    · have hq := q_if_f hq c43
                      refine lv_iconst (v := 0) hx hb dL_isSo_250 (by decide) ?_
                      refine lv_istore (lv' := [(7, .int 0), (10, .int x8), (0, .ref (ad 0)), (1, .ref qn), (2, .ref qf), (3, .ref qv), (4, .ref qe), (5, .ref qw), (6, .int v1), (8, .int v3), (9, .int v4)]) hx hb dL_isSo_251 hl (by decide) rfl (fun ls hl => ?_)
                      obtain ⟨x44, ex44⟩ : ∃ y : Int32, y = (v4 : Int32) + 1 := ⟨_, rfl⟩
                      have hq := q_let hq ex44
                      refine lv_iinc (v := x44) (lv' := [(9, .int x44), (7, .int 0), (10, .int x8), (0, .ref (ad 0)), (1, .ref qn), (2, .ref qf), (3, .ref qv), (4, .ref qe), (5, .ref qw), (6, .int v1), (8, .int v3)]) hx hb dL_isSo_253 hl (k := 10) rfl (by rw [ex44]; rfl) (by decide) rfl (fun ls hl => ?_)
                      refine lv_goto (tgt := 66) hx hb dL_isSo_256 (by decide) ?_
                      exact ih 0 x44 hq ls (lv_sub hl [3, 4, 5, 6, 7, 8, 9, 1, 10, 0] rfl)
                    · have hq := q_if_t hq c43
                      refine lv_aload_n hx hb dL_isSo_229 rfl (lv_at hl 1 rfl) ?_
                      refine lv_iload hx hb dL_isSo_230 (lv_at hl 9 rfl) ?_
                      refine lv_aload_n hx hb dL_isSo_232 rfl (lv_at hl 3 rfl) ?_
                      refine lv_iload hx hb dL_isSo_233 (lv_at hl 0 rfl) ?_
                      obtain ⟨hh45, hq⟩ := q_gd hq
                      refine va_iald hx hb K.1 hP 1 0 rfl rfl (vp_in_iff.mpr hh45) dL_isSo_235 ?_
                      obtain ⟨r46, hh47, hq⟩ := q_bd hq
                      refine roSW (As := [.ref (ad 0), .int v3, .int (af x8.toNatClampNeg)]) (rest := []) X K (k_L_valueOf l G g ad bd sc tl tat tb cn cf sn sf tn tf vv ov v3 (af x8.toNatClampNeg) _ hh47) hd_L_valueOf gL_isSo_L_valueOf ((foc_ap (wr := [(qn, .inl (g 0, 2, .inl an)), (qf, .inl (g 0, 16, .inl af)), (qv, .inl (g 0, 16, .inl av)), (qe, .inl (g 0, 16, .inl ae)), (qw, .inl (g 0, 16, .inl aw))]) (w1 := [])).sub hP) hl.1 dL_isSo_236 rfl rfl ⟨Nat.le_of_ble_eq_true rfl, Nat.le_of_ble_eq_true rfl⟩ rfl (Nat.le_of_ble_eq_true rfl) ⟨Nat.le_of_ble_eq_true rfl, Nat.le_of_ble_eq_true rfl⟩ ?_
                      refine lv_aload_n hx hb dL_isSo_239 rfl (lv_at hl 4 rfl) ?_
                      refine lv_iload hx hb dL_isSo_240 (lv_at hl 0 rfl) ?_
                      obtain ⟨hh48, hq⟩ := q_gd hq
                      refine va_iald hx hb K.1 hP 2 0 rfl rfl (vp_in_iff.mpr hh48) dL_isSo_242 ?_
                      refine lv_icmp_ne (tgt := 250) hx hb dL_isSo_243 (by decide) (fun c49 => ?_) (fun c49 => ?_)
                      · have hq := q_if_f hq c49
                        refine lv_iconst (v := 0) hx hb dL_isSo_250 (by decide) ?_
                        refine lv_istore (lv' := [(7, .int 0), (10, .int x8), (0, .ref (ad 0)), (1, .ref qn), (2, .ref qf), (3, .ref qv), (4, .ref qe), (5, .ref qw), (6, .int v1), (8, .int v3), (9, .int v4)]) hx hb dL_isSo_251 hl (by decide) rfl (fun ls hl => ?_)
                        obtain ⟨x50, ex50⟩ : ∃ y : Int32, y = (v4 : Int32) + 1 := ⟨_, rfl⟩
                        have hq := q_let hq ex50
                        refine lv_iinc (v := x50) (lv' := [(9, .int x50), (7, .int 0), (10, .int x8), (0, .ref (ad 0)), (1, .ref qn), (2, .ref qf), (3, .ref qv), (4, .ref qe), (5, .ref qw), (6, .int v1), (8, .int v3)]) hx hb dL_isSo_253 hl (k := 10) rfl (by rw [ex50]; rfl) (by decide) rfl (fun ls hl => ?_)
                        refine lv_goto (tgt := 66) hx hb dL_isSo_256 (by decide) ?_
                        exact ih 0 x50 hq ls (lv_sub hl [3, 4, 5, 6, 7, 8, 9, 1, 10, 0] rfl)
                      · have hq := q_if_t hq c49
                        refine lv_iconst (v := 1) hx hb dL_isSo_246 (by decide) ?_
                        refine lv_goto (tgt := 251) hx hb dL_isSo_247 (by decide) ?_
                        refine lv_istore (lv' := [(7, .int 1), (10, .int x8), (0, .ref (ad 0)), (1, .ref qn), (2, .ref qf), (3, .ref qv), (4, .ref qe), (5, .ref qw), (6, .int v1), (8, .int v3), (9, .int v4)]) hx hb dL_isSo_251 hl (by decide) rfl (fun ls hl => ?_)
                        obtain ⟨x51, ex51⟩ : ∃ y : Int32, y = (v4 : Int32) + 1 := ⟨_, rfl⟩
                        have hq := q_let hq ex51
                        refine lv_iinc (v := x51) (lv' := [(9, .int x51), (7, .int 1), (10, .int x8), (0, .ref (ad 0)), (1, .ref qn), (2, .ref qf), (3, .ref qv), (4, .ref qe), (5, .ref qw), (6, .int v1), (8, .int v3)]) hx hb dL_isSo_253 hl (k := 10) rfl (by rw [ex51]; rfl) (by decide) rfl (fun ls hl => ?_)
                        refine lv_goto (tgt := 66) hx hb dL_isSo_256 (by decide) ?_
                        exact ih 1 x51 hq ls (lv_sub hl [3, 4, 5, 6, 7, 8, 9, 1, 10, 0] rfl)
def F_L_isSo_262 (an : Nat → Int32) (af : Nat → Int32) (av : Nat → Int32) (ae : Nat → Int32) (aw : Nat → Int32) (cn : Nat → Int32) (cf : Nat → Nat → Int32) (v1 : Int32) (v3 : Int32) : Nat → Int32 → Int32 → Option (Int32)
  | 0, _, _ => none
  | n + 1, v2, v4 => if (12 : Int32) ≤ v4 then (some v2) else (if v2 = 0 then (some v2) else (if (v4 - v4 / 2 * 2) = 0 then ((F_L_low (((v1 >>> (v4 &&& 31)) * 31) + ((7 : Int32) * v4)) 1000).bind fun r17 => (F_L_valueOf cn cf v3 r17).bind fun r19 => (F_L_value an af av ae aw v3 r17).bind fun r21 => if r19 = r21 then (vlet ((v4 : Int32) + 1) fun x25 => F_L_isSo_262 an af av ae aw cn cf v1 v3 n 1 x25) else (vlet ((v4 : Int32) + 1) fun x24 => F_L_isSo_262 an af av ae aw cn cf v1 v3 n 0 x24)) else ((F_L_low (((v1 >>> (v4 &&& 31)) * 31) + ((7 : Int32) * v4)) 100).bind fun r8 => (F_L_valueOf cn cf v3 r8).bind fun r10 => (F_L_value an af av ae aw v3 r8).bind fun r12 => if r10 = r12 then (vlet ((v4 : Int32) + 1) fun x16 => F_L_isSo_262 an af av ae aw cn cf v1 v3 n 1 x16) else (vlet ((v4 : Int32) + 1) fun x15 => F_L_isSo_262 an af av ae aw cn cf v1 v3 n 0 x15))))
set_option maxHeartbeats 4000000 in
set_option maxRecDepth 100000 in
theorem w_L_isSo_262 {p : Program} {l : Launch} {e : Env} {s : State} {m : MethodId} {args : Array Value} {below : List Frame} {meth : Method} {c : Code} {G : va_G} {g : Nat → ClassId} (X : cx p s m args meth c cL_isSo 11 (some .boolean) RL wsL_isSo) (K : amb G g s) (ad : Nat → Nat) (qn qf qv qe qw : Nat) (bd : Nat → Nat → Nat) (sc : Int32) (tl : Int32) (tat : Int32) (tb : Nat → Int32) (sn : Nat → Nat → Int32) (sf : Nat → Nat → Nat → Int32) (tn : Int32) (tf : Nat → Int32) (vv : Nat → Int32) (ov : Nat → Int32) (an : Nat → Int32) (af : Nat → Int32) (av : Nat → Int32) (ae : Nat → Int32) (aw : Nat → Int32) (cn : Nat → Int32) (cf : Nat → Nat → Int32) (v1 : Int32) (v3 : Int32) (hP : va_P G vwCl ((qn, .inl (g 0, 2, .inl an)) :: (qf, .inl (g 0, 16, .inl af)) :: (qv, .inl (g 0, 16, .inl av)) :: (qe, .inl (g 0, 16, .inl ae)) :: (qw, .inl (g 0, 16, .inl aw)) :: (wX g ad bd sc tl tat tb cn cf sn sf tn tf vv ov)) s.heap) (res : Int32) {Q : State → Prop} (kk : ∀ (ls : Array Slot), lv_has ls 11 [(0, .ref (ad 0)), (1, .ref qn), (2, .ref qf), (3, .ref qv), (4, .ref qe), (5, .ref qw), (6, .int v1), (7, .int res), (8, .int v3)] → W p l e (rmF 6 147) s m args below meth c s.heap [] 0 0 Q (F0 m 346 ls [])) : ∀ (n : Nat) (v2 : Int32) (v4 : Int32), F_L_isSo_262 an af av ae aw cn cf v1 v3 n v2 v4 = some res → ∀ (ls : Array Slot), lv_has ls 11 [(0, .ref (ad 0)), (1, .ref qn), (2, .ref qf), (3, .ref qv), (4, .ref qe), (5, .ref qw), (6, .int v1), (7, .int v2), (8, .int v3), (9, .int v4)] → W p l e (rmF 6 147) s m args below meth c s.heap [] 0 0 Q (F0 m 262 ls []) := by
  obtain ⟨hx, hb, hml, hr, hown, hts, hk⟩ := id X
  intro n
  induction n with
  | zero => intro v2 v4 hq; exact q_no hq
  | succ n ih =>
    intro v2 v4 hq ls hl
    rw [F_L_isSo_262] at hq
    refine lv_iload hx hb dL_isSo_262 (lv_at hl 9 rfl) ?_
    refine lv_bipush (v := 12) hx hb dL_isSo_264 (by decide) ?_
    refine lv_icmp_ge (tgt := 346) hx hb dL_isSo_266 (by decide) (fun c5 => ?_) (fun c5 => ?_)
    · have hq := q_if_t hq c5
      obtain rfl := q_rt hq
      exact kk ls (lv_sub hl [0, 1, 2, 3, 4, 5, 6, 7, 8] rfl)
    · have hq := q_if_f hq c5
      refine lv_iload hx hb dL_isSo_269 (lv_at hl 7 rfl) ?_
      refine lv_if_eq (tgt := 346) hx hb dL_isSo_271 (by decide) (fun c6 => ?_) (fun c6 => ?_)
      · have hq := q_if_t hq c6
        obtain rfl := q_rt hq
        exact kk ls (lv_sub hl [0, 1, 2, 3, 4, 5, 6, 7, 8] rfl)
      · have hq := q_if_f hq c6
        refine lv_iload hx hb dL_isSo_274 (lv_at hl 6 rfl) ?_
        refine lv_iload hx hb dL_isSo_276 (lv_at hl 9 rfl) ?_
        refine lv_ishr hx hb dL_isSo_278 ?_
        refine lv_bipush (v := 31) hx hb dL_isSo_279 (by decide) ?_
        refine lv_imul hx hb dL_isSo_281 ?_
        refine lv_bipush (v := 7) hx hb dL_isSo_282 (by decide) ?_
        refine lv_iload hx hb dL_isSo_284 (lv_at hl 9 rfl) ?_
        refine lv_imul hx hb dL_isSo_286 ?_
        refine lv_iadd hx hb dL_isSo_287 ?_
        refine lv_iload hx hb dL_isSo_288 (lv_at hl 9 rfl) ?_
        refine lv_iconst (v := 2) hx hb dL_isSo_290 (by decide) ?_
        refine lv_irem hx hb dL_isSo_291 (by decide) ?_
        refine lv_if_ne (tgt := 301) hx hb dL_isSo_292 (by decide) (fun c7 => ?_) (fun c7 => ?_)
        · have hq := q_if_f hq c7
          refine lv_bipush (v := 100) hx hb dL_isSo_301 (by decide) ?_
          obtain ⟨r8, hh9, hq⟩ := q_bd hq
          refine roS (As := [.int (((v1 >>> (v4 &&& 31)) * 31) + ((7 : Int32) * v4)), .int 100]) (rest := []) X K (k_L_low l G g (((v1 >>> (v4 &&& 31)) * 31) + ((7 : Int32) * v4)) 100 _ hh9) hd_L_low gL_isSo_L_low (hP.sub [] rfl) hl.1 dL_isSo_303 rfl rfl ⟨Nat.le_of_ble_eq_true rfl, Nat.le_of_ble_eq_true rfl⟩ rfl (Nat.le_of_ble_eq_true rfl) ⟨Nat.le_of_ble_eq_true rfl, Nat.le_of_ble_eq_true rfl⟩ ?_
          refine lv_istore (lv' := [(10, .int r8), (0, .ref (ad 0)), (1, .ref qn), (2, .ref qf), (3, .ref qv), (4, .ref qe), (5, .ref qw), (6, .int v1), (7, .int v2), (8, .int v3), (9, .int v4)]) hx hb dL_isSo_306 hl (by decide) rfl (fun ls hl => ?_)
          refine lv_aload_n hx hb dL_isSo_308 rfl (lv_at hl 1 rfl) ?_
          refine lv_iload hx hb dL_isSo_309 (lv_at hl 9 rfl) ?_
          refine lv_iload hx hb dL_isSo_311 (lv_at hl 0 rfl) ?_
          obtain ⟨r10, hh11, hq⟩ := q_bd hq
          refine roSW (As := [.ref (ad 0), .int v3, .int r8]) (rest := []) X K (k_L_valueOf l G g ad bd sc tl tat tb cn cf sn sf tn tf vv ov v3 r8 _ hh11) hd_L_valueOf gL_isSo_L_valueOf ((foc_ap (wr := [(qn, .inl (g 0, 2, .inl an)), (qf, .inl (g 0, 16, .inl af)), (qv, .inl (g 0, 16, .inl av)), (qe, .inl (g 0, 16, .inl ae)), (qw, .inl (g 0, 16, .inl aw))]) (w1 := [])).sub hP) hl.1 dL_isSo_313 rfl rfl ⟨Nat.le_of_ble_eq_true rfl, Nat.le_of_ble_eq_true rfl⟩ rfl (Nat.le_of_ble_eq_true rfl) ⟨Nat.le_of_ble_eq_true rfl, Nat.le_of_ble_eq_true rfl⟩ ?_
          refine lv_aload_n hx hb dL_isSo_316 rfl (lv_at hl 2 rfl) ?_
          refine lv_aload_n hx hb dL_isSo_317 rfl (lv_at hl 3 rfl) ?_
          refine lv_aload_n hx hb dL_isSo_318 rfl (lv_at hl 4 rfl) ?_
          refine lv_aload hx hb dL_isSo_319 (lv_at hl 5 rfl) ?_
          refine lv_aload hx hb dL_isSo_321 (lv_at hl 6 rfl) ?_
          refine lv_iload hx hb dL_isSo_323 (lv_at hl 9 rfl) ?_
          refine lv_iload hx hb dL_isSo_325 (lv_at hl 0 rfl) ?_
          obtain ⟨r12, hh13, hq⟩ := q_bd hq
          refine roS (As := [.ref qn, .ref qf, .ref qv, .ref qe, .ref qw, .int v3, .int r8]) (rest := [.int r10]) X K (k_L_value l G g qn qf qv qe qw an af av ae aw v3 r8 _ hh13) hd_L_value gL_isSo_L_value (hP.sub [0, 1, 2, 3, 4] rfl) hl.1 dL_isSo_327 rfl rfl ⟨Nat.le_of_ble_eq_true rfl, Nat.le_of_ble_eq_true rfl⟩ rfl (Nat.le_of_ble_eq_true rfl) ⟨Nat.le_of_ble_eq_true rfl, Nat.le_of_ble_eq_true rfl⟩ ?_
          refine lv_icmp_ne (tgt := 337) hx hb dL_isSo_330 (by decide) (fun c14 => ?_) (fun c14 => ?_)
          · have hq := q_if_f hq c14
            refine lv_iconst (v := 0) hx hb dL_isSo_337 (by decide) ?_
            refine lv_istore (lv' := [(7, .int 0), (10, .int r8), (0, .ref (ad 0)), (1, .ref qn), (2, .ref qf), (3, .ref qv), (4, .ref qe), (5, .ref qw), (6, .int v1), (8, .int v3), (9, .int v4)]) hx hb dL_isSo_338 hl (by decide) rfl (fun ls hl => ?_)
            obtain ⟨x15, ex15⟩ : ∃ y : Int32, y = (v4 : Int32) + 1 := ⟨_, rfl⟩
            have hq := q_let hq ex15
            refine lv_iinc (v := x15) (lv' := [(9, .int x15), (7, .int 0), (10, .int r8), (0, .ref (ad 0)), (1, .ref qn), (2, .ref qf), (3, .ref qv), (4, .ref qe), (5, .ref qw), (6, .int v1), (8, .int v3)]) hx hb dL_isSo_340 hl (k := 10) rfl (by rw [ex15]; rfl) (by decide) rfl (fun ls hl => ?_)
            refine lv_goto (tgt := 262) hx hb dL_isSo_343 (by decide) ?_
            exact ih 0 x15 hq ls (lv_sub hl [3, 4, 5, 6, 7, 8, 9, 1, 10, 0] rfl)
          · have hq := q_if_t hq c14
            refine lv_iconst (v := 1) hx hb dL_isSo_333 (by decide) ?_
            refine lv_goto (tgt := 338) hx hb dL_isSo_334 (by decide) ?_
            refine lv_istore (lv' := [(7, .int 1), (10, .int r8), (0, .ref (ad 0)), (1, .ref qn), (2, .ref qf), (3, .ref qv), (4, .ref qe), (5, .ref qw), (6, .int v1), (8, .int v3), (9, .int v4)]) hx hb dL_isSo_338 hl (by decide) rfl (fun ls hl => ?_)
            obtain ⟨x16, ex16⟩ : ∃ y : Int32, y = (v4 : Int32) + 1 := ⟨_, rfl⟩
            have hq := q_let hq ex16
            refine lv_iinc (v := x16) (lv' := [(9, .int x16), (7, .int 1), (10, .int r8), (0, .ref (ad 0)), (1, .ref qn), (2, .ref qf), (3, .ref qv), (4, .ref qe), (5, .ref qw), (6, .int v1), (8, .int v3)]) hx hb dL_isSo_340 hl (k := 10) rfl (by rw [ex16]; rfl) (by decide) rfl (fun ls hl => ?_)
            refine lv_goto (tgt := 262) hx hb dL_isSo_343 (by decide) ?_
            exact ih 1 x16 hq ls (lv_sub hl [3, 4, 5, 6, 7, 8, 9, 1, 10, 0] rfl)
        · have hq := q_if_t hq c7
          refine lv_sipush (v := 1000) hx hb dL_isSo_295 (by decide) ?_
          refine lv_goto (tgt := 303) hx hb dL_isSo_298 (by decide) ?_
          obtain ⟨r17, hh18, hq⟩ := q_bd hq
          refine roS (As := [.int (((v1 >>> (v4 &&& 31)) * 31) + ((7 : Int32) * v4)), .int 1000]) (rest := []) X K (k_L_low l G g (((v1 >>> (v4 &&& 31)) * 31) + ((7 : Int32) * v4)) 1000 _ hh18) hd_L_low gL_isSo_L_low (hP.sub [] rfl) hl.1 dL_isSo_303 rfl rfl ⟨Nat.le_of_ble_eq_true rfl, Nat.le_of_ble_eq_true rfl⟩ rfl (Nat.le_of_ble_eq_true rfl) ⟨Nat.le_of_ble_eq_true rfl, Nat.le_of_ble_eq_true rfl⟩ ?_
          refine lv_istore (lv' := [(10, .int r17), (0, .ref (ad 0)), (1, .ref qn), (2, .ref qf), (3, .ref qv), (4, .ref qe), (5, .ref qw), (6, .int v1), (7, .int v2), (8, .int v3), (9, .int v4)]) hx hb dL_isSo_306 hl (by decide) rfl (fun ls hl => ?_)
          refine lv_aload_n hx hb dL_isSo_308 rfl (lv_at hl 1 rfl) ?_
          refine lv_iload hx hb dL_isSo_309 (lv_at hl 9 rfl) ?_
          refine lv_iload hx hb dL_isSo_311 (lv_at hl 0 rfl) ?_
          obtain ⟨r19, hh20, hq⟩ := q_bd hq
          refine roSW (As := [.ref (ad 0), .int v3, .int r17]) (rest := []) X K (k_L_valueOf l G g ad bd sc tl tat tb cn cf sn sf tn tf vv ov v3 r17 _ hh20) hd_L_valueOf gL_isSo_L_valueOf ((foc_ap (wr := [(qn, .inl (g 0, 2, .inl an)), (qf, .inl (g 0, 16, .inl af)), (qv, .inl (g 0, 16, .inl av)), (qe, .inl (g 0, 16, .inl ae)), (qw, .inl (g 0, 16, .inl aw))]) (w1 := [])).sub hP) hl.1 dL_isSo_313 rfl rfl ⟨Nat.le_of_ble_eq_true rfl, Nat.le_of_ble_eq_true rfl⟩ rfl (Nat.le_of_ble_eq_true rfl) ⟨Nat.le_of_ble_eq_true rfl, Nat.le_of_ble_eq_true rfl⟩ ?_
          refine lv_aload_n hx hb dL_isSo_316 rfl (lv_at hl 2 rfl) ?_
          refine lv_aload_n hx hb dL_isSo_317 rfl (lv_at hl 3 rfl) ?_
          refine lv_aload_n hx hb dL_isSo_318 rfl (lv_at hl 4 rfl) ?_
          refine lv_aload hx hb dL_isSo_319 (lv_at hl 5 rfl) ?_
          refine lv_aload hx hb dL_isSo_321 (lv_at hl 6 rfl) ?_
          refine lv_iload hx hb dL_isSo_323 (lv_at hl 9 rfl) ?_
          refine lv_iload hx hb dL_isSo_325 (lv_at hl 0 rfl) ?_
          obtain ⟨r21, hh22, hq⟩ := q_bd hq
          refine roS (As := [.ref qn, .ref qf, .ref qv, .ref qe, .ref qw, .int v3, .int r17]) (rest := [.int r19]) X K (k_L_value l G g qn qf qv qe qw an af av ae aw v3 r17 _ hh22) hd_L_value gL_isSo_L_value (hP.sub [0, 1, 2, 3, 4] rfl) hl.1 dL_isSo_327 rfl rfl ⟨Nat.le_of_ble_eq_true rfl, Nat.le_of_ble_eq_true rfl⟩ rfl (Nat.le_of_ble_eq_true rfl) ⟨Nat.le_of_ble_eq_true rfl, Nat.le_of_ble_eq_true rfl⟩ ?_
          refine lv_icmp_ne (tgt := 337) hx hb dL_isSo_330 (by decide) (fun c23 => ?_) (fun c23 => ?_)
          · have hq := q_if_f hq c23
            refine lv_iconst (v := 0) hx hb dL_isSo_337 (by decide) ?_
            refine lv_istore (lv' := [(7, .int 0), (10, .int r17), (0, .ref (ad 0)), (1, .ref qn), (2, .ref qf), (3, .ref qv), (4, .ref qe), (5, .ref qw), (6, .int v1), (8, .int v3), (9, .int v4)]) hx hb dL_isSo_338 hl (by decide) rfl (fun ls hl => ?_)
            obtain ⟨x24, ex24⟩ : ∃ y : Int32, y = (v4 : Int32) + 1 := ⟨_, rfl⟩
            have hq := q_let hq ex24
            refine lv_iinc (v := x24) (lv' := [(9, .int x24), (7, .int 0), (10, .int r17), (0, .ref (ad 0)), (1, .ref qn), (2, .ref qf), (3, .ref qv), (4, .ref qe), (5, .ref qw), (6, .int v1), (8, .int v3)]) hx hb dL_isSo_340 hl (k := 10) rfl (by rw [ex24]; rfl) (by decide) rfl (fun ls hl => ?_)
            refine lv_goto (tgt := 262) hx hb dL_isSo_343 (by decide) ?_
            exact ih 0 x24 hq ls (lv_sub hl [3, 4, 5, 6, 7, 8, 9, 1, 10, 0] rfl)
          · have hq := q_if_t hq c23
            refine lv_iconst (v := 1) hx hb dL_isSo_333 (by decide) ?_
            refine lv_goto (tgt := 338) hx hb dL_isSo_334 (by decide) ?_
            refine lv_istore (lv' := [(7, .int 1), (10, .int r17), (0, .ref (ad 0)), (1, .ref qn), (2, .ref qf), (3, .ref qv), (4, .ref qe), (5, .ref qw), (6, .int v1), (8, .int v3), (9, .int v4)]) hx hb dL_isSo_338 hl (by decide) rfl (fun ls hl => ?_)
            obtain ⟨x25, ex25⟩ : ∃ y : Int32, y = (v4 : Int32) + 1 := ⟨_, rfl⟩
            have hq := q_let hq ex25
            refine lv_iinc (v := x25) (lv' := [(9, .int x25), (7, .int 1), (10, .int r17), (0, .ref (ad 0)), (1, .ref qn), (2, .ref qf), (3, .ref qv), (4, .ref qe), (5, .ref qw), (6, .int v1), (8, .int v3)]) hx hb dL_isSo_340 hl (k := 10) rfl (by rw [ex25]; rfl) (by decide) rfl (fun ls hl => ?_)
            refine lv_goto (tgt := 262) hx hb dL_isSo_343 (by decide) ?_
            exact ih 1 x25 hq ls (lv_sub hl [3, 4, 5, 6, 7, 8, 9, 1, 10, 0] rfl)
def F_L_isSo_30 (an : Nat → Int32) (af : Nat → Int32) (av : Nat → Int32) (ae : Nat → Int32) (aw : Nat → Int32) (cn : Nat → Int32) (cf : Nat → Nat → Int32) (v1 : Int32) : Nat → Int32 → Int32 → Option (Int32)
  | 0, _, _ => none
  | n + 1, v2, v3 => if (2 : Int32) ≤ v3 then (vgd (v2 = 0 ∨ v2 = 1) <| some (v2)) else (if v2 = 0 then (vgd (v2 = 0 ∨ v2 = 1) <| some (v2)) else ((F_L_keyOf cn cf v3 (-1) 3).bind fun r8 => vgd (ix (v3) 2) <| if r8 = (an v3.toNatClampNeg) then ((F_L_isSo_66 an af av ae aw cn cf v1 v3 2000 1 0).bind fun o15 => (F_L_isSo_262 an af av ae aw cn cf v1 v3 2000 o15 0).bind fun o16 => vlet ((v3 : Int32) + 1) fun x17 => F_L_isSo_30 an af av ae aw cn cf v1 n o16 x17) else ((F_L_isSo_66 an af av ae aw cn cf v1 v3 2000 0 0).bind fun o12 => (F_L_isSo_262 an af av ae aw cn cf v1 v3 2000 o12 0).bind fun o13 => vlet ((v3 : Int32) + 1) fun x14 => F_L_isSo_30 an af av ae aw cn cf v1 n o13 x14)))
set_option maxHeartbeats 4000000 in
set_option maxRecDepth 100000 in
theorem w_L_isSo_30 {p : Program} {l : Launch} {e : Env} {s : State} {m : MethodId} {args : Array Value} {below : List Frame} {meth : Method} {c : Code} {G : va_G} {g : Nat → ClassId} (X : cx p s m args meth c cL_isSo 11 (some .boolean) RL wsL_isSo) (K : amb G g s) (ad : Nat → Nat) (qn qf qv qe qw : Nat) (bd : Nat → Nat → Nat) (sc : Int32) (tl : Int32) (tat : Int32) (tb : Nat → Int32) (sn : Nat → Nat → Int32) (sf : Nat → Nat → Nat → Int32) (tn : Int32) (tf : Nat → Int32) (vv : Nat → Int32) (ov : Nat → Int32) (an : Nat → Int32) (af : Nat → Int32) (av : Nat → Int32) (ae : Nat → Int32) (aw : Nat → Int32) (cn : Nat → Int32) (cf : Nat → Nat → Int32) (v1 : Int32) (hP : va_P G vwCl ((qn, .inl (g 0, 2, .inl an)) :: (qf, .inl (g 0, 16, .inl af)) :: (qv, .inl (g 0, 16, .inl av)) :: (qe, .inl (g 0, 16, .inl ae)) :: (qw, .inl (g 0, 16, .inl aw)) :: (wX g ad bd sc tl tat tb cn cf sn sf tn tf vv ov)) s.heap) (res : Int32) : ∀ (n : Nat) (v2 : Int32) (v3 : Int32), F_L_isSo_30 an af av ae aw cn cf v1 n v2 v3 = some res → ∀ (ls : Array Slot), lv_has ls 11 [(0, .ref (ad 0)), (1, .ref qn), (2, .ref qf), (3, .ref qv), (4, .ref qe), (5, .ref qw), (6, .int v1), (7, .int v2), (8, .int v3)] → W p l e (rmF 6 147) s m args below meth c s.heap [] 0 0 (roM below (some (.int res)) args s) (F0 m 30 ls []) := by
  obtain ⟨hx, hb, hml, hr, hown, hts, hk⟩ := id X
  intro n
  induction n with
  | zero => intro v2 v3 hq; exact q_no hq
  | succ n ih =>
    intro v2 v3 hq ls hl
    rw [F_L_isSo_30] at hq
    refine lv_iload hx hb dL_isSo_30 (lv_at hl 8 rfl) ?_
    refine lv_iconst (v := 2) hx hb dL_isSo_32 (by decide) ?_
    refine lv_icmp_ge (tgt := 352) hx hb dL_isSo_33 (by decide) (fun c4 => ?_) (fun c4 => ?_)
    · have hq := q_if_t hq c4
      refine lv_iload hx hb dL_isSo_352 (lv_at hl 7 rfl) ?_
      obtain ⟨hh5, hq⟩ := q_gd hq
      obtain rfl := q_rt hq
      exact ro_zret hx hb hr (nz_b hh5) hk dL_isSo_354
    · have hq := q_if_f hq c4
      refine lv_iload hx hb dL_isSo_36 (lv_at hl 7 rfl) ?_
      refine lv_if_eq (tgt := 352) hx hb dL_isSo_38 (by decide) (fun c6 => ?_) (fun c6 => ?_)
      · have hq := q_if_t hq c6
        refine lv_iload hx hb dL_isSo_352 (lv_at hl 7 rfl) ?_
        obtain ⟨hh7, hq⟩ := q_gd hq
        obtain rfl := q_rt hq
        exact ro_zret hx hb hr (nz_b hh7) hk dL_isSo_354
      · have hq := q_if_f hq c6
        refine lv_aload_n hx hb dL_isSo_41 rfl (lv_at hl 0 rfl) ?_
        refine lv_iload hx hb dL_isSo_42 (lv_at hl 8 rfl) ?_
        refine lv_iconst (v := (-1)) hx hb dL_isSo_44 (by decide) ?_
        refine lv_iconst (v := 3) hx hb dL_isSo_45 (by decide) ?_
        obtain ⟨r8, hh9, hq⟩ := q_bd hq
        refine roSW (As := [.ref (ad 0), .int v3, .int (-1), .int 3]) (rest := []) X K (k_L_keyOf l G g ad bd sc tl tat tb cn cf sn sf tn tf vv ov v3 (-1) 3 _ hh9) hd_L_keyOf gL_isSo_L_keyOf ((foc_ap (wr := [(qn, .inl (g 0, 2, .inl an)), (qf, .inl (g 0, 16, .inl af)), (qv, .inl (g 0, 16, .inl av)), (qe, .inl (g 0, 16, .inl ae)), (qw, .inl (g 0, 16, .inl aw))]) (w1 := [])).sub hP) hl.1 dL_isSo_46 rfl rfl ⟨Nat.le_of_ble_eq_true rfl, Nat.le_of_ble_eq_true rfl⟩ rfl (Nat.le_of_ble_eq_true rfl) ⟨Nat.le_of_ble_eq_true rfl, Nat.le_of_ble_eq_true rfl⟩ ?_
        refine lv_aload_n hx hb dL_isSo_49 rfl (lv_at hl 1 rfl) ?_
        refine lv_iload hx hb dL_isSo_50 (lv_at hl 8 rfl) ?_
        obtain ⟨hh10, hq⟩ := q_gd hq
        refine va_iald hx hb K.1 hP 0 0 rfl rfl (vp_in_iff.mpr hh10) dL_isSo_52 ?_
        refine lv_icmp_ne (tgt := 60) hx hb dL_isSo_53 (by decide) (fun c11 => ?_) (fun c11 => ?_)
        · have hq := q_if_f hq c11
          refine lv_iconst (v := 0) hx hb dL_isSo_60 (by decide) ?_
          refine lv_istore (lv' := [(7, .int 0), (0, .ref (ad 0)), (1, .ref qn), (2, .ref qf), (3, .ref qv), (4, .ref qe), (5, .ref qw), (6, .int v1), (8, .int v3)]) hx hb dL_isSo_61 hl (by decide) rfl (fun ls hl => ?_)
          refine lv_iconst (v := 0) hx hb dL_isSo_63 (by decide) ?_
          refine lv_istore (lv' := [(9, .int 0), (7, .int 0), (0, .ref (ad 0)), (1, .ref qn), (2, .ref qf), (3, .ref qv), (4, .ref qe), (5, .ref qw), (6, .int v1), (8, .int v3)]) hx hb dL_isSo_64 hl (by decide) rfl (fun ls hl => ?_)
          obtain ⟨o12, ho12, hq⟩ := q_bd hq
          refine w_L_isSo_66 X K ad qn qf qv qe qw bd sc tl tat tb sn sf tn tf vv ov an af av ae aw cn cf v1 v3 hP o12 (fun ls hl => ?_) 2000 0 0 ho12 ls (lv_sub hl [2, 3, 4, 5, 6, 7, 8, 1, 9, 0] rfl)
          have hl : lv_has ls 11 [(0, .ref (ad 0)), (1, .ref qn), (2, .ref qf), (3, .ref qv), (4, .ref qe), (5, .ref qw), (6, .int v1), (7, .int o12), (8, .int v3)] := hl
          refine lv_iconst (v := 0) hx hb dL_isSo_259 (by decide) ?_
          refine lv_istore (lv' := [(9, .int 0), (0, .ref (ad 0)), (1, .ref qn), (2, .ref qf), (3, .ref qv), (4, .ref qe), (5, .ref qw), (6, .int v1), (7, .int o12), (8, .int v3)]) hx hb dL_isSo_260 hl (by decide) rfl (fun ls hl => ?_)
          obtain ⟨o13, ho13, hq⟩ := q_bd hq
          refine w_L_isSo_262 X K ad qn qf qv qe qw bd sc tl tat tb sn sf tn tf vv ov an af av ae aw cn cf v1 v3 hP o13 (fun ls hl => ?_) 2000 o12 0 ho13 ls (lv_sub hl [1, 2, 3, 4, 5, 6, 7, 8, 9, 0] rfl)
          have hl : lv_has ls 11 [(0, .ref (ad 0)), (1, .ref qn), (2, .ref qf), (3, .ref qv), (4, .ref qe), (5, .ref qw), (6, .int v1), (7, .int o13), (8, .int v3)] := hl
          obtain ⟨x14, ex14⟩ : ∃ y : Int32, y = (v3 : Int32) + 1 := ⟨_, rfl⟩
          have hq := q_let hq ex14
          refine lv_iinc (v := x14) (lv' := [(8, .int x14), (0, .ref (ad 0)), (1, .ref qn), (2, .ref qf), (3, .ref qv), (4, .ref qe), (5, .ref qw), (6, .int v1), (7, .int o13)]) hx hb dL_isSo_346 hl (k := 8) rfl (by rw [ex14]; rfl) (by decide) rfl (fun ls hl => ?_)
          refine lv_goto (tgt := 30) hx hb dL_isSo_349 (by decide) ?_
          exact ih o13 x14 hq ls (lv_sub hl [1, 2, 3, 4, 5, 6, 7, 8, 0] rfl)
        · have hq := q_if_t hq c11
          refine lv_iconst (v := 1) hx hb dL_isSo_56 (by decide) ?_
          refine lv_goto (tgt := 61) hx hb dL_isSo_57 (by decide) ?_
          refine lv_istore (lv' := [(7, .int 1), (0, .ref (ad 0)), (1, .ref qn), (2, .ref qf), (3, .ref qv), (4, .ref qe), (5, .ref qw), (6, .int v1), (8, .int v3)]) hx hb dL_isSo_61 hl (by decide) rfl (fun ls hl => ?_)
          refine lv_iconst (v := 0) hx hb dL_isSo_63 (by decide) ?_
          refine lv_istore (lv' := [(9, .int 0), (7, .int 1), (0, .ref (ad 0)), (1, .ref qn), (2, .ref qf), (3, .ref qv), (4, .ref qe), (5, .ref qw), (6, .int v1), (8, .int v3)]) hx hb dL_isSo_64 hl (by decide) rfl (fun ls hl => ?_)
          obtain ⟨o15, ho15, hq⟩ := q_bd hq
          refine w_L_isSo_66 X K ad qn qf qv qe qw bd sc tl tat tb sn sf tn tf vv ov an af av ae aw cn cf v1 v3 hP o15 (fun ls hl => ?_) 2000 1 0 ho15 ls (lv_sub hl [2, 3, 4, 5, 6, 7, 8, 1, 9, 0] rfl)
          have hl : lv_has ls 11 [(0, .ref (ad 0)), (1, .ref qn), (2, .ref qf), (3, .ref qv), (4, .ref qe), (5, .ref qw), (6, .int v1), (7, .int o15), (8, .int v3)] := hl
          refine lv_iconst (v := 0) hx hb dL_isSo_259 (by decide) ?_
          refine lv_istore (lv' := [(9, .int 0), (0, .ref (ad 0)), (1, .ref qn), (2, .ref qf), (3, .ref qv), (4, .ref qe), (5, .ref qw), (6, .int v1), (7, .int o15), (8, .int v3)]) hx hb dL_isSo_260 hl (by decide) rfl (fun ls hl => ?_)
          obtain ⟨o16, ho16, hq⟩ := q_bd hq
          refine w_L_isSo_262 X K ad qn qf qv qe qw bd sc tl tat tb sn sf tn tf vv ov an af av ae aw cn cf v1 v3 hP o16 (fun ls hl => ?_) 2000 o15 0 ho16 ls (lv_sub hl [1, 2, 3, 4, 5, 6, 7, 8, 9, 0] rfl)
          have hl : lv_has ls 11 [(0, .ref (ad 0)), (1, .ref qn), (2, .ref qf), (3, .ref qv), (4, .ref qe), (5, .ref qw), (6, .int v1), (7, .int o16), (8, .int v3)] := hl
          obtain ⟨x17, ex17⟩ : ∃ y : Int32, y = (v3 : Int32) + 1 := ⟨_, rfl⟩
          have hq := q_let hq ex17
          refine lv_iinc (v := x17) (lv' := [(8, .int x17), (0, .ref (ad 0)), (1, .ref qn), (2, .ref qf), (3, .ref qv), (4, .ref qe), (5, .ref qw), (6, .int v1), (7, .int o16)]) hx hb dL_isSo_346 hl (k := 8) rfl (by rw [ex17]; rfl) (by decide) rfl (fun ls hl => ?_)
          refine lv_goto (tgt := 30) hx hb dL_isSo_349 (by decide) ?_
          exact ih o16 x17 hq ls (lv_sub hl [1, 2, 3, 4, 5, 6, 7, 8, 0] rfl)
def F_L_isSo_25 (an : Nat → Int32) (af : Nat → Int32) (av : Nat → Int32) (ae : Nat → Int32) (aw : Nat → Int32) (cn : Nat → Int32) (cf : Nat → Nat → Int32) (v1 : Int32) (v2 : Int32) : Option (Int32) := F_L_isSo_30 an af av ae aw cn cf v1 2000 v2 0
set_option maxHeartbeats 4000000 in
set_option maxRecDepth 100000 in
theorem w_L_isSo_25 {p : Program} {l : Launch} {e : Env} {s : State} {m : MethodId} {args : Array Value} {below : List Frame} {meth : Method} {c : Code} {G : va_G} {g : Nat → ClassId} (X : cx p s m args meth c cL_isSo 11 (some .boolean) RL wsL_isSo) (K : amb G g s) (ad : Nat → Nat) (qn qf qv qe qw : Nat) (bd : Nat → Nat → Nat) (sc : Int32) (tl : Int32) (tat : Int32) (tb : Nat → Int32) (sn : Nat → Nat → Int32) (sf : Nat → Nat → Nat → Int32) (tn : Int32) (tf : Nat → Int32) (vv : Nat → Int32) (ov : Nat → Int32) (an : Nat → Int32) (af : Nat → Int32) (av : Nat → Int32) (ae : Nat → Int32) (aw : Nat → Int32) (cn : Nat → Int32) (cf : Nat → Nat → Int32) (v1 : Int32) (v2 : Int32) (hP : va_P G vwCl ((qn, .inl (g 0, 2, .inl an)) :: (qf, .inl (g 0, 16, .inl af)) :: (qv, .inl (g 0, 16, .inl av)) :: (qe, .inl (g 0, 16, .inl ae)) :: (qw, .inl (g 0, 16, .inl aw)) :: (wX g ad bd sc tl tat tb cn cf sn sf tn tf vv ov)) s.heap) (res : Int32) (hq : F_L_isSo_25 an af av ae aw cn cf v1 v2 = some res) : ∀ (ls : Array Slot), lv_has ls 11 [(0, .ref (ad 0)), (1, .ref qn), (2, .ref qf), (3, .ref qv), (4, .ref qe), (5, .ref qw), (6, .int v1)] → W p l e (rmF 6 147) s m args below meth c s.heap [] 0 0 (roM below (some (.int res)) args s) (F0 m 25 ls [.int v2]) := by
  obtain ⟨hx, hb, hml, hr, hown, hts, hk⟩ := id X
  intro ls hl
  unfold F_L_isSo_25 at hq
  refine lv_istore (lv' := [(7, .int v2), (0, .ref (ad 0)), (1, .ref qn), (2, .ref qf), (3, .ref qv), (4, .ref qe), (5, .ref qw), (6, .int v1)]) hx hb dL_isSo_25 hl (by decide) rfl (fun ls hl => ?_)
  refine lv_iconst (v := 0) hx hb dL_isSo_27 (by decide) ?_
  refine lv_istore (lv' := [(8, .int 0), (7, .int v2), (0, .ref (ad 0)), (1, .ref qn), (2, .ref qf), (3, .ref qv), (4, .ref qe), (5, .ref qw), (6, .int v1)]) hx hb dL_isSo_28 hl (by decide) rfl (fun ls hl => ?_)
  exact w_L_isSo_30 X K ad qn qf qv qe qw bd sc tl tat tb sn sf tn tf vv ov an af av ae aw cn cf v1 hP _ 2000 v2 0 hq ls (lv_sub hl [2, 3, 4, 5, 6, 7, 8, 1, 0] rfl)
def F_L_isSo_24 (an : Nat → Int32) (af : Nat → Int32) (av : Nat → Int32) (ae : Nat → Int32) (aw : Nat → Int32) (cn : Nat → Int32) (cf : Nat → Nat → Int32) (v1 : Int32) : Option (Int32) := F_L_isSo_25 an af av ae aw cn cf v1 0
set_option maxHeartbeats 4000000 in
set_option maxRecDepth 100000 in
theorem w_L_isSo_24 {p : Program} {l : Launch} {e : Env} {s : State} {m : MethodId} {args : Array Value} {below : List Frame} {meth : Method} {c : Code} {G : va_G} {g : Nat → ClassId} (X : cx p s m args meth c cL_isSo 11 (some .boolean) RL wsL_isSo) (K : amb G g s) (ad : Nat → Nat) (qn qf qv qe qw : Nat) (bd : Nat → Nat → Nat) (sc : Int32) (tl : Int32) (tat : Int32) (tb : Nat → Int32) (sn : Nat → Nat → Int32) (sf : Nat → Nat → Nat → Int32) (tn : Int32) (tf : Nat → Int32) (vv : Nat → Int32) (ov : Nat → Int32) (an : Nat → Int32) (af : Nat → Int32) (av : Nat → Int32) (ae : Nat → Int32) (aw : Nat → Int32) (cn : Nat → Int32) (cf : Nat → Nat → Int32) (v1 : Int32) (hP : va_P G vwCl ((qn, .inl (g 0, 2, .inl an)) :: (qf, .inl (g 0, 16, .inl af)) :: (qv, .inl (g 0, 16, .inl av)) :: (qe, .inl (g 0, 16, .inl ae)) :: (qw, .inl (g 0, 16, .inl aw)) :: (wX g ad bd sc tl tat tb cn cf sn sf tn tf vv ov)) s.heap) (res : Int32) (hq : F_L_isSo_24 an af av ae aw cn cf v1 = some res) : ∀ (ls : Array Slot), lv_has ls 11 [(0, .ref (ad 0)), (1, .ref qn), (2, .ref qf), (3, .ref qv), (4, .ref qe), (5, .ref qw), (6, .int v1)] → W p l e (rmF 6 147) s m args below meth c s.heap [] 0 0 (roM below (some (.int res)) args s) (F0 m 24 ls []) := by
  obtain ⟨hx, hb, hml, hr, hown, hts, hk⟩ := id X
  intro ls hl
  unfold F_L_isSo_24 at hq
  refine lv_iconst (v := 0) hx hb dL_isSo_24 (by decide) ?_
  exact w_L_isSo_25 X K ad qn qf qv qe qw bd sc tl tat tb sn sf tn tf vv ov an af av ae aw cn cf v1 0 hP _ hq ls (lv_sub hl [0, 1, 2, 3, 4, 5, 6] rfl)
def F_L_isSo (an : Nat → Int32) (af : Nat → Int32) (av : Nat → Int32) (ae : Nat → Int32) (aw : Nat → Int32) (cn : Nat → Int32) (cf : Nat → Nat → Int32) (p7 : Int32) : Option (Int32) := (F_L_keyOf cn cf 2 (-1) 0).bind fun r1 => if r1 = 0 then ((F_L_keyOf cn cf 3 (-1) 0).bind fun r4 => if r4 = 0 then (F_L_isSo_25 an af av ae aw cn cf p7 1) else (F_L_isSo_24 an af av ae aw cn cf p7)) else (F_L_isSo_24 an af av ae aw cn cf p7)
set_option maxHeartbeats 4000000 in
set_option maxRecDepth 100000 in
theorem k_L_isSo (l : Launch) (G : va_G) (g : Nat → ClassId) (ad : Nat → Nat) (qn qf qv qe qw : Nat) (an : Nat → Int32) (af : Nat → Int32) (av : Nat → Int32) (ae : Nat → Int32) (aw : Nat → Int32) (bd : Nat → Nat → Nat) (sc : Int32) (tl : Int32) (tat : Int32) (tb : Nat → Int32) (cn : Nat → Int32) (cf : Nat → Nat → Int32) (sn : Nat → Nat → Int32) (sf : Nat → Nat → Nat → Int32) (tn : Int32) (tf : Nat → Int32) (vv : Nat → Int32) (ov : Nat → Int32) (p7 : Int32) (res : Int32) (hq : F_L_isSo an af av ae aw cn cf p7 = some res) : roC l yL_isSo wsL_isSo (rmF 6 147) G g [.ref (ad 0), .ref qn, .ref qf, .ref qv, .ref qe, .ref qw, .int p7] ((qn, .inl (g 0, 2, .inl an)) :: (qf, .inl (g 0, 16, .inl af)) :: (qv, .inl (g 0, 16, .inl av)) :: (qe, .inl (g 0, 16, .inl ae)) :: (qw, .inl (g 0, 16, .inl aw)) :: (wX g ad bd sc tl tat tb cn cf sn sf tn tf vv ov)) (some (.int res)) := by
  refine roC.of (cc := cL_isSo) (maxL := 11) (ret := (some .boolean)) (by decide) rfl (Nat.le_of_ble_eq_true rfl) ?_
  intro p e s m below meth c ls X K hP hl
  obtain ⟨hx, hb, hml, hr, hown, hts, hk⟩ := id X
  have hl : lv_has ls 11 [(0, .ref (ad 0)), (1, .ref qn), (2, .ref qf), (3, .ref qv), (4, .ref qe), (5, .ref qw), (6, .int p7)] := hl
  unfold F_L_isSo at hq
  refine lv_aload_n hx hb dL_isSo_0 rfl (lv_at hl 0 rfl) ?_
  refine lv_iconst (v := 2) hx hb dL_isSo_1 (by decide) ?_
  refine lv_iconst (v := (-1)) hx hb dL_isSo_2 (by decide) ?_
  refine lv_iconst (v := 0) hx hb dL_isSo_3 (by decide) ?_
  obtain ⟨r1, hh2, hq⟩ := q_bd hq
  refine roSW (As := [.ref (ad 0), .int 2, .int (-1), .int 0]) (rest := []) X K (k_L_keyOf l G g ad bd sc tl tat tb cn cf sn sf tn tf vv ov 2 (-1) 0 _ hh2) hd_L_keyOf gL_isSo_L_keyOf ((foc_ap (wr := [(qn, .inl (g 0, 2, .inl an)), (qf, .inl (g 0, 16, .inl af)), (qv, .inl (g 0, 16, .inl av)), (qe, .inl (g 0, 16, .inl ae)), (qw, .inl (g 0, 16, .inl aw))]) (w1 := [])).sub hP) hl.1 dL_isSo_4 rfl rfl ⟨Nat.le_of_ble_eq_true rfl, Nat.le_of_ble_eq_true rfl⟩ rfl (Nat.le_of_ble_eq_true rfl) ⟨Nat.le_of_ble_eq_true rfl, Nat.le_of_ble_eq_true rfl⟩ ?_
  refine lv_if_ne (tgt := 24) hx hb dL_isSo_7 (by decide) (fun c3 => ?_) (fun c3 => ?_)
  · have hq := q_if_f hq c3
    exact w_L_isSo_24 X K ad qn qf qv qe qw bd sc tl tat tb sn sf tn tf vv ov an af av ae aw cn cf p7 hP _ hq ls (lv_sub hl [0, 1, 2, 3, 4, 5, 6] rfl)
  · have hq := q_if_t hq c3
    refine lv_aload_n hx hb dL_isSo_10 rfl (lv_at hl 0 rfl) ?_
    refine lv_iconst (v := 3) hx hb dL_isSo_11 (by decide) ?_
    refine lv_iconst (v := (-1)) hx hb dL_isSo_12 (by decide) ?_
    refine lv_iconst (v := 0) hx hb dL_isSo_13 (by decide) ?_
    obtain ⟨r4, hh5, hq⟩ := q_bd hq
    refine roSW (As := [.ref (ad 0), .int 3, .int (-1), .int 0]) (rest := []) X K (k_L_keyOf l G g ad bd sc tl tat tb cn cf sn sf tn tf vv ov 3 (-1) 0 _ hh5) hd_L_keyOf gL_isSo_L_keyOf ((foc_ap (wr := [(qn, .inl (g 0, 2, .inl an)), (qf, .inl (g 0, 16, .inl af)), (qv, .inl (g 0, 16, .inl av)), (qe, .inl (g 0, 16, .inl ae)), (qw, .inl (g 0, 16, .inl aw))]) (w1 := [])).sub hP) hl.1 dL_isSo_14 rfl rfl ⟨Nat.le_of_ble_eq_true rfl, Nat.le_of_ble_eq_true rfl⟩ rfl (Nat.le_of_ble_eq_true rfl) ⟨Nat.le_of_ble_eq_true rfl, Nat.le_of_ble_eq_true rfl⟩ ?_
    refine lv_if_ne (tgt := 24) hx hb dL_isSo_17 (by decide) (fun c6 => ?_) (fun c6 => ?_)
    · have hq := q_if_f hq c6
      exact w_L_isSo_24 X K ad qn qf qv qe qw bd sc tl tat tb sn sf tn tf vv ov an af av ae aw cn cf p7 hP _ hq ls (lv_sub hl [0, 1, 2, 3, 4, 5, 6] rfl)
    · have hq := q_if_t hq c6
      refine lv_iconst (v := 1) hx hb dL_isSo_20 (by decide) ?_
      refine lv_goto (tgt := 25) hx hb dL_isSo_21 (by decide) ?_
      exact w_L_isSo_25 X K ad qn qf qv qe qw bd sc tl tat tb sn sf tn tf vv ov an af av ae aw cn cf p7 1 hP _ hq ls (lv_sub hl [0, 1, 2, 3, 4, 5, 6] rfl)

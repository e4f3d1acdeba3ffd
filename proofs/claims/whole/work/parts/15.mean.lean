/-! ===== doubles: a whole number, divided by 1000, is a number, and equal to itself ===== -/
theorem b64_t : FP.Core.b64.tails = 4503599627370496 := by decide
theorem b64_e : FP.Core.b64.exps = 2048 := by decide
theorem b64_n : FP.Core.b64.qmin = -1074 := by decide
theorem b64_m : FP.Core.b64.qmax = 971 := by decide
theorem b64_p : (2 : Nat) ^ FP.Core.b64.p = 9007199254740992 := by decide
def okD (d : FP.Core.Datum) : Prop := (∃ s, d = .inf s) ∨ ∃ (s : Bool) (c : Nat) (q : Int), d = .fin s c q ∧ c < 9007199254740992 ∧ q ≤ 971
theorem okD_rr (s : Bool) (n m : Nat) (e : Int) : okD (FP.Core.roundRatio FP.Core.b64 s n m e) := by
  unfold FP.Core.roundRatio
  split
  · exact Or.inr ⟨_, _, _, rfl, by decide, by decide⟩
  · unfold FP.Core.roundAt FP.Core.settle
    split
    · rename_i h
      unfold FP.Core.bound
      split
      · rename_i h2
        exact Or.inr ⟨_, _, _, rfl, by rw [b64_p] at h; exact h, by rw [b64_m] at h2; exact h2⟩
      · exact Or.inl ⟨_, rfl⟩
    · unfold FP.Core.bound
      split
      · rename_i h2
        exact Or.inr ⟨_, _, _, rfl, by rw [b64_t]; omega, by rw [b64_m] at h2; exact h2⟩
      · exact Or.inl ⟨_, rfl⟩
def okN (N : Nat) : Prop := ∃ S E T : Nat, N = (S * 2048 + E) * 4503599627370496 + T ∧ S ≤ 1 ∧ (E = 2047 ∧ T = 0 ∨ E ≤ 2046 ∧ T < 4503599627370496)
theorem okN_lt {N : Nat} (h : okN N) : N < 18446744073709551616 := by
  obtain ⟨S, E, T, rfl, hS, h⟩ := h
  rcases h with ⟨rfl, rfl⟩ | ⟨h1, h2⟩ <;> omega
theorem okD_enc {d : FP.Core.Datum} (h : okD d) : okN (FP.Core.encode FP.Core.b64 d) := by
  rcases h with ⟨s, rfl⟩ | ⟨s, c, q, rfl, h1, h2⟩
  · refine ⟨s.toNat, 2047, 0, ?_, by cases s <;> decide, Or.inl ⟨rfl, rfl⟩⟩
    have e : FP.Core.encode FP.Core.b64 (.inf s) = (s.toNat * FP.Core.b64.exps + (FP.Core.b64.exps - 1)) * FP.Core.b64.tails + 0 := rfl
    rw [e, b64_t, b64_e]
  · have e : FP.Core.encode FP.Core.b64 (.fin s c q) = if c < FP.Core.b64.tails then (s.toNat * FP.Core.b64.exps + 0) * FP.Core.b64.tails + c else (s.toNat * FP.Core.b64.exps + ((q - FP.Core.b64.qmin).toNat + 1)) * FP.Core.b64.tails + (c - FP.Core.b64.tails) := rfl
    have hs : s.toNat ≤ 1 := by cases s <;> decide
    rw [e, b64_t, b64_e, b64_n]
    by_cases hc : c < 4503599627370496
    · rw [if_pos hc]
      exact ⟨s.toNat, 0, c, rfl, hs, Or.inr ⟨by omega, hc⟩⟩
    · rw [if_neg hc]
      exact ⟨s.toNat, (q - -1074).toNat + 1, c - 4503599627370496, rfl, hs, Or.inr ⟨by omega, by omega⟩⟩
theorem okN_dec {N : Nat} (h : okN N) : ¬ FP.Core.decode FP.Core.b64 N = .nan := by
  obtain ⟨S, E, T, e, hS, h⟩ := h
  unfold FP.Core.decode FP.Core.fieldE FP.Core.fieldT
  rw [b64_t, b64_e]
  by_cases h1 : N / 4503599627370496 % 2048 = 2048 - 1
  · rw [if_pos h1]
    by_cases h2 : N % 4503599627370496 = 0
    · rw [if_pos h2]
      intro h3
      cases h3
    · exfalso
      rcases h with ⟨h3, h4⟩ | ⟨h3, h4⟩
      · subst h4
        omega
      · omega
  · rw [if_neg h1]
    by_cases h2 : N / 4503599627370496 % 2048 = 0
    · rw [if_pos h2]
      intro h3
      cases h3
    · rw [if_neg h2]
      intro h3
      cases h3
theorem okN_vf {r : UInt64} (h : okN r.toNat) : vf_n64 r := by
  unfold vf_n64
  rw [UInt64.le_iff_toNat_le, UInt64.toNat_and, show (0x7fffffffffffffff : UInt64).toNat = 2 ^ 63 - 1 from rfl, Nat.and_two_pow_sub_one_eq_mod, show (0x7ff0000000000000 : UInt64).toNat = 9218868437227405312 from rfl, show (2 : Nat) ^ 63 = 9223372036854775808 from rfl]
  obtain ⟨S, E, T, e, hS, h⟩ := h
  rw [e]
  rcases h with ⟨rfl, rfl⟩ | ⟨h1, h2⟩ <;> omega
theorem okD_q {d : FP.Core.Datum} (h : ¬ d = .nan) : okD (FP.Core.quotient FP.Core.b64 d (.fin false 8796093022208000 (-43))) := by
  cases d with
  | nan => exact absurd rfl h
  | inf s => exact Or.inl ⟨_, rfl⟩
  | fin s c q =>
    show okD (if (8796093022208000 : Nat) = 0 then (if c = 0 then FP.Core.Datum.nan else .inf (s != false)) else FP.Core.roundRatio FP.Core.b64 (s != false) c 8796093022208000 (q - -43))
    rw [if_neg (by decide)]
    exact okD_rr _ _ _ _
theorem u64_n {N : Nat} (h : N < 18446744073709551616) : (UInt64.ofNat N).toNat = N := by
  first | exact Nat.mod_eq_of_lt h | (simp; omega)
theorem mean_K : FP.Core.decode FP.Core.b64 (4652007308841189376 : UInt64).toNat = .fin false 8796093022208000 (-43) := by decide +kernel
theorem mean_ok (x : Int64) : okN (FP.ddiv (FP.l2d x) 4652007308841189376).toNat := by
  have h1 : okN (FP.Core.fromInt FP.Core.b64 x.toInt) := okD_enc (okD_rr (decide (x.toInt < 0)) x.toInt.natAbs 1 0)
  have e1 : (FP.l2d x).toNat = FP.Core.fromInt FP.Core.b64 x.toInt := u64_n (okN_lt h1)
  have hq : okN (FP.Core.encode FP.Core.b64 (FP.Core.quotient FP.Core.b64 (FP.Core.decode FP.Core.b64 (FP.l2d x).toNat) (FP.Core.decode FP.Core.b64 (4652007308841189376 : UInt64).toNat))) := by
    rw [mean_K, e1]
    exact okD_enc (okD_q (okN_dec h1))
  have e2 : (FP.ddiv (FP.l2d x) 4652007308841189376).toNat = FP.Core.encode FP.Core.b64 (FP.Core.quotient FP.Core.b64 (FP.Core.decode FP.Core.b64 (FP.l2d x).toNat) (FP.Core.decode FP.Core.b64 (4652007308841189376 : UInt64).toNat)) := u64_n (okN_lt hq)
  rw [e2]
  exact hq
theorem mean_nn (x : Int64) : vf_n64 (FP.ddiv (FP.l2d x) 4652007308841189376) := okN_vf (mean_ok x)
theorem cmp_zz (z : Int) : compare z z = Ordering.eq := by
  show compareOfLessAndEq z z = _
  unfold compareOfLessAndEq
  rw [if_neg (Int.lt_irrefl z), if_pos rfl]
theorem dcmp_ok {r : UInt64} (h : okN r.toNat) : FP.dcmp r r = some .eq := by
  have hn := okN_dec h
  show FP.Core.order (FP.Core.decode FP.Core.b64 r.toNat) (FP.Core.decode FP.Core.b64 r.toNat) = some .eq
  generalize FP.Core.decode FP.Core.b64 r.toNat = d at hn ⊢
  cases d with
  | nan => exact absurd rfl hn
  | inf s => cases s <;> decide
  | fin s c q =>
    unfold FP.Core.order
    exact congrArg some (cmp_zz _)
section MyRows5
variable {p : Program} {l : Launch} {e : Env} {R : Room} {s : State} {m : MethodId} {args : Array Value} {below : List Frame} {meth : Method} {c : Code} {H H0 : Heap} {locs : List Loc} {pc : Nat} {ls : Array Slot}
variable {G : va_G} {A : Nat → Prop} {cc : ByteArray}
theorem ro_dret {v : UInt64} (hx : p.tables.exec = Jvm.exec) (hb : c.code = cc) (hr : meth.sig.returnType = some .double) (hk : meth.locks = false) (hdg : decode cc pc = .ok (.dreturn, 1)) : W p l e R s m args below meth c s.heap [] 0 0 (roM below (some (.double v)) args s) (F0 m pc ls [.double v]) :=
  W.dret hx hb hr (fun t ht _ => ⟨rfl, ht⟩) (fun q hq => absurd hq List.not_mem_nil) hdg hk
theorem rw_dret {v : UInt64} {w1 : va_W} (hx : p.tables.exec = Jvm.exec) (hb : c.code = cc) (hr : meth.sig.returnType = some .double) (hk : meth.locks = false) (hP : va_P G vwCl w1 H) (hD : va_D A w1) (hS : va_S A s.heap H locs) (hdg : decode cc pc = .ok (.dreturn, 1)) : W p l e R s m args below meth c H locs 0 0 (rwM G A below (some (.double v)) w1 args s) (F0 m pc ls [.double v]) :=
  W.dret hx hb hr (fun t ht _ => ⟨⟨rfl, by rw [ht]; exact hP, hD⟩, hS.F ht⟩) hS.2.2 hdg hk
end MyRows5
def F_X3_mean (cn : Nat → Int32) (cf : Nat → Nat → Int32) (vv : Nat → Int32) (p1 : Int32) : Option (Sum Nat (UInt64 × (Nat → Int32))) := thr (F_X3_curveNumbered p1) fun r1 => (F_X3_sumOver vv (cn r1) (cf r1) 0 999).bind fun o6 => some (.inr (FP.ddiv (FP.l2d o6.1) 4652007308841189376, o6.2))
set_option maxHeartbeats 4000000 in
set_option maxRecDepth 100000 in
theorem k_X3_mean (l : Launch) (G : va_G) (g : Nat → ClassId) (ad : Nat → Nat) (bd : Nat → Nat → Nat) (sc : Int32) (tl : Int32) (tat : Int32) (tb : Nat → Int32) (cn : Nat → Int32) (cf : Nat → Nat → Int32) (sn : Nat → Nat → Int32) (sf : Nat → Nat → Nat → Int32) (tn : Int32) (tf : Nat → Int32) (vv : Nat → Int32) (ov : Nat → Int32) (p1 : Int32) (res : UInt64 × (Nat → Int32)) (hq : F_X3_mean cn cf vv p1 = some (.inr res)) : rwC l yX3_mean wsX3_mean (rmF 5 131) G g [.ref (ad 0), .int p1] (wX g ad bd sc tl tat tb cn cf sn sf tn tf vv ov) (some (.double res.1)) (wX g ad bd sc tl tat tb cn cf sn sf tn tf res.2 ov) := by
  refine rwC.of (cc := cX3_mean) (maxL := 3) (ret := (some .double)) (by decide) rfl (Nat.le_of_ble_eq_true rfl) ?_
  intro p e s m below meth c ls A X K hA hP hD hS hl
  obtain ⟨hx, hb, hml, hr, hown, hts, hk⟩ := id X
  have hl : lv_has ls 3 [(0, .ref (ad 0)), (1, .int p1)] := hl
  unfold F_X3_mean at hq
  refine lv_aload_n hx hb dX3_mean_0 rfl (lv_at hl 0 rfl) ?_
  refine lv_iload_n hx hb dX3_mean_1 rfl (lv_at hl 1 rfl) ?_
  obtain ⟨r1, hh2, hq⟩ := q_th hq
  refine roV (ci := 3) (As := [.int p1]) (rest := []) X K (k_X3_curveNumbered l G g ad bd sc tl tat tb cn cf sn sf tn tf vv ov p1 _ hh2) hd_X3_curveNumbered gX3_mean_X3_curveNumbered hP hl.1 dX3_mean_2 rfl rfl ⟨Nat.le_of_ble_eq_true rfl, Nat.le_of_ble_eq_true rfl⟩ rfl rfl rfl (Nat.le_of_ble_eq_true rfl) ⟨Nat.zero_le _, Nat.zero_le _⟩ ?_
  have lr1 := F_X3_curveNumbered_lt hh2
  refine lv_astore_n (lv' := [(2, .ref (cad ad r1)), (0, .ref (ad 0)), (1, .int p1)]) hx hb dX3_mean_5 rfl hl (by decide) rfl (fun ls hl => ?_)
  refine lv_aload_n hx hb dX3_mean_6 rfl (lv_at hl 1 rfl) ?_
  refine lv_aload_n hx hb dX3_mean_7 rfl (lv_at hl 0 rfl) ?_
  refine lv_iconst (v := 0) hx hb dX3_mean_8 (by decide) ?_
  refine lv_sipush (v := 999) hx hb dX3_mean_9 (by decide) ?_
  obtain ⟨⟨r3, y4⟩, hh5, hq⟩ := q_bd hq
  refine rwVf (ci := 3) (As := [.ref (cad ad r1), .int 0, .int 999]) (rest := []) X K (k_X3_sumOver l G g (ad 0) (ad 8) (cad ad r1) (aad ad r1) (ad 1) (ad 3) (ad 4) (ad 6) (ad 9) sc vv (cn r1) (cf r1) 0 999 _ hh5) hd_X3_sumOver gX3_mean_X3_sumOver hP hD hS hA (foc_xv_X3_sumOver lr1) hl.1 dX3_mean_12 rfl rfl ⟨Nat.le_of_ble_eq_true rfl, Nat.le_of_ble_eq_true rfl⟩ rfl rfl rfl (Nat.le_of_ble_eq_true rfl) ⟨Nat.zero_le _, Nat.zero_le _⟩ (fun H locs hP hD hS => ?_)
  have hP : va_P G vwCl (wX g ad bd sc tl tat tb cn cf sn sf tn tf y4 ov) H := hP
  have hD : va_D A (wX g ad bd sc tl tat tb cn cf sn sf tn tf y4 ov) := hD
  refine lv_l2d hx hb dX3_mean_15 ?_
  refine lv_ldc2d (v := 4652007308841189376) hx hb hown (hts _ (List.mem_of_getElem? (i := 1) rfl)) dX3_mean_16 ?_
  refine lv_ddiv hx hb dX3_mean_19 (mean_nn _) ?_
  obtain rfl := q_ri hq
  exact rw_dret hx hb hr hk hP hD hS dX3_mean_20
set_option maxHeartbeats 4000000 in
set_option maxRecDepth 100000 in
theorem kx_X3_mean (l : Launch) (hf0 : l.stackTraces = false) (G : va_G) (g : Nat → ClassId) (ad : Nat → Nat) (bd : Nat → Nat → Nat) (sc : Int32) (tl : Int32) (tat : Int32) (tb : Nat → Int32) (cn : Nat → Int32) (cf : Nat → Nat → Int32) (sn : Nat → Nat → Int32) (sf : Nat → Nat → Nat → Int32) (tn : Int32) (tf : Nat → Int32) (vv : Nat → Int32) (ov : Nat → Int32) (p1 : Int32) (nn : Nat) (hq : F_X3_mean cn cf vv p1 = some (.inl nn)) : exC l yX3_mean wsX3_mean (rmX 7 131) G g [.ref (ad 0), .int p1] (wX g ad bd sc tl tat tb cn cf sn sf tn tf vv ov) (exN nn) (fun w : va_W => w = (wX g ad bd sc tl tat tb cn cf sn sf tn tf vv ov)) := by
  refine exC.of (cc := cX3_mean) (maxL := 3) (ret := (some .double)) (by decide) rfl (Nat.le_of_ble_eq_true rfl) ?_
  intro p e s m below meth c ls A X K hA hP hD hS hs hne hl
  obtain ⟨hx, hb, hml, hr, hown, hts, hk⟩ := id X
  have hl : lv_has ls 3 [(0, .ref (ad 0)), (1, .int p1)] := hl
  have hP1 : (fun w : va_W => w = (wX g ad bd sc tl tat tb cn cf sn sf tn tf vv ov)) (wX g ad bd sc tl tat tb cn cf sn sf tn tf vv ov) := rfl
  unfold F_X3_mean at hq
  refine lv_aload_n hx hb dX3_mean_0 rfl (lv_at hl 0 rfl) ?_
  refine lv_iload_n hx hb dX3_mean_1 rfl (lv_at hl 1 rfl) ?_
  rcases q_thx hq with hh2 | ⟨r1, hh2, hq⟩
  · exact exV_call (ci := 3) (As := [.int p1]) (rest := []) X K (kx_X3_curveNumbered l hf0 G g ad bd sc tl tat tb cn cf sn sf tn tf vv ov p1 _ hh2) hd_X3_curveNumbered gX3_mean_X3_curveNumbered hP hD hS hA hs foc_id (fun w h => by subst h; exact hP1) hne hl.1 dX3_mean_2 rfl rfl ⟨Nat.le_of_ble_eq_true rfl, Nat.le_of_ble_eq_true rfl⟩ rfl rfl rfl (Nat.le_of_ble_eq_true rfl) ⟨Nat.le_of_ble_eq_true rfl, Nat.le_of_ble_eq_true rfl⟩ hk
  refine roV (ci := 3) (As := [.int p1]) (rest := []) X K (k_X3_curveNumbered l G g ad bd sc tl tat tb cn cf sn sf tn tf vv ov p1 _ hh2) hd_X3_curveNumbered gX3_mean_X3_curveNumbered hP hl.1 dX3_mean_2 rfl rfl ⟨Nat.le_of_ble_eq_true rfl, Nat.le_of_ble_eq_true rfl⟩ rfl rfl rfl (Nat.le_of_ble_eq_true rfl) ⟨Nat.zero_le _, Nat.zero_le _⟩ ?_
  have lr1 := F_X3_curveNumbered_lt hh2
  refine lv_astore_n (lv' := [(2, .ref (cad ad r1)), (0, .ref (ad 0)), (1, .int p1)]) hx hb dX3_mean_5 rfl hl (by decide) rfl (fun ls hl => ?_)
  refine lv_aload_n hx hb dX3_mean_6 rfl (lv_at hl 1 rfl) ?_
  refine lv_aload_n hx hb dX3_mean_7 rfl (lv_at hl 0 rfl) ?_
  refine lv_iconst (v := 0) hx hb dX3_mean_8 (by decide) ?_
  refine lv_sipush (v := 999) hx hb dX3_mean_9 (by decide) ?_
  obtain ⟨⟨r3, y4⟩, hh5, hq⟩ := q_bd hq
  refine rwVf (ci := 3) (As := [.ref (cad ad r1), .int 0, .int 999]) (rest := []) X K (k_X3_sumOver l G g (ad 0) (ad 8) (cad ad r1) (aad ad r1) (ad 1) (ad 3) (ad 4) (ad 6) (ad 9) sc vv (cn r1) (cf r1) 0 999 _ hh5) hd_X3_sumOver gX3_mean_X3_sumOver hP hD hS hA (foc_xv_X3_sumOver lr1) hl.1 dX3_mean_12 rfl rfl ⟨Nat.le_of_ble_eq_true rfl, Nat.le_of_ble_eq_true rfl⟩ rfl rfl rfl (Nat.le_of_ble_eq_true rfl) ⟨Nat.zero_le _, Nat.zero_le _⟩ (fun H locs hP hD hS => ?_)
  have hP : va_P G vwCl (wX g ad bd sc tl tat tb cn cf sn sf tn tf y4 ov) H := hP
  have hD : va_D A (wX g ad bd sc tl tat tb cn cf sn sf tn tf y4 ov) := hD
  refine lv_l2d hx hb dX3_mean_15 ?_
  refine lv_ldc2d (v := 4652007308841189376) hx hb hown (hts _ (List.mem_of_getElem? (i := 1) rfl)) dX3_mean_16 ?_
  refine lv_ddiv hx hb dX3_mean_19 (mean_nn _) ?_
  exact q_rl hq
theorem in_X4_mean_X4 : ∀ w ∈ wsX40, w ∈ wsX4_mean := fun _ h => List.mem_cons_of_mem _ (List.mem_append_right _ h)
def F_X4_mean (uw : Int32) (us : Nat → Int32) (p1 : Int32) : Option (UInt64 × Int32) := (F_X4_isCurve p1).bind fun r1 => if r1 = 0 then ((F_X4_fails uw 1).bind fun o9 => some (FP.i2d o9.1, o9.2)) else ((F_X4_sumOf us p1 0 999).bind fun r4 => some (FP.ddiv (FP.l2d r4) 4652007308841189376, 0))
set_option maxHeartbeats 4000000 in
set_option maxRecDepth 100000 in
theorem k_X4_mean (l : Launch) (G : va_G) (g : Nat → ClassId) (jo js jp ja jk jt jb : Nat) (un : Int32) (uy : Int32) (uw : Int32) (uq : Int32) (uz : Int32) (us : Nat → Int32) (up : Nat → Int32) (ua : Nat → Int32) (uk : Nat → Int32) (ut : Nat → Int32) (ub : Nat → Int32) (p1 : Int32) (res : UInt64 × Int32) (hq : F_X4_mean uw us p1 = some res) : rwC l yX4_mean wsX4_mean (rmF 5 136) G g [.ref jo, .int p1] [(jo, .inr (4, [.ref js, .ref jp, .ref ja, .ref jk, .int un, .ref jt, .int uy, .int uw, .ref jb, .int uq, .int uz])), (js, .inl (g 0, 388, .inl us)), (jp, .inl (g 0, 1552, .inl up)), (ja, .inl (g 0, 388, .inl ua)), (jk, .inl (g 0, 97, .inl uk)), (jt, .inl (g 0, 150, .inl ut)), (jb, .inl (g 0, 1000, .inl ub))] (some (.double res.1)) [(jo, .inr (4, [.ref js, .ref jp, .ref ja, .ref jk, .int un, .ref jt, .int uy, .int res.2, .ref jb, .int uq, .int uz])), (js, .inl (g 0, 388, .inl us)), (jp, .inl (g 0, 1552, .inl up)), (ja, .inl (g 0, 388, .inl ua)), (jk, .inl (g 0, 97, .inl uk)), (jt, .inl (g 0, 150, .inl ut)), (jb, .inl (g 0, 1000, .inl ub))] := by
  refine rwC.of (cc := cX4_mean) (maxL := 2) (ret := (some .double)) (by decide) rfl (Nat.le_of_ble_eq_true rfl) ?_
  intro p e s m below meth c ls A X K hA hP hD hS hl
  obtain ⟨hx, hb, hml, hr, hown, hts, hk⟩ := id X
  have hl : lv_has ls 2 [(0, .ref jo), (1, .int p1)] := hl
  unfold F_X4_mean at hq
  refine lv_iload_n hx hb dX4_mean_0 rfl (lv_at hl 1 rfl) ?_
  obtain ⟨r1, hh2, hq⟩ := q_bd hq
  refine roS (As := [.int p1]) (rest := []) X K (k_X4_isCurve l G g p1 _ hh2) hd_X4_isCurve gX4_mean_X4_isCurve (hP.sub [] rfl) hl.1 dX4_mean_1 rfl rfl ⟨Nat.le_of_ble_eq_true rfl, Nat.le_of_ble_eq_true rfl⟩ rfl (Nat.le_of_ble_eq_true rfl) ⟨Nat.zero_le _, Nat.zero_le _⟩ ?_
  refine lv_if_ne (tgt := 14) hx hb dX4_mean_4 (by decide) (fun c3 => ?_) (fun c3 => ?_)
  · have hq := q_if_f hq c3
    refine lv_aload_n hx hb dX4_mean_14 rfl (lv_at hl 0 rfl) ?_
    refine lv_iconst (v := 0) hx hb dX4_mean_15 (by decide) ?_
    refine va_put (D := G) (ci := 4) (v := .int 0) (ty := .int) (C := RX4) (T := TX4) (N := 11) hx hb hts in_X4_mean_X4 tyX4 tyX4_ok nmX4 hown K.1 hP hD hS 0 rfl rfl 7 (by decide) (hts _ (List.mem_of_getElem? (i := 1) rfl)) (fun _ h9 => h9) rfl (by decide +kernel) rfl rfl (Nat.le_of_ble_eq_true rfl) dX4_mean_16 (fun H locs hP hD hS => ?_)
    have hP : va_P G vwCl [(jo, .inr (4, [.ref js, .ref jp, .ref ja, .ref jk, .int un, .ref jt, .int uy, .int 0, .ref jb, .int uq, .int uz])), (js, .inl (g 0, 388, .inl us)), (jp, .inl (g 0, 1552, .inl up)), (ja, .inl (g 0, 388, .inl ua)), (jk, .inl (g 0, 97, .inl uk)), (jt, .inl (g 0, 150, .inl ut)), (jb, .inl (g 0, 1000, .inl ub))] H := hP
    have hD : va_D A [(jo, .inr (4, [.ref js, .ref jp, .ref ja, .ref jk, .int un, .ref jt, .int uy, .int 0, .ref jb, .int uq, .int uz])), (js, .inl (g 0, 388, .inl us)), (jp, .inl (g 0, 1552, .inl up)), (ja, .inl (g 0, 388, .inl ua)), (jk, .inl (g 0, 97, .inl uk)), (jt, .inl (g 0, 150, .inl ut)), (jb, .inl (g 0, 1000, .inl ub))] := hD
    refine lv_aload_n hx hb dX4_mean_19 rfl (lv_at hl 0 rfl) ?_
    refine lv_iload_n hx hb dX4_mean_20 rfl (lv_at hl 1 rfl) ?_
    refine lv_iconst (v := 0) hx hb dX4_mean_21 (by decide) ?_
    refine lv_sipush (v := 999) hx hb dX4_mean_22 (by decide) ?_
    obtain ⟨r4, hh5, hq⟩ := q_bd hq
    refine roV (ci := 4) (As := [.int p1, .int 0, .int 999]) (rest := []) X K (k_X4_sumOf l G g jo js jp ja jk jt jb un uy 0 uq uz us up ua uk ut ub p1 0 999 _ hh5) hd_X4_sumOf gX4_mean_X4_sumOf hP hl.1 dX4_mean_25 rfl rfl ⟨Nat.le_of_ble_eq_true rfl, Nat.le_of_ble_eq_true rfl⟩ rfl rfl rfl (Nat.le_of_ble_eq_true rfl) ⟨Nat.zero_le _, Nat.zero_le _⟩ ?_
    refine lv_l2d hx hb dX4_mean_28 ?_
    refine lv_ldc2d (v := 4652007308841189376) hx hb hown (hts _ (List.mem_of_getElem? (i := 2) rfl)) dX4_mean_29 ?_
    refine lv_ddiv hx hb dX4_mean_32 (mean_nn _) ?_
    obtain rfl := q_rt hq
    exact rw_dret hx hb hr hk hP hD hS dX4_mean_33
  · have hq := q_if_t hq c3
    refine lv_aload_n hx hb dX4_mean_7 rfl (lv_at hl 0 rfl) ?_
    refine lv_iconst (v := 1) hx hb dX4_mean_8 (by decide) ?_
    obtain ⟨⟨r6, y7⟩, hh8, hq⟩ := q_bd hq
    refine rwV (ci := 4) (wr := []) (As := [.int 1]) (rest := []) X K (k_X4_fails l G g jo js jp ja jk jt jb un uy uw uq uz us up ua uk ut ub 1 _ hh8) hd_X4_fails gX4_mean_X4_fails hP hD hS hA [0, 1, 2, 3, 4, 5, 6] [] rfl rfl ⟨by decide, by decide, by decide⟩ hl.1 dX4_mean_9 rfl rfl ⟨Nat.le_of_ble_eq_true rfl, Nat.le_of_ble_eq_true rfl⟩ rfl rfl rfl (Nat.le_of_ble_eq_true rfl) ⟨Nat.zero_le _, Nat.zero_le _⟩ (fun H locs hP hD hS => ?_)
    have hP : va_P G vwCl [(jo, .inr (4, [.ref js, .ref jp, .ref ja, .ref jk, .int un, .ref jt, .int uy, .int y7, .ref jb, .int uq, .int uz])), (js, .inl (g 0, 388, .inl us)), (jp, .inl (g 0, 1552, .inl up)), (ja, .inl (g 0, 388, .inl ua)), (jk, .inl (g 0, 97, .inl uk)), (jt, .inl (g 0, 150, .inl ut)), (jb, .inl (g 0, 1000, .inl ub))] H := hP
    have hD : va_D A [(jo, .inr (4, [.ref js, .ref jp, .ref ja, .ref jk, .int un, .ref jt, .int uy, .int y7, .ref jb, .int uq, .int uz])), (js, .inl (g 0, 388, .inl us)), (jp, .inl (g 0, 1552, .inl up)), (ja, .inl (g 0, 388, .inl ua)), (jk, .inl (g 0, 97, .inl uk)), (jt, .inl (g 0, 150, .inl ut)), (jb, .inl (g 0, 1000, .inl ub))] := hD
    refine lv_i2d hx hb dX4_mean_12 ?_
    obtain rfl := q_rt hq
    exact rw_dret hx hb hr hk hP hD hS dX4_mean_13

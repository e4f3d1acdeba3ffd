/-! THE CLAIM OUT OF ONE WALK OF THE LAW'S BODY. Your part is whole_start (and what it stands on); all else here is the same for every law, but numbers. -/
def R_law : String := "EaseCurvesLaw"
def lw_P (b : Addr) (xs : List Int32) (args : Array Value) (s : State) : Prop := args = #[.ref b] ∧ s.IntsAt b xs ∧ xs.length ≤ 260 ∧ (Jvm.Cond.and given_1 narrow_1).before args s = true
def lw_Q (_ : Array Value) (s : State) (o : Outcome) (t : State) : Prop := o = .returned (some (.int 1)) ∧ Framed s o t [] 600104 7301313
def lw_Z (below : List Frame) (a : Array Value) (s : State) : State → Prop := fun t => ∃ o, t.status = .running ∧ Ended t below o ∧ lw_Q a s o t
/-- the law's own end, with 1 on the stack, nothing written that was there before, its room as the claim has it -/
theorem lw_ret {p : Program} {l : Launch} {e : Env} {s : State} {m : MethodId} {below : List Frame} {meth : Method} {c : Code} {b : Nat} (hx : p.tables.exec = Jvm.exec) (hb : c.code = code) (hr : meth.sig.returnType = ret) (hlocks : meth.locks = false) {pc : Nat} {H : Heap} {ls : Array Slot} (hdg : decode code pc = .ok (.ireturn, 1)) : W p l e room_1 s m #[Value.ref b] below meth c H [] 600104 7301313 (lw_Z below #[Value.ref b] s) (F0 m pc ls [.int 1]) := by
  intro T hT X
  obtain ⟨fs, hret, hrun, hended, hW, hframe⟩ := X.leave (v := some (.int 1)) (hlocks := hlocks) (fun h => by rw [hr] at h; cases h)
  have hmeth' : T.vm.method? m = some meth := X.method'
  refine ⟨T.setFrames fs, ?_, .returned (some (.int 1)), hrun, hended, rfl, ⟨_, rfl⟩, hW, hframe⟩
  jvm_step X.here [X.here.top, hx, hb, hdg, hmeth', hr, ret, narrow_b1]
  (try refine ⟨rfl, ?_⟩); (try refine ⟨rfl, ?_⟩)
  first | (intro acts; rw [hret _ acts rfl rfl rfl]) | rw [hret _ _ rfl rfl rfl]
  exact Steps.refl _
/-- what holds at the law's entry: the machine, the code, the tables' words (any of lw_tbl by 'hts w (by decide +kernel)'), the script of L ints xs at the cell b, what the Statement gives of the start (any of its parts by flat_of_before) -/
def lw_At (p : Program) (s : State) (m : MethodId) (meth : Method) (c : Code) (b L : Nat) (xs : Nat → Int32) : Prop :=
  p.tables.exec = Jvm.exec ∧ c.code = code ∧ meth.sig.returnType = ret ∧ c.maxLocals = 11 ∧ s.vm.findClass R_law = some m.cls ∧ (∀ w ∈ lw_tbl, w.before #[Value.ref b] s = true) ∧ va_X b L xs s s.heap ∧ b < s.heap.size ∧ meth.locks = false ∧ (Jvm.Cond.and given_1 narrow_1).before #[Value.ref b] s = true
theorem pm5 {a b c d f : Nat × va_E} {X : va_W} : (((((X ++ [a]) ++ [b]) ++ [c]) ++ [d]) ++ [f]).Perm (a :: b :: c :: d :: f :: X) := by
  rw [List.append_assoc, List.append_assoc, List.append_assoc, List.append_assoc]
  exact List.perm_append_comm (l₁ := X) (l₂ := [a, b, c, d, f])
theorem law_ini : Ls zI zI zI zI zI 0 zI (fun _ => zI) :=
  ⟨fun c _ => ⟨0, by omega, rfl, rfl, Cv_0 _, fun k hk => absurd hk (by omega), fun k hk => absurd hk (by omega), fun k hk => absurd hk (by omega), fun k hk => absurd hk (by omega)⟩, rfl, rfl, 0, by omega, rfl⟩
set_option maxHeartbeats 4000000 in
set_option maxRecDepth 100000 in
/-- YOUR PART: from the entry, for every script of at most 260 ints, the law comes to its end with true ('hflags': the launch's flags, for a law that throws: no stack traces) -/
theorem whole_start {p : Program} {e : Env} {s : State} {m : MethodId} {below : List Frame} {meth : Method} {c : Code} (l : Launch) (hflags : l.flags = flags0) {b L : Nat} {xs : Nat → Int32} (hL : L ≤ 260) (C0 : lw_At p s m meth c b L xs) : W p l e room_1 s m #[Value.ref b] below meth c s.heap [] 0 0 (lw_Z below #[Value.ref b] s) (entryFrame m ([Value.ref b] : List Value).toArray 11) := by
  obtain ⟨hx, hb, hr, hml, hown, hts, hX, hbl, hk, hgv⟩ := C0
  obtain ⟨G, g, K, ha, hs, hnc⟩ := law_env hts hgv
  have hsl : ∀ w ∈ wsL_law, w.before #[Value.ref b] s = true := fun w h => hts w (wsL_law_in w h)
  have hf0 : l.stackTraces = false := by
    unfold Launch.stackTraces
    rw [hflags]
    decide +kernel
  have X : cx p s m #[Value.ref b] meth c cL_law 11 ret RL wsL_law := ⟨hx, hb, hml, hr, hown, hsl, hk⟩
  have hA : ∀ q : Nat, s.heap.size ≤ q → (fun q => s.heap.size ≤ q) q := fun _ h => h
  have hl := lv_entry [Value.ref b] (n := 11) (Nat.le_of_ble_eq_true rfl)
  rw [lg_entry_eq]
  generalize ((lg_sl [Value.ref b] ++ List.replicate (11 - (lg_sl [Value.ref b]).length) Slot.unset).toArray) = ls at hl ⊢
  have hl : lv_has ls 11 [(0, .ref b)] := hl
  have hP : va_P G vwCl [] s.heap := va_P.mem.mpr (fun q hq => absurd hq List.not_mem_nil)
  have hD : va_D (fun q => s.heap.size ≤ q) [] := va_D.of List.nodup_nil (fun q hq => absurd hq List.not_mem_nil)
  have hS : va_S (fun q => s.heap.size ≤ q) s.heap s.heap [] := va_S.rf
  refine va_new (ci := 3) (fs := [.null, .null, .int 0, .null, .null, .null, .null]) (C := RX3) (T := TX3) (N := 7) hx hb hsl inlX3 tyX3 tyX3_ok hown (hts _ (by decide +kernel)) (hts _ (by decide +kernel)) (hts _ (by decide +kernel)) K.1 hP hD hS hA rfl (fun j hj => by rcases (show j = 0 ∨ j = 1 ∨ j = 2 ∨ j = 3 ∨ j = 4 ∨ j = 5 ∨ j = 6 by omega) with rfl | rfl | rfl | rfl | rfl | rfl | rfl <;> rfl) (Nat.le_of_ble_eq_true rfl) (Nat.le_of_ble_eq_true rfl) dL_law_0 (fun h0 H hP hD hS => ?_)
  have hP : va_P G vwCl ([(h0, .inr (3, [.null, .null, .int 0, .null, .null, .null, .null]))]) H := hP
  have hD : va_D (fun q => s.heap.size ≤ q) ([(h0, .inr (3, [.null, .null, .int 0, .null, .null, .null, .null]))]) := hD
  refine W.widen (k := 1) (n := 7) (Nat.le_of_ble_eq_true rfl) (Nat.le_of_ble_eq_true rfl) ?_
  refine lv_dup hx hb dL_law_3 rfl ?_
  refine inI (b := h0) (rest := [.ref h0]) (wr := []) X K ha (k_X3_init l G g h0) rfl hd_X3_init gL_law_X3_init (hts _ (by decide +kernel)) (hts _ (by decide +kernel)) (hts _ (by decide +kernel)) hP hD hS hA [0] [] rfl rfl ⟨by decide, by decide, by decide⟩ hl.1 dL_law_4 rfl ⟨(Nat.le_of_ble_eq_true rfl), (Nat.le_of_ble_eq_true rfl)⟩ rfl (Nat.le_of_ble_eq_true rfl) ⟨(Nat.le_of_ble_eq_true rfl), (Nat.le_of_ble_eq_true rfl)⟩ (fun u H locs hu hP hD hS => ?_)
  obtain ⟨ad, bd⟩ := u
  have hu : ad 0 = h0 := hu
  rw [← hu]
  have hP : va_P G vwCl (wX g ad bd 0 0 0 zI zI (fun _ => zI) (fun _ => zI) (fun _ _ => zI) 0 zI zI zI) H := hP
  have hD : va_D (fun q => s.heap.size ≤ q) (wX g ad bd 0 0 0 zI zI (fun _ => zI) (fun _ => zI) (fun _ _ => zI) 0 zI zI zI) := hD
  refine W.widen (k := 58) (n := 4247) (Nat.le_of_ble_eq_true rfl) (Nat.le_of_ble_eq_true rfl) ?_
  refine lv_astore_n (lv' := [(1, .ref (ad 0)), (0, .ref b)]) hx hb dL_law_7 rfl hl (by decide) rfl (fun ls hl => ?_)
  refine lv_iconst (v := 2) hx hb dL_law_8 (by decide) ?_
  refine va_newa (atype := .int) (ty := .int) (N' := 2) (a0 := (2, .inl (fun _ => 0))) hx hb (hts _ (by decide +kernel)) rfl K.1 hP hD hS hA (fun _ => rfl) (by decide) rfl (Nat.le_of_ble_eq_true rfl) (Nat.le_of_ble_eq_true rfl) (Nat.le_of_ble_eq_true rfl) dL_law_9 (fun qn cA H hK2 hP hD hS => ?_)
  obtain rfl := k_eq (i := 0) K.1 rfl hK2
  have hP : va_P G vwCl ((wX g ad bd 0 0 0 zI zI (fun _ => zI) (fun _ => zI) (fun _ _ => zI) 0 zI zI zI) ++ [(qn, .inl (g 0, 2, .inl zI))]) H := hP
  have hD : va_D (fun q => s.heap.size ≤ q) ((wX g ad bd 0 0 0 zI zI (fun _ => zI) (fun _ => zI) (fun _ _ => zI) 0 zI zI zI) ++ [(qn, .inl (g 0, 2, .inl zI))]) := hD
  refine W.widen (k := 59) (n := 4249) (Nat.le_of_ble_eq_true rfl) (Nat.le_of_ble_eq_true rfl) ?_
  refine lv_astore_n (lv' := [(2, .ref qn), (1, .ref (ad 0)), (0, .ref b)]) hx hb dL_law_11 rfl hl (by decide) rfl (fun ls hl => ?_)
  refine lv_bipush (v := 16) hx hb dL_law_12 (by decide) ?_
  refine va_newa (atype := .int) (ty := .int) (N' := 16) (a0 := (16, .inl (fun _ => 0))) hx hb (hts _ (by decide +kernel)) rfl K.1 hP hD hS hA (fun _ => rfl) (by decide) rfl (Nat.le_of_ble_eq_true rfl) (Nat.le_of_ble_eq_true rfl) (Nat.le_of_ble_eq_true rfl) dL_law_14 (fun qf cA H hK2 hP hD hS => ?_)
  obtain rfl := k_eq (i := 0) K.1 rfl hK2
  have hP : va_P G vwCl (((wX g ad bd 0 0 0 zI zI (fun _ => zI) (fun _ => zI) (fun _ _ => zI) 0 zI zI zI) ++ [(qn, .inl (g 0, 2, .inl zI))]) ++ [(qf, .inl (g 0, 16, .inl zI))]) H := hP
  have hD : va_D (fun q => s.heap.size ≤ q) (((wX g ad bd 0 0 0 zI zI (fun _ => zI) (fun _ => zI) (fun _ _ => zI) 0 zI zI zI) ++ [(qn, .inl (g 0, 2, .inl zI))]) ++ [(qf, .inl (g 0, 16, .inl zI))]) := hD
  refine W.widen (k := 60) (n := 4265) (Nat.le_of_ble_eq_true rfl) (Nat.le_of_ble_eq_true rfl) ?_
  refine lv_astore_n (lv' := [(3, .ref qf), (2, .ref qn), (1, .ref (ad 0)), (0, .ref b)]) hx hb dL_law_16 rfl hl (by decide) rfl (fun ls hl => ?_)
  refine lv_bipush (v := 16) hx hb dL_law_17 (by decide) ?_
  refine va_newa (atype := .int) (ty := .int) (N' := 16) (a0 := (16, .inl (fun _ => 0))) hx hb (hts _ (by decide +kernel)) rfl K.1 hP hD hS hA (fun _ => rfl) (by decide) rfl (Nat.le_of_ble_eq_true rfl) (Nat.le_of_ble_eq_true rfl) (Nat.le_of_ble_eq_true rfl) dL_law_19 (fun qv cA H hK2 hP hD hS => ?_)
  obtain rfl := k_eq (i := 0) K.1 rfl hK2
  have hP : va_P G vwCl ((((wX g ad bd 0 0 0 zI zI (fun _ => zI) (fun _ => zI) (fun _ _ => zI) 0 zI zI zI) ++ [(qn, .inl (g 0, 2, .inl zI))]) ++ [(qf, .inl (g 0, 16, .inl zI))]) ++ [(qv, .inl (g 0, 16, .inl zI))]) H := hP
  have hD : va_D (fun q => s.heap.size ≤ q) ((((wX g ad bd 0 0 0 zI zI (fun _ => zI) (fun _ => zI) (fun _ _ => zI) 0 zI zI zI) ++ [(qn, .inl (g 0, 2, .inl zI))]) ++ [(qf, .inl (g 0, 16, .inl zI))]) ++ [(qv, .inl (g 0, 16, .inl zI))]) := hD
  refine W.widen (k := 61) (n := 4281) (Nat.le_of_ble_eq_true rfl) (Nat.le_of_ble_eq_true rfl) ?_
  refine lv_astore (lv' := [(4, .ref qv), (3, .ref qf), (2, .ref qn), (1, .ref (ad 0)), (0, .ref b)]) hx hb dL_law_21 hl (by decide) rfl (fun ls hl => ?_)
  refine lv_bipush (v := 16) hx hb dL_law_23 (by decide) ?_
  refine va_newa (atype := .int) (ty := .int) (N' := 16) (a0 := (16, .inl (fun _ => 0))) hx hb (hts _ (by decide +kernel)) rfl K.1 hP hD hS hA (fun _ => rfl) (by decide) rfl (Nat.le_of_ble_eq_true rfl) (Nat.le_of_ble_eq_true rfl) (Nat.le_of_ble_eq_true rfl) dL_law_25 (fun qe cA H hK2 hP hD hS => ?_)
  obtain rfl := k_eq (i := 0) K.1 rfl hK2
  have hP : va_P G vwCl (((((wX g ad bd 0 0 0 zI zI (fun _ => zI) (fun _ => zI) (fun _ _ => zI) 0 zI zI zI) ++ [(qn, .inl (g 0, 2, .inl zI))]) ++ [(qf, .inl (g 0, 16, .inl zI))]) ++ [(qv, .inl (g 0, 16, .inl zI))]) ++ [(qe, .inl (g 0, 16, .inl zI))]) H := hP
  have hD : va_D (fun q => s.heap.size ≤ q) (((((wX g ad bd 0 0 0 zI zI (fun _ => zI) (fun _ => zI) (fun _ _ => zI) 0 zI zI zI) ++ [(qn, .inl (g 0, 2, .inl zI))]) ++ [(qf, .inl (g 0, 16, .inl zI))]) ++ [(qv, .inl (g 0, 16, .inl zI))]) ++ [(qe, .inl (g 0, 16, .inl zI))]) := hD
  refine W.widen (k := 62) (n := 4297) (Nat.le_of_ble_eq_true rfl) (Nat.le_of_ble_eq_true rfl) ?_
  refine lv_astore (lv' := [(5, .ref qe), (4, .ref qv), (3, .ref qf), (2, .ref qn), (1, .ref (ad 0)), (0, .ref b)]) hx hb dL_law_27 hl (by decide) rfl (fun ls hl => ?_)
  refine lv_bipush (v := 16) hx hb dL_law_29 (by decide) ?_
  refine va_newa (atype := .int) (ty := .int) (N' := 16) (a0 := (16, .inl (fun _ => 0))) hx hb (hts _ (by decide +kernel)) rfl K.1 hP hD hS hA (fun _ => rfl) (by decide) rfl (Nat.le_of_ble_eq_true rfl) (Nat.le_of_ble_eq_true rfl) (Nat.le_of_ble_eq_true rfl) dL_law_31 (fun qw cA H hK2 hP hD hS => ?_)
  obtain rfl := k_eq (i := 0) K.1 rfl hK2
  have hP : va_P G vwCl ((((((wX g ad bd 0 0 0 zI zI (fun _ => zI) (fun _ => zI) (fun _ _ => zI) 0 zI zI zI) ++ [(qn, .inl (g 0, 2, .inl zI))]) ++ [(qf, .inl (g 0, 16, .inl zI))]) ++ [(qv, .inl (g 0, 16, .inl zI))]) ++ [(qe, .inl (g 0, 16, .inl zI))]) ++ [(qw, .inl (g 0, 16, .inl zI))]) H := hP
  have hD : va_D (fun q => s.heap.size ≤ q) ((((((wX g ad bd 0 0 0 zI zI (fun _ => zI) (fun _ => zI) (fun _ _ => zI) 0 zI zI zI) ++ [(qn, .inl (g 0, 2, .inl zI))]) ++ [(qf, .inl (g 0, 16, .inl zI))]) ++ [(qv, .inl (g 0, 16, .inl zI))]) ++ [(qe, .inl (g 0, 16, .inl zI))]) ++ [(qw, .inl (g 0, 16, .inl zI))]) := hD
  refine W.widen (k := 63) (n := 4313) (Nat.le_of_ble_eq_true rfl) (Nat.le_of_ble_eq_true rfl) ?_
  refine lv_astore (lv' := [(6, .ref qw), (5, .ref qe), (4, .ref qv), (3, .ref qf), (2, .ref qn), (1, .ref (ad 0)), (0, .ref b)]) hx hb dL_law_33 hl (by decide) rfl (fun ls hl => ?_)
  have hP : va_P G vwCl (lmW g ad qn qf qv qe qw zI zI zI zI zI bd 0 0 0 zI zI (fun _ => zI) (fun _ => zI) (fun _ _ => zI) 0 zI zI zI) H := va_P.perm pm5 hP
  have hD : va_D (fun q => s.heap.size ≤ q) (lmW g ad qn qf qv qe qw zI zI zI zI zI bd 0 0 0 zI zI (fun _ => zI) (fun _ => zI) (fun _ _ => zI) 0 zI zI zI) := va_D.perm pm5 hD
  refine lv_aload_n hx hb dL_law_35 rfl (lv_at hl 5 rfl) ?_
  refine lv_aload_n hx hb dL_law_36 rfl (lv_at hl 4 rfl) ?_
  refine lv_aload_n hx hb dL_law_37 rfl (lv_at hl 3 rfl) ?_
  refine lv_aload hx hb dL_law_38 (lv_at hl 2 rfl) ?_
  refine lv_aload hx hb dL_law_40 (lv_at hl 1 rfl) ?_
  refine lv_aload hx hb dL_law_42 (lv_at hl 0 rfl) ?_
  refine lv_iconst (v := 0) hx hb dL_law_44 (by decide) ?_
  refine roS (As := [.ref (ad 0), .ref qn, .ref qf, .ref qv, .ref qe, .ref qw, .int 0]) (rest := []) X K (k_L_isSo l G g ad qn qf qv qe qw zI zI zI zI zI bd 0 0 0 zI zI (fun _ => zI) (fun _ => zI) (fun _ _ => zI) 0 zI zI zI 0 _ (A_isSo law_ini 0)) hd_L_isSo gL_law_L_isSo hP hl.1 dL_law_45 rfl rfl ⟨(Nat.le_of_ble_eq_true rfl), (Nat.le_of_ble_eq_true rfl)⟩ rfl (Nat.le_of_ble_eq_true rfl) ⟨(Nat.le_of_ble_eq_true rfl), (Nat.le_of_ble_eq_true rfl)⟩ ?_
  refine lv_istore (lv' := [(7, .int 1), (6, .ref qw), (5, .ref qe), (4, .ref qv), (3, .ref qf), (2, .ref qn), (1, .ref (ad 0)), (0, .ref b)]) hx hb dL_law_48 hl (by decide) rfl (fun ls hl => ?_)
  refine lv_bipush (v := 10) hx hb dL_law_50 (by decide) ?_
  refine lv_aload_n hx hb dL_law_52 rfl (lv_at hl 7 rfl) ?_
  refine lv_iconst (v := nI 0) hx hb dL_law_53 (by decide) ?_
  refine ceS (rest := [.int 10]) X hL hX hbl hS (k := 0) (by omega) gL_law_L_cell hl.1 dL_law_54 ⟨(Nat.le_of_ble_eq_true rfl), (Nat.le_of_ble_eq_true rfl)⟩ (Nat.le_of_ble_eq_true rfl) ⟨(Nat.le_of_ble_eq_true rfl), (Nat.le_of_ble_eq_true rfl)⟩ (fun v => ?_)
  refine lv_bipush (v := 60) hx hb dL_law_57 (by decide) ?_
  obtain ⟨j, hj, ej⟩ := lLow v (n := 60) (by omega) (by omega)
  refine roS (As := [.int v, .int 60]) (rest := [.int 10]) X K (k_L_low l G g v 60 _ (show F_L_low v 60 = some (nI j) from ej)) hd_L_low gL_law_L_low (va_P.none G) hl.1 dL_law_59 rfl rfl ⟨(Nat.le_of_ble_eq_true rfl), (Nat.le_of_ble_eq_true rfl)⟩ rfl (Nat.le_of_ble_eq_true rfl) ⟨(Nat.le_of_ble_eq_true rfl), (Nat.le_of_ble_eq_true rfl)⟩ ?_
  refine lv_iadd hx hb dL_law_62 ?_
  refine W.eq (g2 := F0 m 63 ls [.int (nI (10 + j))]) (by rw [← nI_add 10 j]; rfl) ?_
  refine lv_istore (lv' := [(8, .int (nI (10 + j))), (7, .int 1), (6, .ref qw), (5, .ref qe), (4, .ref qv), (3, .ref qf), (2, .ref qn), (1, .ref (ad 0)), (0, .ref b)]) hx hb dL_law_63 hl (by decide) rfl (fun ls hl => ?_)
  refine lv_iconst (v := nI 0) hx hb dL_law_65 (by decide) ?_
  refine lv_istore (lv' := [(9, .int (nI 0)), (8, .int (nI (10 + j))), (7, .int 1), (6, .ref qw), (5, .ref qe), (4, .ref qv), (3, .ref qf), (2, .ref qn), (1, .ref (ad 0)), (0, .ref b)]) hx hb dL_law_66 hl (by decide) rfl (fun ls hl => ?_)
  exact lm_loop (t := 10 + j) (by omega) ⟨X, K, hs, hnc, hX, hbl, hL, hf0⟩ (fun H1 locs1 ls1 hq => va_forget hq (lv_iconst (v := 1) hx hb dL_law_218 (by decide) (lv_goto (tgt := 223) hx hb dL_law_219 (by decide) (lw_ret hx hb hr hk dL_law_223)))) (10 + j) 0 63 4313 H locs ls (by omega) (by omega) (by omega) (lmI.mk hP hD hS law_ini) hl

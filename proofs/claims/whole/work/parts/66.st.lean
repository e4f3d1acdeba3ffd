/-! THE CLAIM OUT OF ONE WALK OF THE LAW'S BODY. Your part is whole_start (and what it stands on); all else here is the same for every law, but numbers. -/
def R_law : String := "EaseCurvesLaw"
def lw_P (b : Addr) (xs : List Int32) (args : Array Value) (s : State) : Prop := args = #[.ref b] ∧ s.IntsAt b xs ∧ xs.length ≤ 2560 ∧ (Jvm.Cond.and given_1 narrow_1).before args s = true
/-- what a walk over the start with the record d0 says of its end, said of the start itself -/
theorem lw_closed {s t : State} {o : Outcome} {d0 : Drawn} {L : List Loc} {k n : Nat} (hd0 : s.drawn.sameBut d0 lw_cs) (hv : ∃ v, o = .returned v) (hW : (s.setDrawn d0).WarmedH t.vm) (hs : (s.setDrawn d0).sameButNew ({ t with vm := s.vm } : State) L k n) : State.butDraws s t lw_cs (fun t1 => Framed s o t1 L k n) := by
  have h2 : t.drawn = d0 := congrArg State.drawn hs.1
  refine ⟨⟨hv, hW, State.sameButNew.setDrawn hs s.drawn⟩, ?_, by decide⟩
  rw [h2]
  exact hd0
def lw_Q (_ : Array Value) (s : State) (o : Outcome) (t : State) : Prop := o = .returned (some (.int 1)) ∧ State.butDraws s t lw_cs (fun t1 => Framed s o t1 [] 601024 7293034)
def lw_Z (below : List Frame) (a : Array Value) (s : State) : State → Prop := fun t => ∃ o, t.status = .running ∧ Ended t below o ∧ lw_Q a s o t
/-- the law's own end, with 1 on the stack, nothing written that was there before, its room as the claim has it; d0: the record of draws at this point (at the entry s.drawn: begin with 'refine W.base ?_' and 'have hd0 := Drawn.sameBut.refl s.drawn lw_cs') -/
theorem lw_ret {p : Program} {l : Launch} {e : Env} {s : State} {m : MethodId} {below : List Frame} {meth : Method} {c : Code} {b : Nat} {d0 : Drawn} (hd0 : s.drawn.sameBut d0 lw_cs) (hx : p.tables.exec = Jvm.exec) (hb : c.code = code) (hr : meth.sig.returnType = ret) (hlocks : meth.locks = false) {pc : Nat} {H : Heap} {ls : Array Slot} (hdg : decode code pc = .ok (.ireturn, 1)) : W p l e room_1 (s.setDrawn d0) m #[Value.ref b] below meth c H [] 601024 7293034 (lw_Z below #[Value.ref b] s) (F0 m pc ls [.int 1]) := by
  intro T hT X
  obtain ⟨fs, hret, hrun, hended, hW, hframe⟩ := X.leave (v := some (.int 1)) (hlocks := hlocks) (fun h => by rw [hr] at h; cases h)
  have hmeth' : T.vm.method? m = some meth := X.method'
  refine ⟨T.setFrames fs, ?_, .returned (some (.int 1)), hrun, hended, rfl, lw_closed hd0 ⟨_, rfl⟩ hW hframe⟩
  jvm_step X.here [X.here.top, hx, hb, hdg, hmeth', hr, ret, narrow_b1]
  (try refine ⟨rfl, ?_⟩); (try refine ⟨rfl, ?_⟩)
  first | (intro acts; rw [hret _ acts rfl rfl rfl]) | rw [hret _ _ rfl rfl rfl]
  exact Steps.refl _
/-- what holds at the law's entry: the machine, the code, the tables' words (any of lw_tbl by 'hts w (by decide +kernel)'), the script of L ints xs at the cell b, what the Statement gives of the start (any of its parts by flat_of_before) -/
def lw_At (p : Program) (s : State) (m : MethodId) (meth : Method) (c : Code) (b L : Nat) (xs : Nat → Int32) : Prop :=
  p.tables.exec = Jvm.exec ∧ c.code = code ∧ meth.sig.returnType = ret ∧ c.maxLocals = 9 ∧ s.vm.findClass R_law = some m.cls ∧ (∀ w ∈ lw_tbl, w.before #[Value.ref b] s = true) ∧ va_X b L xs s s.heap ∧ b < s.heap.size ∧ meth.locks = false ∧ (Jvm.Cond.and given_1 narrow_1).before #[Value.ref b] s = true
set_option maxHeartbeats 4000000 in
set_option maxRecDepth 100000 in
/-- YOUR PART: from the entry, for every script of at most 2560 ints, the law comes to its end with true ('hflags': the launch's flags, for a law that throws: no stack traces) -/
theorem whole_start {p : Program} {e : Env} {s : State} {m : MethodId} {below : List Frame} {meth : Method} {c : Code} (l : Launch) (hflags : l.flags = flags0) {b L : Nat} {xs : Nat → Int32} (hL : L ≤ 2560) (C0 : lw_At p s m meth c b L xs) : W p l e room_1 s m #[Value.ref b] below meth c s.heap [] 0 0 (lw_Z below #[Value.ref b] s) (entryFrame m ([Value.ref b] : List Value).toArray 9) := by
  obtain ⟨hx, hb, hr, hml, hown, hts, hX, hbl, hk, hgv⟩ := C0
  obtain ⟨G, g, K, ha, hs, hnc⟩ := law_env hts hgv
  have hsl : ∀ w ∈ wsL_law, w.before #[Value.ref b] s = true := fun w h => hts w (wsL_law_in w h)
  have hf0 : l.stackTraces = false := by
    unfold Launch.stackTraces
    rw [hflags]
    decide +kernel
  have X : cx p s m #[Value.ref b] meth c cL_law 9 ret RL wsL_law := ⟨hx, hb, hml, hr, hown, hsl, hk⟩
  have hA : ∀ q : Nat, s.heap.size ≤ q → (fun q => s.heap.size ≤ q) q := fun _ h => h
  have hl := lv_entry [Value.ref b] (n := 9) (Nat.le_of_ble_eq_true rfl)
  rw [lg_entry_eq]
  generalize ((lg_sl [Value.ref b] ++ List.replicate (9 - (lg_sl [Value.ref b]).length) Slot.unset).toArray) = ls at hl ⊢
  have hl : lv_has ls 9 [(0, .ref b)] := hl
  have hP : va_P G vwCl [] s.heap := va_P.mem.mpr (fun q hq => absurd hq List.not_mem_nil)
  have hD : va_D (fun q => s.heap.size ≤ q) [] := va_D.of List.nodup_nil (fun q hq => absurd hq List.not_mem_nil)
  have hS : va_S (fun q => s.heap.size ≤ q) s.heap s.heap [] := va_S.rf
  have hH : s.heap = s.heap := rfl
  refine va_new (ci := 3) (fs := [.null, .null, .int 0, .null, .null, .null, .null]) (C := RX3) (T := TX3) (N := 7) hx hb hsl inlX3 tyX3 tyX3_ok hown (hts _ (by decide +kernel)) (hts _ (by decide +kernel)) (hts _ (by decide +kernel)) K.1 hP hD hS hA rfl (fun j hj => by rcases (show j = 0 ∨ j = 1 ∨ j = 2 ∨ j = 3 ∨ j = 4 ∨ j = 5 ∨ j = 6 by omega) with rfl | rfl | rfl | rfl | rfl | rfl | rfl <;> rfl) (Nat.le_of_ble_eq_true rfl) (Nat.le_of_ble_eq_true rfl) dL_law_0 (fun h0 H hP hD hS => ?_)
  have hP : va_P G vwCl ([(h0, .inr (3, [.null, .null, .int 0, .null, .null, .null, .null]))]) H := hP
  have hD : va_D (fun q => s.heap.size ≤ q) ([(h0, .inr (3, [.null, .null, .int 0, .null, .null, .null, .null]))]) := hD
  refine W.widen (k := 1) (n := 7) (Nat.le_of_ble_eq_true rfl) (Nat.le_of_ble_eq_true rfl) ?_
  refine lv_dup hx hb dL_law_3 rfl ?_
  refine inI (b := h0) (rest := [.ref h0]) (wr := []) X K ha (k_X3_init l G g h0) rfl hd_X3_init gL_law_X3_init (hts _ (by decide +kernel)) (hts _ (by decide +kernel)) (hts _ (by decide +kernel)) hP hD hS hA [0] [] rfl rfl ⟨by decide, by decide, by decide⟩ hl.1 dL_law_4 rfl ⟨(Nat.le_of_ble_eq_true rfl), (Nat.le_of_ble_eq_true rfl)⟩ rfl (Nat.le_of_ble_eq_true rfl) ⟨(Nat.le_of_ble_eq_true rfl), (Nat.le_of_ble_eq_true rfl)⟩ (fun u H locs hu hP hD hS => ?_)
  obtain ⟨ad, bd⟩ := u
  have hu : ad 0 = h0 := hu
  rw [← hu]
  have hP : va_P G vwCl (wX g ad bd 0 0 0 zI zI (fun _ => zI) (fun _ => zI) (fun _ _ => zI) 0 zI zI zI) H := hP
  have hD : va_D (fun q => s.heap.size ≤ q) (wX g ad bd 0 0 0 zI zI (fun _ => zI) (fun _ => zI) (fun _ _ => zI) 0 zI zI zI) := hD
  refine W.widen (k := 58) (n := 4247) (Nat.le_of_ble_eq_true rfl) (Nat.le_of_ble_eq_true rfl) ?_
  refine lv_astore_n (lv' := [(1, .ref (ad 0)), (0, .ref b)]) hx hb dL_law_7 rfl hl (by decide) rfl (fun ls hl => ?_)
  refine va_new (ci := 4) (fs := [.null, .null, .null, .null, .int 0, .null, .int 0, .int 0, .null, .int 0, .int 0]) (C := RX4) (T := TX4) (N := 11) hx hb hsl inlX4 tyX4 tyX4_ok hown (hts _ (by decide +kernel)) (hts _ (by decide +kernel)) (hts _ (by decide +kernel)) K.1 hP hD hS hA rfl (fun j hj => by rcases (show j = 0 ∨ j = 1 ∨ j = 2 ∨ j = 3 ∨ j = 4 ∨ j = 5 ∨ j = 6 ∨ j = 7 ∨ j = 8 ∨ j = 9 ∨ j = 10 by omega) with rfl | rfl | rfl | rfl | rfl | rfl | rfl | rfl | rfl | rfl | rfl <;> rfl) (Nat.le_of_ble_eq_true rfl) (Nat.le_of_ble_eq_true rfl) dL_law_8 (fun h1 H hP hD hS => ?_)
  have hP : va_P G vwCl (wX g ad bd 0 0 0 zI zI (fun _ => zI) (fun _ => zI) (fun _ _ => zI) 0 zI zI zI ++ [(h1, .inr (4, [.null, .null, .null, .null, .int 0, .null, .int 0, .int 0, .null, .int 0, .int 0]))]) H := hP
  have hD : va_D (fun q => s.heap.size ≤ q) (wX g ad bd 0 0 0 zI zI (fun _ => zI) (fun _ => zI) (fun _ _ => zI) 0 zI zI zI ++ [(h1, .inr (4, [.null, .null, .null, .null, .int 0, .null, .int 0, .int 0, .null, .int 0, .int 0]))]) := hD
  refine W.widen (k := 59) (n := 4258) (Nat.le_of_ble_eq_true rfl) (Nat.le_of_ble_eq_true rfl) ?_
  refine lv_dup hx hb dL_law_11 rfl ?_
  refine inI (b := h1) (rest := [.ref h1]) (wr := wX g ad bd 0 0 0 zI zI (fun _ => zI) (fun _ => zI) (fun _ _ => zI) 0 zI zI zI) X K ha (k_X4_init l G g h1) rfl hd_X4_init gL_law_X4_init (hts _ (by decide +kernel)) (hts _ (by decide +kernel)) (hts _ (by decide +kernel)) hP hD hS hA [58] [0, 1, 2, 3, 4, 5, 6, 7, 8, 9, 10, 11, 12, 13, 14, 15, 16, 17, 18, 19, 20, 21, 22, 23, 24, 25, 26, 27, 28, 29, 30, 31, 32, 33, 34, 35, 36, 37, 38, 39, 40, 41, 42, 43, 44, 45, 46, 47, 48, 49, 50, 51, 52, 53, 54, 55, 56, 57] rfl rfl ⟨by decide, by decide, by decide⟩ hl.1 dL_law_12 rfl ⟨(Nat.le_of_ble_eq_true rfl), (Nat.le_of_ble_eq_true rfl)⟩ rfl (Nat.le_of_ble_eq_true rfl) ⟨(Nat.le_of_ble_eq_true rfl), (Nat.le_of_ble_eq_true rfl)⟩ (fun u H locs _ hP hD hS => ?_)
  have hP : va_P G vwCl (wX g ad bd 0 0 0 zI zI (fun _ => zI) (fun _ => zI) (fun _ _ => zI) 0 zI zI zI ++ wM g h1 (u 0) (u 1) (u 2) (u 3) (u 4) (u 5) 0 0 0 0 0 zI zI zI zI zI zI) H := hP
  have hD : va_D (fun q => s.heap.size ≤ q) (wX g ad bd 0 0 0 zI zI (fun _ => zI) (fun _ => zI) (fun _ _ => zI) 0 zI zI zI ++ wM g h1 (u 0) (u 1) (u 2) (u 3) (u 4) (u 5) 0 0 0 0 0 zI zI zI zI zI zI) := hD
  refine W.widen (k := 65) (n := 7833) (Nat.le_of_ble_eq_true rfl) (Nat.le_of_ble_eq_true rfl) ?_
  refine lv_astore_n (lv' := [(2, .ref h1), (1, .ref (ad 0)), (0, .ref b)]) hx hb dL_law_15 rfl hl (by decide) rfl (fun ls hl => ?_)
  refine lv_iconst (v := 1) hx hb dL_law_16 (by decide) ?_
  refine va_newa (atype := .long) (ty := .long) (N' := 1) (a0 := (1, .inr (.inl (fun _ => 0)))) hx hb (hts _ (by decide +kernel)) rfl K.1 hP hD hS hA (fun _ => rfl) (by decide) rfl (Nat.le_of_ble_eq_true rfl) (Nat.le_of_ble_eq_true rfl) (Nat.le_of_ble_eq_true rfl) dL_law_17 (fun o1 cA H hK2 hP hD hS => ?_)
  obtain rfl := k_eq (i := 4) K.1 rfl hK2
  have hP : va_P G vwCl ((wX g ad bd 0 0 0 zI zI (fun _ => zI) (fun _ => zI) (fun _ _ => zI) 0 zI zI zI ++ wM g h1 (u 0) (u 1) (u 2) (u 3) (u 4) (u 5) 0 0 0 0 0 zI zI zI zI zI zI) ++ [(o1, .inl (g 4, 1, .inr (.inl (fun _ => 0))))]) H := hP
  have hD : va_D (fun q => s.heap.size ≤ q) ((wX g ad bd 0 0 0 zI zI (fun _ => zI) (fun _ => zI) (fun _ _ => zI) 0 zI zI zI ++ wM g h1 (u 0) (u 1) (u 2) (u 3) (u 4) (u 5) 0 0 0 0 0 zI zI zI zI zI zI) ++ [(o1, .inl (g 4, 1, .inr (.inl (fun _ => 0))))]) := hD
  refine W.widen (k := 66) (n := 7834) (Nat.le_of_ble_eq_true rfl) (Nat.le_of_ble_eq_true rfl) ?_
  refine lv_astore_n (lv' := [(3, .ref o1), (2, .ref h1), (1, .ref (ad 0)), (0, .ref b)]) hx hb dL_law_19 rfl hl (by decide) rfl (fun ls hl => ?_)
  refine lv_iconst (v := 1) hx hb dL_law_20 (by decide) ?_
  refine va_newa (atype := .double) (ty := .double) (N' := 1) (a0 := (1, .inr (.inr (.inr (.inl (fun _ => 0)))))) hx hb (hts _ (by decide +kernel)) rfl K.1 hP hD hS hA (fun _ => rfl) (by decide) rfl (Nat.le_of_ble_eq_true rfl) (Nat.le_of_ble_eq_true rfl) (Nat.le_of_ble_eq_true rfl) dL_law_21 (fun o2 cA H hK2 hP hD hS => ?_)
  obtain rfl := k_eq (i := 5) K.1 rfl hK2
  have hP : va_P G vwCl (((wX g ad bd 0 0 0 zI zI (fun _ => zI) (fun _ => zI) (fun _ _ => zI) 0 zI zI zI ++ wM g h1 (u 0) (u 1) (u 2) (u 3) (u 4) (u 5) 0 0 0 0 0 zI zI zI zI zI zI) ++ [(o1, .inl (g 4, 1, .inr (.inl (fun _ => 0))))]) ++ [(o2, .inl (g 5, 1, .inr (.inr (.inr (.inl (fun _ => 0))))))]) H := hP
  have hD : va_D (fun q => s.heap.size ≤ q) (((wX g ad bd 0 0 0 zI zI (fun _ => zI) (fun _ => zI) (fun _ _ => zI) 0 zI zI zI ++ wM g h1 (u 0) (u 1) (u 2) (u 3) (u 4) (u 5) 0 0 0 0 0 zI zI zI zI zI zI) ++ [(o1, .inl (g 4, 1, .inr (.inl (fun _ => 0))))]) ++ [(o2, .inl (g 5, 1, .inr (.inr (.inr (.inl (fun _ => 0))))))]) := hD
  refine W.widen (k := 67) (n := 7835) (Nat.le_of_ble_eq_true rfl) (Nat.le_of_ble_eq_true rfl) ?_
  refine lv_astore (lv' := [(4, .ref o2), (3, .ref o1), (2, .ref h1), (1, .ref (ad 0)), (0, .ref b)]) hx hb dL_law_23 hl (by decide) rfl (fun ls hl => ?_)
  refine lv_iconst (v := 0) hx hb dL_law_25 (by decide) ?_
  refine lv_istore (lv' := [(5, .int 0), (4, .ref o2), (3, .ref o1), (2, .ref h1), (1, .ref (ad 0)), (0, .ref b)]) hx hb dL_law_26 hl (by decide) rfl (fun ls hl => ?_)
  have I0 : lwI G g ad h1 (u 0) (u 1) (u 2) (u 3) (u 4) (u 5) o1 o2 s H locs := lwI.mk (va_P.perm pm_st hP) (va_D.perm pm_st hD) hS law_ini.1 law_ini.2.1 law_ini.2.2
  exact law_loop ⟨X, K, hs, hnc, hX, hbl, hL, hf0⟩ (fun H1 locs1 ls1 hq => va_forget hq (lv_iconst (v := 1) hx hb dL_law_1853 (by decide) (W.base (lw_ret (Drawn.sameBut.refl s.drawn lw_cs) hx hb hr hk dL_law_1854)))) 512 0 67 7835 H locs ls (by omega) (by omega) (by omega) (by omega) I0 hl

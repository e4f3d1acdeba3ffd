/-! ===== the law's own methods: they call, and catch ===== -/
theorem foc_hd {a : Nat × va_E} {X X' : va_W} : focus (a :: X) X X' (a :: X') := ⟨[a], List.Perm.refl _, List.Perm.refl _⟩
theorem foc_ap {wr wc w1 : va_W} : focus (wr ++ wc) wc w1 (wr ++ w1) := ⟨wr, List.Perm.refl _, List.Perm.refl _⟩
def ncN : List (Nat × Nat) := [(1, 2), (1, 3), (2, 1), (2, 3), (3, 1), (3, 2)]
def ncs (U : State) : Prop := ∀ q ∈ ncN, va_Nc (exN q.1) (exN q.2) U
theorem ncs.warm {s U : State} (hW : s.WarmedH U.vm) (h : ncs s) : ncs U := fun q hq => va_Nc.moved hW.alike (h q hq)
theorem ncs.call {U : State} {f : JFrame} {mk : MethodId} {a : Array Value} (h : ncs U) : ncs (U.calling f mk a) := fun q hq => va_Nc.moved (u := U) (U := U.calling f mk a) (Vm.Alike.refl U.vm) (h q hq)
def lxQ (G : va_G) (A : Nat → Prop) (v : Option Value) (P1 : va_W → Prop) : Array Value → State → Outcome → State → Prop := fun _ st o t => (o = .returned v ∧ ∃ w, P1 w ∧ va_P G vwCl w t.heap ∧ va_D A w) ∧ va_F A st t
def lxP (G : va_G) (g : Nat → ClassId) (av : List Value) (wc : va_W) (sz : Nat) : Array Value → State → Prop := va_Pc av (fun U => U.heap.size = sz ∧ va_P G vwCl wc U.heap ∧ amb G g U ∧ va_D (fun _ => True) wc ∧ exS (va_A wc sz) U U.heap ∧ ncs U)
def lxC (l : Launch) (y : MethodName) (ws : List Cond) (rm : Room) (G : va_G) (g : Nat → ClassId) (av : List Value) (wc : va_W) (v : Option Value) (P1 : va_W → Prop) : Prop := ∀ sz : Nat, Met l y ws rm (lxP G g av wc sz) (lxQ G (va_A wc sz) v P1) 1 6 (va_A wc sz)
abbrev lxM (G : va_G) (A : Nat → Prop) (below : List Frame) (v : Option Value) (P1 : va_W → Prop) (args : Array Value) (s : State) : State → Prop := MQ below (lxQ G A v P1) args s 1 6 A
theorem lxP.blind {G : va_G} {g : Nat → ClassId} {av : List Value} {wc : va_W} {sz : Nat} : FrameBlind (lxP G g av wc sz) := fun _ _ _ _ q => ⟨q.1, q.2.1, q.2.2.1, q.2.2.2.1.call, q.2.2.2.2.1, q.2.2.2.2.2.1.call, q.2.2.2.2.2.2.call⟩
theorem lxC.of {l : Launch} {y : MethodName} {ws ws' : List Cond} {fr lo : Nat} {G : va_G} {g : Nat → ClassId} {av : List Value} {wc : va_W} {v : Option Value} {P1 : va_W → Prop} {cc : ByteArray} {maxL : Nat} {ret : Option FieldType} {hh : List (Nat × Nat × Nat × Nat)} (hy : plainName y.cls = true) (hw : ws = Cond.codeWith y cc maxL ret hh :: ws') (hlen : (lg_sl av).length ≤ maxL)
    (body : ∀ (p : Program) (e : Env) (s : State) (m : MethodId) (below : List Frame) (meth : Method) (c : Code) (ls : Array Slot) (A : Nat → Prop), cx p s m av.toArray meth c cc maxL ret y.cls ws → amb G g s → (∀ q : Nat, s.heap.size ≤ q → A q) → va_P G vwCl wc s.heap → va_D A wc → va_S A s.heap s.heap [] → exS A s s.heap → ncs s → c.exceptionTable.toList = tableOf hh → lv_has ls maxL (lv_args 0 av) → W p l e (rmX fr lo) s m av.toArray below meth c s.heap [] 0 0 (lxM G A below v P1 av.toArray s) (F0 m 0 ls [])) : lxC l y ws (rmX fr lo) G g av wc v P1 := by
  intro sz
  refine va_MetW (cc := cc) (maxL := maxL) (ret := ret) hy hw ?_
  intro p e s m args below meth c s₁ B hml hv
  obtain ⟨rfl, hsz, hP, hK, hD0, hs, hn⟩ := hv
  subst hsz
  have hl := lv_entry av (n := maxL) hlen
  rw [lg_entry_eq]
  have hts := atoms_spec (ws := ws) B.pre
  exact body p e s m below meth c _ _ ⟨B.exec, B.bytes, hml, B.returns, findClass_of_methodNamed B.named, hts, B.notSynchronized⟩ hK (fun q h => Or.inr h) hP (hD0.self (sz := s.heap.size)) va_S.rf hs hn (vx_table (x := y) B (hts _ (by rw [hw]; exact List.mem_cons_self))) hl
section MyRows6
variable {p : Program} {l : Launch} {e : Env} {R : Room} {s : State} {m : MethodId} {args : Array Value} {below : List Frame} {meth : Method} {c : Code} {H : Heap} {locs : List Loc} {cells slots : Nat} {Q : State → Prop} {pc : Nat} {ls : Array Slot}
variable {G : va_G} {g : Nat → ClassId} {A : Nat → Prop} {cc : ByteArray} {nL : Nat} {rt : Option FieldType} {own : String} {Ts : List Cond}
theorem lx_iret {v : Int32} {P1 : va_W → Prop} {w : va_W} (hx : p.tables.exec = Jvm.exec) (hb : c.code = cc) (hr : meth.sig.returnType = some .int) (hk : meth.locks = false) (hp : P1 w) (hP : va_P G vwCl w H) (hD : va_D A w) (hS : va_S A s.heap H locs) (hdg : decode cc pc = .ok (.ireturn, 1)) : W p l e R s m args below meth c H locs 1 6 (lxM G A below (some (.int v)) P1 args s) (F0 m pc ls [.int v]) :=
  W.iret hx hb hr (fun t ht _ => ⟨⟨rfl, w, hp, by rw [ht]; exact hP, hD⟩, hS.F ht⟩) hS.2.2 hdg hk
theorem lx_throw (X : cx p s m args meth c cc nL rt own Ts) (K : amb G g s) {y : MethodName} {ws' wsy : List Cond} {fr lo n index maxL ci N : Nat} {bytes : ByteArray} {ret : Option FieldType} {b : Addr} {As rest st0 fs : List Value} {wc wr : va_W} {T : u_T} {E : String} {P0 : va_W → Prop}
    (hM : exC l y wsy (rmX fr lo) G g (.ref b :: As) wc E P0) (hd : ynm y n) (hT : GoodIn Ts (wsV own index y.cls y wsy)) (hP : va_P G vwCl (wr ++ wc) H) (hD : va_D A (wr ++ wc)) (hS : va_S A s.heap H locs) (hA : ∀ q, s.heap.size ≤ q → A q) (hs : exS A s s.heap) (hls : ls.size = nL) (hdg : decode cc pc = .ok (.invokevirtual index, 3)) (hw : wsy = Cond.code y bytes maxL ret :: ws') (hn : As.length = n) (hR : fr + 1 ≤ R.frames ∧ 8 + (maxL + 11) + lo ≤ R.locals) (hc : vwCl[ci]? = some (y.cls, T, N)) (h0 : wc[0]? = some (b, .inr (ci, fs))) (hst : st0 = As.reverse ++ .ref b :: rest) (hsum : (rest.map fun v => v.category).sum ≤ 8) (hf : 1 ≤ R.cells ∧ 6 ≤ R.slots)
    (kk : ∀ (q : Nat) (ce : Cell) (w0 : va_W) (H1 : Heap) (locs1 : List Loc), P0 w0 → va_P G vwCl (wr ++ w0) H1 → va_D A (wr ++ w0) → va_S A s.heap H1 locs1 → H1[q]? = some ce → ce.vm = .none → s.vm.findClass E = some ce.cls → vx_W p l e R s m args below meth c H1 locs1 1 6 Q (F0 m pc ls rest) q) : W p l e R s m args below meth c H locs 0 0 Q (F0 m pc ls st0) := by
  have hPc : va_P G vwCl wc H := (foc_ap (w1 := wc)).sub hP
  have hDc : va_D A wc := (foc_ap (w1 := wc)).subD hD
  have hF := free_f hD (foc_ap (w1 := wc)) hS hA
  have hr := vx_runV (C := y.cls) (locs := locs) (cells := 0) (slots := 0) (g := F0 m pc ls st0) (rest := rest) (e := e) (below := below) (meth := meth) X.fix (hM H.size) (cwV n X.2.2.2.2.2.1 hT hw rfl rfl ⟨rfl, hd⟩ hR) ⟨exP.blind, va_recv K.1 hPc hc h0, fun U hU hW => ⟨rfl, by rw [hU], by rw [hU]; exact hPc, K.warm hW, hDc.weaken (fun _ _ _ _ => trivial), hs.to hS hU hW hF⟩⟩ rfl hn hls hst (lv_room hsum) hdg ⟨by omega, by omega⟩
  intro T9 hT9 X9
  rcases hr T9 hT9 X9 with ⟨v, st₀, t, T', L, h0, X', hL, e1, e2, hq, st⟩ | ⟨q, st₀, t, T', L, E', ce, h0, X', hL, e1, e2, ⟨w1, hw1, ⟨hE, hP1, hD1⟩, hz, hkk⟩, hce, hcv, hcl, st⟩
  · exact hq.elim
  · subst hE
    rw [h0] at hz hkk
    rw [← e1] at hP1 hz hkk hce
    obtain ⟨hP2, hD2⟩ := join_f hP hD foc_ap hkk hF hP1 hD1
    have hS2 : va_S A s.heap T'.heap (locs ++ L) := ⟨Nat.le_trans hS.1 hz, fun q h1 h2 => by rw [hkk q (Nat.lt_of_lt_of_le h1 hS.1) (fun z => h2 (hF q z))]; exact hS.2.1 q h1 h2, fun q hq => by
        rcases List.mem_append.mp hq with h | h
        · exact hS.2.2 q h
        · exact hF _ (hL q h)⟩
    obtain ⟨t2, a1, b1⟩ := kk q ce w1 T'.heap (locs ++ L) hw1 hP2 hD2 hS2 hce hcv hcl T' rfl X'
    exact ⟨t2, st.trans a1, b1⟩
theorem lxS (X : cx p s m args meth c cc nL rt own Ts) (K : amb G g s) (hs : exS A s s.heap) (hnc : ncs s) {y : MethodName} {ws' wsy : List Cond} {fr lo n index maxL : Nat} {bytes : ByteArray} {ret : Option FieldType} {hh : List (Nat × Nat × Nat × Nat)} {As rest st0 : List Value} {wc wr : va_W} {v : Option Value} {P1 : va_W → Prop}
    (hM : lxC l y wsy (rmX fr lo) G g As wc v P1) (hd : ynm y n) (hT : GoodIn Ts (va_wsS own index y wsy)) (hP : va_P G vwCl (wr ++ wc) H) (hD : va_D A (wr ++ wc)) (hS : va_S A s.heap H locs) (hA : ∀ q, s.heap.size ≤ q → A q) (hls : ls.size = nL) (hdg : decode cc pc = .ok (.invokestatic index, 3)) (hw : wsy = Cond.codeWith y bytes maxL ret hh :: ws') (hn : As.length = n) (hR : fr + 1 ≤ R.frames ∧ 8 + (maxL + 11) + lo ≤ R.locals) (hst : st0 = As.reverse ++ rest) (hsum : (rest.map fun v => v.category).sum ≤ 8) (hf : cells + 1 ≤ R.cells ∧ slots + 6 ≤ R.slots)
    (kk : ∀ (w1 : va_W) (H1 : Heap) (locs1 : List Loc), P1 w1 → va_P G vwCl (wr ++ w1) H1 → va_D A (wr ++ w1) → va_S A s.heap H1 locs1 → W p l e R s m args below meth c H1 locs1 (cells + 1) (slots + 6) Q (F0 m (pc + 3) ls (v.toList ++ rest))) : W p l e R s m args below meth c H locs cells slots Q (F0 m pc ls st0) := by
  have hPc : va_P G vwCl wc H := (foc_ap (w1 := wc)).sub hP
  have hDc : va_D A wc := (foc_ap (w1 := wc)).subD hD
  have hF := free_f hD (foc_ap (w1 := wc)) hS hA
  have hr := vx_runSW (locs := locs) (cells := cells) (slots := slots) (g := F0 m pc ls st0) (rest := rest) (e := e) (below := below) (meth := meth) X.fix (hM H.size) (vx_cwSW n X.2.2.2.2.2.1 hT hw rfl rfl hd hR) ⟨lxP.blind, fun U hU hW => ⟨rfl, by rw [hU], by rw [hU]; exact hPc, K.warm hW, hDc.weaken (fun _ _ _ _ => trivial), hs.to hS hU hW hF, hnc.warm hW⟩⟩ rfl hn hls hst (lv_room hsum) hdg hf
  intro T9 hT9 X9
  obtain ⟨v', st₀, t, T', L, h0, X', hL, e1, e2, ⟨⟨hv, w1, hw1, hP1, hD1⟩, hz, hk⟩, st⟩ := hr T9 hT9 X9
  cases hv
  rw [h0] at hz hk
  rw [← e1] at hP1 hz hk
  obtain ⟨hP2, hD2⟩ := join_f hP hD foc_ap hk hF hP1 hD1
  have hS2 : va_S A s.heap T'.heap (locs ++ L) := ⟨Nat.le_trans hS.1 hz, fun q h1 h2 => by rw [hk q (Nat.lt_of_lt_of_le h1 hS.1) (fun z => h2 (hF q z))]; exact hS.2.1 q h1 h2, fun q hq => by
      rcases List.mem_append.mp hq with h | h
      · exact hS.2.2 q h
      · exact hF _ (hL q h)⟩
  obtain ⟨t2, a1, b1⟩ := kk w1 T'.heap (locs ++ L) hw1 hP2 hD2 hS2 T' rfl X'
  exact ⟨t2, st t2 a1, b1⟩
end MyRows6
theorem hd_X3_addKey : ynm yX3_addKey 4 := by unfold ynm; decide +kernel
theorem hd_X3_removeKey : ynm yX3_removeKey 2 := by unfold ynm; decide +kernel
theorem hd_X3_setKey : ynm yX3_setKey 4 := by unfold ynm; decide +kernel
theorem hd_X3_moveKey : ynm yX3_moveKey 3 := by unfold ynm; decide +kernel
theorem hd_X3_setTangent : ynm yX3_setTangent 4 := by unfold ynm; decide +kernel
theorem hd_X3_lock : ynm yX3_lock 3 := by unfold ynm; decide +kernel
theorem hd_X3_stretch : ynm yX3_stretch 4 := by unfold ynm; decide +kernel
theorem hd_X3_copy : ynm yX3_copy 3 := by unfold ynm; decide +kernel
theorem hd_X3_reduce : ynm yX3_reduce 2 := by unfold ynm; decide +kernel
theorem hd_X3_key : ynm yX3_key 3 := by unfold ynm; decide +kernel
theorem hd_X3_value : ynm yX3_value 2 := by unfold ynm; decide +kernel
theorem hd_X3_sum : ynm yX3_sum 3 := by unfold ynm; decide +kernel
theorem hd_X3_extreme : ynm yX3_extreme 4 := by unfold ynm; decide +kernel
theorem hd_X3_crossings : ynm yX3_crossings 2 := by unfold ynm; decide +kernel
theorem hd_X3_difference : ynm yX3_difference 2 := by unfold ynm; decide +kernel
theorem hd_X3_mean : ynm yX3_mean 1 := by unfold ynm; decide +kernel
theorem hd_X3_error : ynm yX3_error 2 := by unfold ynm; decide +kernel
theorem hd_X3_greatestStretch : ynm yX3_greatestStretch 3 := by unfold ynm; decide +kernel
theorem hd_X3_leastEase : ynm yX3_leastEase 2 := by unfold ynm; decide +kernel
theorem hd_X3_append : ynm yX3_append 1 := by unfold ynm; decide +kernel
theorem hd_X3_parse : ynm yX3_parse 1 := by unfold ynm; decide +kernel
theorem hd_X3_undo : ynm yX3_undo 0 := by unfold ynm; decide +kernel
set_option maxHeartbeats 4000000 in
set_option maxRecDepth 100000 in
theorem kL_addKey (l : Launch) (G : va_G) (g : Nat → ClassId) (ad : Nat → Nat) (bd : Nat → Nat → Nat) (sc : Int32) (tl : Int32) (tat : Int32) (tb : Nat → Int32) (cn : Nat → Int32) (cf : Nat → Nat → Int32) (sn : Nat → Nat → Int32) (sf : Nat → Nat → Nat → Int32) (tn : Int32) (tf : Nat → Int32) (vv : Nat → Int32) (ov : Nat → Int32) (o1 : Nat) (fo : Nat → Int64) (p1 : Int32) (p2 : Int32) (p3 : Int32) (p4 : Int32) (res : Int32 × (Nat → Nat → Nat) × Int32 × (Nat → Int32) × (Nat → Nat → Int32) × (Nat → Nat → Int32) × (Nat → Nat → Nat → Int32)) (hq : F_X3_addKey bd sc cn cf sn sf p1 p2 p3 p4 = some (.inr res)) : lxC l yL_addKey wsL_addKey (rmX 8 137) G g [.ref (ad 0), .int p1, .int p2, .int p3, .int p4, .ref o1] ((o1, .inl (g 4, 1, .inr (.inl fo))) :: (wX g ad bd sc tl tat tb cn cf sn sf tn tf vv ov)) (some (.int 0)) (fun w => w = (o1, .inl (g 4, 1, .inr (.inl (vp_updL fo 0 (res.1.toInt64))))) :: (wX g ad res.2.1 res.2.2.1 tl tat tb res.2.2.2.1 res.2.2.2.2.1 res.2.2.2.2.2.1 res.2.2.2.2.2.2 tn tf vv ov)) := by
  refine lxC.of (cc := cL_addKey) (maxL := 7) (ret := some .int) (by decide) rfl (Nat.le_of_ble_eq_true rfl) ?_
  intro p e s m below meth c ls A X K hA hP hD hS hs hnc htab hl
  obtain ⟨hx, hb, hml, hr, hown, hts, hk⟩ := id X
  have hl : lv_has ls 7 [(0, .ref (ad 0)), (1, .int p1), (2, .int p2), (3, .int p3), (4, .int p4), (5, .ref o1)] := hl
  refine lv_aload hx hb dL_addKey_0 (lv_at hl 5 rfl) ?_
  refine lv_iconst (v := 0) hx hb dL_addKey_2 (by decide) ?_
  refine lv_aload_n hx hb dL_addKey_3 rfl (lv_at hl 0 rfl) ?_
  refine lv_iload_n hx hb dL_addKey_4 rfl (lv_at hl 1 rfl) ?_
  refine lv_iload_n hx hb dL_addKey_5 rfl (lv_at hl 2 rfl) ?_
  refine lv_iload_n hx hb dL_addKey_6 rfl (lv_at hl 3 rfl) ?_
  refine lv_iload hx hb dL_addKey_7 (lv_at hl 4 rfl) ?_
  refine rwVf (ci := 3) (As := [.int p1, .int p2, .int p3, .int p4]) (rest := [.int 0, .ref o1]) X K (k_X3_addKey l G g ad bd sc tl tat tb cn cf sn sf tn tf vv ov p1 p2 p3 p4 _ hq) hd_X3_addKey gL_addKey_X3_addKey hP hD hS hA foc_hd hl.1 dL_addKey_9 rfl rfl ⟨(Nat.le_of_ble_eq_true rfl), (Nat.le_of_ble_eq_true rfl)⟩ rfl rfl rfl (Nat.le_of_ble_eq_true rfl) ⟨Nat.zero_le _, Nat.zero_le _⟩ (fun H locs hP hD hS => ?_)
  refine lv_i2l (v := res.1.toInt64) hx hb dL_addKey_12 rfl ?_
  refine va_last hx hb K.1 hP hD hS 0 4 rfl rfl (vp_in_iff.mpr (by decide)) dL_addKey_13 (fun H locs hP hD hS => ?_)
  have hP : va_P G vwCl ((o1, .inl (g 4, 1, .inr (.inl (vp_updL fo 0 (res.1.toInt64))))) :: (wX g ad res.2.1 res.2.2.1 tl tat tb res.2.2.2.1 res.2.2.2.2.1 res.2.2.2.2.2.1 res.2.2.2.2.2.2 tn tf vv ov)) H := hP
  have hD : va_D A ((o1, .inl (g 4, 1, .inr (.inl (vp_updL fo 0 (res.1.toInt64))))) :: (wX g ad res.2.1 res.2.2.1 tl tat tb res.2.2.2.1 res.2.2.2.2.1 res.2.2.2.2.2.1 res.2.2.2.2.2.2 tn tf vv ov)) := hD
  refine lv_goto (tgt := 29) hx hb dL_addKey_14 (by decide) ?_
  refine lv_iconst (v := 0) hx hb dL_addKey_29 (by decide) ?_
  refine W.widen (k := 1) (n := 6) (Nat.zero_le _) (Nat.zero_le _) ?_
  exact lx_iret hx hb hr hk rfl hP hD hS dL_addKey_30
set_option maxHeartbeats 4000000 in
set_option maxRecDepth 100000 in
theorem kxL_addKey (l : Launch) (hf0 : l.stackTraces = false) (G : va_G) (g : Nat → ClassId) (ad : Nat → Nat) (bd : Nat → Nat → Nat) (sc : Int32) (tl : Int32) (tat : Int32) (tb : Nat → Int32) (cn : Nat → Int32) (cf : Nat → Nat → Int32) (sn : Nat → Nat → Int32) (sf : Nat → Nat → Nat → Int32) (tn : Int32) (tf : Nat → Int32) (vv : Nat → Int32) (ov : Nat → Int32) (o1 : Nat) (fo : Nat → Int64) (p1 : Int32) (p2 : Int32) (p3 : Int32) (p4 : Int32) (t t' : Nat) (ht : t < 4 ∧ 0 < t ∧ t' = t) (hq : F_X3_addKey bd sc cn cf sn sf p1 p2 p3 p4 = some (.inl t)) : lxC l yL_addKey wsL_addKey (rmX 8 137) G g [.ref (ad 0), .int p1, .int p2, .int p3, .int p4, .ref o1] ((o1, .inl (g 4, 1, .inr (.inl fo))) :: (wX g ad bd sc tl tat tb cn cf sn sf tn tf vv ov)) (some (.int (nI t'))) (fun w => w = (o1, .inl (g 4, 1, .inr (.inl fo))) :: (wX g ad bd sc tl tat tb cn cf sn sf tn tf vv ov)) := by
  refine lxC.of (cc := cL_addKey) (maxL := 7) (ret := some .int) (by decide) rfl (Nat.le_of_ble_eq_true rfl) ?_
  intro p e s m below meth c ls A X K hA hP hD hS hs hnc htab hl
  obtain ⟨hx, hb, hml, hr, hown, hts, hk⟩ := id X
  have hl : lv_has ls 7 [(0, .ref (ad 0)), (1, .int p1), (2, .int p2), (3, .int p3), (4, .int p4), (5, .ref o1)] := hl
  rcases (show t = 1 ∧ t' = 1 ∨ t = 2 ∧ t' = 2 ∨ t = 3 ∧ t' = 3 by omega) with ⟨rfl, rfl⟩ | ⟨rfl, rfl⟩ | ⟨rfl, rfl⟩
  · refine lv_aload hx hb dL_addKey_0 (lv_at hl 5 rfl) ?_
    refine lv_iconst (v := 0) hx hb dL_addKey_2 (by decide) ?_
    refine lv_aload_n hx hb dL_addKey_3 rfl (lv_at hl 0 rfl) ?_
    refine lv_iload_n hx hb dL_addKey_4 rfl (lv_at hl 1 rfl) ?_
    refine lv_iload_n hx hb dL_addKey_5 rfl (lv_at hl 2 rfl) ?_
    refine lv_iload_n hx hb dL_addKey_6 rfl (lv_at hl 3 rfl) ?_
    refine lv_iload hx hb dL_addKey_7 (lv_at hl 4 rfl) ?_
    refine lx_throw (wr := [(o1, .inl (g 4, 1, .inr (.inl fo)))]) (ci := 3) (As := [.int p1, .int p2, .int p3, .int p4]) (rest := [.int 0, .ref o1]) X K (kx_X3_addKey l hf0 G g ad bd sc tl tat tb cn cf sn sf tn tf vv ov p1 p2 p3 p4 _ hq) hd_X3_addKey gL_addKey_X3_addKey hP hD hS hA hs hl.1 dL_addKey_9 rfl rfl ⟨(Nat.le_of_ble_eq_true rfl), (Nat.le_of_ble_eq_true rfl)⟩ rfl rfl rfl (Nat.le_of_ble_eq_true rfl) ⟨(Nat.le_of_ble_eq_true rfl), (Nat.le_of_ble_eq_true rfl)⟩ (fun q ce w0 H locs hp0 hP hD hS hce hcv hcl => ?_)
    refine vx_catch (own := RL) (name := exN 1) hown [] (⟨0, 14, 17, 13⟩ : ExceptionTableEntry) [(⟨0, 14, 21, 15⟩ : ExceptionTableEntry), (⟨0, 14, 25, 17⟩ : ExceptionTableEntry)] (htab.trans rfl) (fun z hz => absurd hz List.not_mem_nil) (by decide) (by decide) (hts _ (List.mem_of_getElem? (i := 1) rfl)) (va_Nw.use rfl (hs.2.2.2.1 (exN 1) (by decide))) hce hcv hcl ?_
    refine lv_astore (lv' := [(6, .ref q), (0, .ref (ad 0)), (1, .int p1), (2, .int p2), (3, .int p3), (4, .int p4), (5, .ref o1)]) hx hb dL_addKey_17 hl (by decide) rfl (fun ls hl => ?_)
    refine lv_iconst (v := 1) hx hb dL_addKey_19 (by decide) ?_
    exact lx_iret hx hb hr hk (congrArg (fun z => (o1, .inl (g 4, 1, .inr (.inl fo))) :: z) hp0) hP hD hS dL_addKey_20
  · refine lv_aload hx hb dL_addKey_0 (lv_at hl 5 rfl) ?_
    refine lv_iconst (v := 0) hx hb dL_addKey_2 (by decide) ?_
    refine lv_aload_n hx hb dL_addKey_3 rfl (lv_at hl 0 rfl) ?_
    refine lv_iload_n hx hb dL_addKey_4 rfl (lv_at hl 1 rfl) ?_
    refine lv_iload_n hx hb dL_addKey_5 rfl (lv_at hl 2 rfl) ?_
    refine lv_iload_n hx hb dL_addKey_6 rfl (lv_at hl 3 rfl) ?_
    refine lv_iload hx hb dL_addKey_7 (lv_at hl 4 rfl) ?_
    refine lx_throw (wr := [(o1, .inl (g 4, 1, .inr (.inl fo)))]) (ci := 3) (As := [.int p1, .int p2, .int p3, .int p4]) (rest := [.int 0, .ref o1]) X K (kx_X3_addKey l hf0 G g ad bd sc tl tat tb cn cf sn sf tn tf vv ov p1 p2 p3 p4 _ hq) hd_X3_addKey gL_addKey_X3_addKey hP hD hS hA hs hl.1 dL_addKey_9 rfl rfl ⟨(Nat.le_of_ble_eq_true rfl), (Nat.le_of_ble_eq_true rfl)⟩ rfl rfl rfl (Nat.le_of_ble_eq_true rfl) ⟨(Nat.le_of_ble_eq_true rfl), (Nat.le_of_ble_eq_true rfl)⟩ (fun q ce w0 H locs hp0 hP hD hS hce hcv hcl => ?_)
    refine vx_catch (own := RL) (name := exN 2) hown [(⟨0, 14, 17, 13⟩ : ExceptionTableEntry)] (⟨0, 14, 21, 15⟩ : ExceptionTableEntry) [(⟨0, 14, 25, 17⟩ : ExceptionTableEntry)] (htab.trans rfl) (fun z hz => by
      rcases List.mem_cons.mp hz with rfl | hz
      · exact Or.inr ⟨by decide, exN 1, (hts _ (List.mem_of_getElem? (i := 1) rfl)), hnc (2, 1) (by decide)⟩
      exact absurd hz List.not_mem_nil) (by decide) (by decide) (hts _ (List.mem_of_getElem? (i := 2) rfl)) (va_Nw.use rfl (hs.2.2.2.1 (exN 2) (by decide))) hce hcv hcl ?_
    refine lv_astore (lv' := [(6, .ref q), (0, .ref (ad 0)), (1, .int p1), (2, .int p2), (3, .int p3), (4, .int p4), (5, .ref o1)]) hx hb dL_addKey_21 hl (by decide) rfl (fun ls hl => ?_)
    refine lv_iconst (v := 2) hx hb dL_addKey_23 (by decide) ?_
    exact lx_iret hx hb hr hk (congrArg (fun z => (o1, .inl (g 4, 1, .inr (.inl fo))) :: z) hp0) hP hD hS dL_addKey_24
  · refine lv_aload hx hb dL_addKey_0 (lv_at hl 5 rfl) ?_
    refine lv_iconst (v := 0) hx hb dL_addKey_2 (by decide) ?_
    refine lv_aload_n hx hb dL_addKey_3 rfl (lv_at hl 0 rfl) ?_
    refine lv_iload_n hx hb dL_addKey_4 rfl (lv_at hl 1 rfl) ?_
    refine lv_iload_n hx hb dL_addKey_5 rfl (lv_at hl 2 rfl) ?_
    refine lv_iload_n hx hb dL_addKey_6 rfl (lv_at hl 3 rfl) ?_
    refine lv_iload hx hb dL_addKey_7 (lv_at hl 4 rfl) ?_
    refine lx_throw (wr := [(o1, .inl (g 4, 1, .inr (.inl fo)))]) (ci := 3) (As := [.int p1, .int p2, .int p3, .int p4]) (rest := [.int 0, .ref o1]) X K (kx_X3_addKey l hf0 G g ad bd sc tl tat tb cn cf sn sf tn tf vv ov p1 p2 p3 p4 _ hq) hd_X3_addKey gL_addKey_X3_addKey hP hD hS hA hs hl.1 dL_addKey_9 rfl rfl ⟨(Nat.le_of_ble_eq_true rfl), (Nat.le_of_ble_eq_true rfl)⟩ rfl rfl rfl (Nat.le_of_ble_eq_true rfl) ⟨(Nat.le_of_ble_eq_true rfl), (Nat.le_of_ble_eq_true rfl)⟩ (fun q ce w0 H locs hp0 hP hD hS hce hcv hcl => ?_)
    refine vx_catch (own := RL) (name := exN 3) hown [(⟨0, 14, 17, 13⟩ : ExceptionTableEntry), (⟨0, 14, 21, 15⟩ : ExceptionTableEntry)] (⟨0, 14, 25, 17⟩ : ExceptionTableEntry) [] (htab.trans rfl) (fun z hz => by
      rcases List.mem_cons.mp hz with rfl | hz
      · exact Or.inr ⟨by decide, exN 1, (hts _ (List.mem_of_getElem? (i := 1) rfl)), hnc (3, 1) (by decide)⟩
      rcases List.mem_cons.mp hz with rfl | hz
      · exact Or.inr ⟨by decide, exN 2, (hts _ (List.mem_of_getElem? (i := 2) rfl)), hnc (3, 2) (by decide)⟩
      exact absurd hz List.not_mem_nil) (by decide) (by decide) (hts _ (List.mem_of_getElem? (i := 3) rfl)) (va_Nw.use rfl (hs.2.2.2.1 (exN 3) (by decide))) hce hcv hcl ?_
    refine lv_astore (lv' := [(6, .ref q), (0, .ref (ad 0)), (1, .int p1), (2, .int p2), (3, .int p3), (4, .int p4), (5, .ref o1)]) hx hb dL_addKey_25 hl (by decide) rfl (fun ls hl => ?_)
    refine lv_iconst (v := 3) hx hb dL_addKey_27 (by decide) ?_
    exact lx_iret hx hb hr hk (congrArg (fun z => (o1, .inl (g 4, 1, .inr (.inl fo))) :: z) hp0) hP hD hS dL_addKey_28
set_option maxHeartbeats 4000000 in
set_option maxRecDepth 100000 in
theorem kL_removeKey (l : Launch) (G : va_G) (g : Nat → ClassId) (ad : Nat → Nat) (bd : Nat → Nat → Nat) (sc : Int32) (tl : Int32) (tat : Int32) (tb : Nat → Int32) (cn : Nat → Int32) (cf : Nat → Nat → Int32) (sn : Nat → Nat → Int32) (sf : Nat → Nat → Nat → Int32) (tn : Int32) (tf : Nat → Int32) (vv : Nat → Int32) (ov : Nat → Int32) (o1 : Nat) (fo : Nat → Int64) (p1 : Int32) (p2 : Int32) (res : Int32 × (Nat → Nat → Nat) × Int32 × (Nat → Int32) × (Nat → Nat → Int32) × (Nat → Nat → Int32) × (Nat → Nat → Nat → Int32)) (hq : F_X3_removeKey bd sc cn cf sn sf p1 p2 = some (.inr res)) : lxC l yL_removeKey wsL_removeKey (rmX 8 134) G g [.ref (ad 0), .int p1, .int p2, .ref o1] ((o1, .inl (g 4, 1, .inr (.inl fo))) :: (wX g ad bd sc tl tat tb cn cf sn sf tn tf vv ov)) (some (.int 0)) (fun w => w = (o1, .inl (g 4, 1, .inr (.inl (vp_updL fo 0 (res.1.toInt64))))) :: (wX g ad res.2.1 res.2.2.1 tl tat tb res.2.2.2.1 res.2.2.2.2.1 res.2.2.2.2.2.1 res.2.2.2.2.2.2 tn tf vv ov)) := by
  refine lxC.of (cc := cL_removeKey) (maxL := 5) (ret := some .int) (by decide) rfl (Nat.le_of_ble_eq_true rfl) ?_
  intro p e s m below meth c ls A X K hA hP hD hS hs hnc htab hl
  obtain ⟨hx, hb, hml, hr, hown, hts, hk⟩ := id X
  have hl : lv_has ls 5 [(0, .ref (ad 0)), (1, .int p1), (2, .int p2), (3, .ref o1)] := hl
  refine lv_aload_n hx hb dL_removeKey_0 rfl (lv_at hl 3 rfl) ?_
  refine lv_iconst (v := 0) hx hb dL_removeKey_1 (by decide) ?_
  refine lv_aload_n hx hb dL_removeKey_2 rfl (lv_at hl 0 rfl) ?_
  refine lv_iload_n hx hb dL_removeKey_3 rfl (lv_at hl 1 rfl) ?_
  refine lv_iload_n hx hb dL_removeKey_4 rfl (lv_at hl 2 rfl) ?_
  refine rwVf (ci := 3) (As := [.int p1, .int p2]) (rest := [.int 0, .ref o1]) X K (k_X3_removeKey l G g ad bd sc tl tat tb cn cf sn sf tn tf vv ov p1 p2 _ hq) hd_X3_removeKey gL_removeKey_X3_removeKey hP hD hS hA foc_hd hl.1 dL_removeKey_5 rfl rfl ⟨(Nat.le_of_ble_eq_true rfl), (Nat.le_of_ble_eq_true rfl)⟩ rfl rfl rfl (Nat.le_of_ble_eq_true rfl) ⟨Nat.zero_le _, Nat.zero_le _⟩ (fun H locs hP hD hS => ?_)
  refine lv_i2l (v := res.1.toInt64) hx hb dL_removeKey_8 rfl ?_
  refine va_last hx hb K.1 hP hD hS 0 4 rfl rfl (vp_in_iff.mpr (by decide)) dL_removeKey_9 (fun H locs hP hD hS => ?_)
  have hP : va_P G vwCl ((o1, .inl (g 4, 1, .inr (.inl (vp_updL fo 0 (res.1.toInt64))))) :: (wX g ad res.2.1 res.2.2.1 tl tat tb res.2.2.2.1 res.2.2.2.2.1 res.2.2.2.2.2.1 res.2.2.2.2.2.2 tn tf vv ov)) H := hP
  have hD : va_D A ((o1, .inl (g 4, 1, .inr (.inl (vp_updL fo 0 (res.1.toInt64))))) :: (wX g ad res.2.1 res.2.2.1 tl tat tb res.2.2.2.1 res.2.2.2.2.1 res.2.2.2.2.2.1 res.2.2.2.2.2.2 tn tf vv ov)) := hD
  refine lv_goto (tgt := 21) hx hb dL_removeKey_10 (by decide) ?_
  refine lv_iconst (v := 0) hx hb dL_removeKey_21 (by decide) ?_
  refine W.widen (k := 1) (n := 6) (Nat.zero_le _) (Nat.zero_le _) ?_
  exact lx_iret hx hb hr hk rfl hP hD hS dL_removeKey_22
set_option maxHeartbeats 4000000 in
set_option maxRecDepth 100000 in
theorem kxL_removeKey (l : Launch) (hf0 : l.stackTraces = false) (G : va_G) (g : Nat → ClassId) (ad : Nat → Nat) (bd : Nat → Nat → Nat) (sc : Int32) (tl : Int32) (tat : Int32) (tb : Nat → Int32) (cn : Nat → Int32) (cf : Nat → Nat → Int32) (sn : Nat → Nat → Int32) (sf : Nat → Nat → Nat → Int32) (tn : Int32) (tf : Nat → Int32) (vv : Nat → Int32) (ov : Nat → Int32) (o1 : Nat) (fo : Nat → Int64) (p1 : Int32) (p2 : Int32) (t t' : Nat) (ht : t = 1 ∧ t' = 1 ∨ t = 3 ∧ t' = 2) (hq : F_X3_removeKey bd sc cn cf sn sf p1 p2 = some (.inl t)) : lxC l yL_removeKey wsL_removeKey (rmX 8 134) G g [.ref (ad 0), .int p1, .int p2, .ref o1] ((o1, .inl (g 4, 1, .inr (.inl fo))) :: (wX g ad bd sc tl tat tb cn cf sn sf tn tf vv ov)) (some (.int (nI t'))) (fun w => w = (o1, .inl (g 4, 1, .inr (.inl fo))) :: (wX g ad bd sc tl tat tb cn cf sn sf tn tf vv ov)) := by
  refine lxC.of (cc := cL_removeKey) (maxL := 5) (ret := some .int) (by decide) rfl (Nat.le_of_ble_eq_true rfl) ?_
  intro p e s m below meth c ls A X K hA hP hD hS hs hnc htab hl
  obtain ⟨hx, hb, hml, hr, hown, hts, hk⟩ := id X
  have hl : lv_has ls 5 [(0, .ref (ad 0)), (1, .int p1), (2, .int p2), (3, .ref o1)] := hl
  rcases (show t = 1 ∧ t' = 1 ∨ t = 3 ∧ t' = 2 by omega) with ⟨rfl, rfl⟩ | ⟨rfl, rfl⟩
  · refine lv_aload_n hx hb dL_removeKey_0 rfl (lv_at hl 3 rfl) ?_
    refine lv_iconst (v := 0) hx hb dL_removeKey_1 (by decide) ?_
    refine lv_aload_n hx hb dL_removeKey_2 rfl (lv_at hl 0 rfl) ?_
    refine lv_iload_n hx hb dL_removeKey_3 rfl (lv_at hl 1 rfl) ?_
    refine lv_iload_n hx hb dL_removeKey_4 rfl (lv_at hl 2 rfl) ?_
    refine lx_throw (wr := [(o1, .inl (g 4, 1, .inr (.inl fo)))]) (ci := 3) (As := [.int p1, .int p2]) (rest := [.int 0, .ref o1]) X K (kx_X3_removeKey l hf0 G g ad bd sc tl tat tb cn cf sn sf tn tf vv ov p1 p2 _ hq) hd_X3_removeKey gL_removeKey_X3_removeKey hP hD hS hA hs hl.1 dL_removeKey_5 rfl rfl ⟨(Nat.le_of_ble_eq_true rfl), (Nat.le_of_ble_eq_true rfl)⟩ rfl rfl rfl (Nat.le_of_ble_eq_true rfl) ⟨(Nat.le_of_ble_eq_true rfl), (Nat.le_of_ble_eq_true rfl)⟩ (fun q ce w0 H locs hp0 hP hD hS hce hcv hcl => ?_)
    refine vx_catch (own := RL) (name := exN 1) hown [] (⟨0, 10, 13, 13⟩ : ExceptionTableEntry) [(⟨0, 10, 17, 17⟩ : ExceptionTableEntry)] (htab.trans rfl) (fun z hz => absurd hz List.not_mem_nil) (by decide) (by decide) (hts _ (List.mem_of_getElem? (i := 1) rfl)) (va_Nw.use rfl (hs.2.2.2.1 (exN 1) (by decide))) hce hcv hcl ?_
    refine lv_astore (lv' := [(4, .ref q), (0, .ref (ad 0)), (1, .int p1), (2, .int p2), (3, .ref o1)]) hx hb dL_removeKey_13 hl (by decide) rfl (fun ls hl => ?_)
    refine lv_iconst (v := 1) hx hb dL_removeKey_15 (by decide) ?_
    exact lx_iret hx hb hr hk (congrArg (fun z => (o1, .inl (g 4, 1, .inr (.inl fo))) :: z) hp0) hP hD hS dL_removeKey_16
  · refine lv_aload_n hx hb dL_removeKey_0 rfl (lv_at hl 3 rfl) ?_
    refine lv_iconst (v := 0) hx hb dL_removeKey_1 (by decide) ?_
    refine lv_aload_n hx hb dL_removeKey_2 rfl (lv_at hl 0 rfl) ?_
    refine lv_iload_n hx hb dL_removeKey_3 rfl (lv_at hl 1 rfl) ?_
    refine lv_iload_n hx hb dL_removeKey_4 rfl (lv_at hl 2 rfl) ?_
    refine lx_throw (wr := [(o1, .inl (g 4, 1, .inr (.inl fo)))]) (ci := 3) (As := [.int p1, .int p2]) (rest := [.int 0, .ref o1]) X K (kx_X3_removeKey l hf0 G g ad bd sc tl tat tb cn cf sn sf tn tf vv ov p1 p2 _ hq) hd_X3_removeKey gL_removeKey_X3_removeKey hP hD hS hA hs hl.1 dL_removeKey_5 rfl rfl ⟨(Nat.le_of_ble_eq_true rfl), (Nat.le_of_ble_eq_true rfl)⟩ rfl rfl rfl (Nat.le_of_ble_eq_true rfl) ⟨(Nat.le_of_ble_eq_true rfl), (Nat.le_of_ble_eq_true rfl)⟩ (fun q ce w0 H locs hp0 hP hD hS hce hcv hcl => ?_)
    refine vx_catch (own := RL) (name := exN 3) hown [(⟨0, 10, 13, 13⟩ : ExceptionTableEntry)] (⟨0, 10, 17, 17⟩ : ExceptionTableEntry) [] (htab.trans rfl) (fun z hz => by
      rcases List.mem_cons.mp hz with rfl | hz
      · exact Or.inr ⟨by decide, exN 1, (hts _ (List.mem_of_getElem? (i := 1) rfl)), hnc (3, 1) (by decide)⟩
      exact absurd hz List.not_mem_nil) (by decide) (by decide) (hts _ (List.mem_of_getElem? (i := 2) rfl)) (va_Nw.use rfl (hs.2.2.2.1 (exN 3) (by decide))) hce hcv hcl ?_
    refine lv_astore (lv' := [(4, .ref q), (0, .ref (ad 0)), (1, .int p1), (2, .int p2), (3, .ref o1)]) hx hb dL_removeKey_17 hl (by decide) rfl (fun ls hl => ?_)
    refine lv_iconst (v := 2) hx hb dL_removeKey_19 (by decide) ?_
    exact lx_iret hx hb hr hk (congrArg (fun z => (o1, .inl (g 4, 1, .inr (.inl fo))) :: z) hp0) hP hD hS dL_removeKey_20
set_option maxHeartbeats 4000000 in
set_option maxRecDepth 100000 in
theorem kL_setKey (l : Launch) (G : va_G) (g : Nat → ClassId) (ad : Nat → Nat) (bd : Nat → Nat → Nat) (sc : Int32) (tl : Int32) (tat : Int32) (tb : Nat → Int32) (cn : Nat → Int32) (cf : Nat → Nat → Int32) (sn : Nat → Nat → Int32) (sf : Nat → Nat → Nat → Int32) (tn : Int32) (tf : Nat → Int32) (vv : Nat → Int32) (ov : Nat → Int32) (o1 : Nat) (fo : Nat → Int64) (p1 : Int32) (p2 : Int32) (p3 : Int32) (p4 : Int32) (res : Int32 × (Nat → Nat → Nat) × Int32 × (Nat → Nat → Int32) × (Nat → Nat → Int32) × (Nat → Nat → Nat → Int32)) (hq : F_X3_setKey bd sc cn cf sn sf p1 p2 p3 p4 = some (.inr res)) : lxC l yL_setKey wsL_setKey (rmX 8 138) G g [.ref (ad 0), .int p1, .int p2, .int p3, .int p4, .ref o1] ((o1, .inl (g 4, 1, .inr (.inl fo))) :: (wX g ad bd sc tl tat tb cn cf sn sf tn tf vv ov)) (some (.int 0)) (fun w => w = (o1, .inl (g 4, 1, .inr (.inl (vp_updL fo 0 (res.1.toInt64))))) :: (wX g ad res.2.1 res.2.2.1 tl tat tb cn res.2.2.2.1 res.2.2.2.2.1 res.2.2.2.2.2 tn tf vv ov)) := by
  refine lxC.of (cc := cL_setKey) (maxL := 7) (ret := some .int) (by decide) rfl (Nat.le_of_ble_eq_true rfl) ?_
  intro p e s m below meth c ls A X K hA hP hD hS hs hnc htab hl
  obtain ⟨hx, hb, hml, hr, hown, hts, hk⟩ := id X
  have hl : lv_has ls 7 [(0, .ref (ad 0)), (1, .int p1), (2, .int p2), (3, .int p3), (4, .int p4), (5, .ref o1)] := hl
  refine lv_aload hx hb dL_setKey_0 (lv_at hl 5 rfl) ?_
  refine lv_iconst (v := 0) hx hb dL_setKey_2 (by decide) ?_
  refine lv_aload_n hx hb dL_setKey_3 rfl (lv_at hl 0 rfl) ?_
  refine lv_iload_n hx hb dL_setKey_4 rfl (lv_at hl 1 rfl) ?_
  refine lv_iload_n hx hb dL_setKey_5 rfl (lv_at hl 2 rfl) ?_
  refine lv_iload_n hx hb dL_setKey_6 rfl (lv_at hl 3 rfl) ?_
  refine lv_iload hx hb dL_setKey_7 (lv_at hl 4 rfl) ?_
  refine rwVf (ci := 3) (As := [.int p1, .int p2, .int p3, .int p4]) (rest := [.int 0, .ref o1]) X K (k_X3_setKey l G g ad bd sc tl tat tb cn cf sn sf tn tf vv ov p1 p2 p3 p4 _ hq) hd_X3_setKey gL_setKey_X3_setKey hP hD hS hA foc_hd hl.1 dL_setKey_9 rfl rfl ⟨(Nat.le_of_ble_eq_true rfl), (Nat.le_of_ble_eq_true rfl)⟩ rfl rfl rfl (Nat.le_of_ble_eq_true rfl) ⟨Nat.zero_le _, Nat.zero_le _⟩ (fun H locs hP hD hS => ?_)
  refine lv_i2l (v := res.1.toInt64) hx hb dL_setKey_12 rfl ?_
  refine va_last hx hb K.1 hP hD hS 0 4 rfl rfl (vp_in_iff.mpr (by decide)) dL_setKey_13 (fun H locs hP hD hS => ?_)
  have hP : va_P G vwCl ((o1, .inl (g 4, 1, .inr (.inl (vp_updL fo 0 (res.1.toInt64))))) :: (wX g ad res.2.1 res.2.2.1 tl tat tb cn res.2.2.2.1 res.2.2.2.2.1 res.2.2.2.2.2 tn tf vv ov)) H := hP
  have hD : va_D A ((o1, .inl (g 4, 1, .inr (.inl (vp_updL fo 0 (res.1.toInt64))))) :: (wX g ad res.2.1 res.2.2.1 tl tat tb cn res.2.2.2.1 res.2.2.2.2.1 res.2.2.2.2.2 tn tf vv ov)) := hD
  refine lv_goto (tgt := 29) hx hb dL_setKey_14 (by decide) ?_
  refine lv_iconst (v := 0) hx hb dL_setKey_29 (by decide) ?_
  refine W.widen (k := 1) (n := 6) (Nat.zero_le _) (Nat.zero_le _) ?_
  exact lx_iret hx hb hr hk rfl hP hD hS dL_setKey_30
set_option maxHeartbeats 4000000 in
set_option maxRecDepth 100000 in
theorem kxL_setKey (l : Launch) (hf0 : l.stackTraces = false) (G : va_G) (g : Nat → ClassId) (ad : Nat → Nat) (bd : Nat → Nat → Nat) (sc : Int32) (tl : Int32) (tat : Int32) (tb : Nat → Int32) (cn : Nat → Int32) (cf : Nat → Nat → Int32) (sn : Nat → Nat → Int32) (sf : Nat → Nat → Nat → Int32) (tn : Int32) (tf : Nat → Int32) (vv : Nat → Int32) (ov : Nat → Int32) (o1 : Nat) (fo : Nat → Int64) (p1 : Int32) (p2 : Int32) (p3 : Int32) (p4 : Int32) (t t' : Nat) (ht : t < 4 ∧ 0 < t ∧ t' = t) (hq : F_X3_setKey bd sc cn cf sn sf p1 p2 p3 p4 = some (.inl t)) : lxC l yL_setKey wsL_setKey (rmX 8 138) G g [.ref (ad 0), .int p1, .int p2, .int p3, .int p4, .ref o1] ((o1, .inl (g 4, 1, .inr (.inl fo))) :: (wX g ad bd sc tl tat tb cn cf sn sf tn tf vv ov)) (some (.int (nI t'))) (fun w => w = (o1, .inl (g 4, 1, .inr (.inl fo))) :: (wX g ad bd sc tl tat tb cn cf sn sf tn tf vv ov)) := by
  refine lxC.of (cc := cL_setKey) (maxL := 7) (ret := some .int) (by decide) rfl (Nat.le_of_ble_eq_true rfl) ?_
  intro p e s m below meth c ls A X K hA hP hD hS hs hnc htab hl
  obtain ⟨hx, hb, hml, hr, hown, hts, hk⟩ := id X
  have hl : lv_has ls 7 [(0, .ref (ad 0)), (1, .int p1), (2, .int p2), (3, .int p3), (4, .int p4), (5, .ref o1)] := hl
  rcases (show t = 1 ∧ t' = 1 ∨ t = 2 ∧ t' = 2 ∨ t = 3 ∧ t' = 3 by omega) with ⟨rfl, rfl⟩ | ⟨rfl, rfl⟩ | ⟨rfl, rfl⟩
  · refine lv_aload hx hb dL_setKey_0 (lv_at hl 5 rfl) ?_
    refine lv_iconst (v := 0) hx hb dL_setKey_2 (by decide) ?_
    refine lv_aload_n hx hb dL_setKey_3 rfl (lv_at hl 0 rfl) ?_
    refine lv_iload_n hx hb dL_setKey_4 rfl (lv_at hl 1 rfl) ?_
    refine lv_iload_n hx hb dL_setKey_5 rfl (lv_at hl 2 rfl) ?_
    refine lv_iload_n hx hb dL_setKey_6 rfl (lv_at hl 3 rfl) ?_
    refine lv_iload hx hb dL_setKey_7 (lv_at hl 4 rfl) ?_
    refine lx_throw (wr := [(o1, .inl (g 4, 1, .inr (.inl fo)))]) (ci := 3) (As := [.int p1, .int p2, .int p3, .int p4]) (rest := [.int 0, .ref o1]) X K (kx_X3_setKey l hf0 G g ad bd sc tl tat tb cn cf sn sf tn tf vv ov p1 p2 p3 p4 _ hq) hd_X3_setKey gL_setKey_X3_setKey hP hD hS hA hs hl.1 dL_setKey_9 rfl rfl ⟨(Nat.le_of_ble_eq_true rfl), (Nat.le_of_ble_eq_true rfl)⟩ rfl rfl rfl (Nat.le_of_ble_eq_true rfl) ⟨(Nat.le_of_ble_eq_true rfl), (Nat.le_of_ble_eq_true rfl)⟩ (fun q ce w0 H locs hp0 hP hD hS hce hcv hcl => ?_)
    refine vx_catch (own := RL) (name := exN 1) hown [] (⟨0, 14, 17, 13⟩ : ExceptionTableEntry) [(⟨0, 14, 21, 15⟩ : ExceptionTableEntry), (⟨0, 14, 25, 17⟩ : ExceptionTableEntry)] (htab.trans rfl) (fun z hz => absurd hz List.not_mem_nil) (by decide) (by decide) (hts _ (List.mem_of_getElem? (i := 1) rfl)) (va_Nw.use rfl (hs.2.2.2.1 (exN 1) (by decide))) hce hcv hcl ?_
    refine lv_astore (lv' := [(6, .ref q), (0, .ref (ad 0)), (1, .int p1), (2, .int p2), (3, .int p3), (4, .int p4), (5, .ref o1)]) hx hb dL_setKey_17 hl (by decide) rfl (fun ls hl => ?_)
    refine lv_iconst (v := 1) hx hb dL_setKey_19 (by decide) ?_
    exact lx_iret hx hb hr hk (congrArg (fun z => (o1, .inl (g 4, 1, .inr (.inl fo))) :: z) hp0) hP hD hS dL_setKey_20
  · refine lv_aload hx hb dL_setKey_0 (lv_at hl 5 rfl) ?_
    refine lv_iconst (v := 0) hx hb dL_setKey_2 (by decide) ?_
    refine lv_aload_n hx hb dL_setKey_3 rfl (lv_at hl 0 rfl) ?_
    refine lv_iload_n hx hb dL_setKey_4 rfl (lv_at hl 1 rfl) ?_
    refine lv_iload_n hx hb dL_setKey_5 rfl (lv_at hl 2 rfl) ?_
    refine lv_iload_n hx hb dL_setKey_6 rfl (lv_at hl 3 rfl) ?_
    refine lv_iload hx hb dL_setKey_7 (lv_at hl 4 rfl) ?_
    refine lx_throw (wr := [(o1, .inl (g 4, 1, .inr (.inl fo)))]) (ci := 3) (As := [.int p1, .int p2, .int p3, .int p4]) (rest := [.int 0, .ref o1]) X K (kx_X3_setKey l hf0 G g ad bd sc tl tat tb cn cf sn sf tn tf vv ov p1 p2 p3 p4 _ hq) hd_X3_setKey gL_setKey_X3_setKey hP hD hS hA hs hl.1 dL_setKey_9 rfl rfl ⟨(Nat.le_of_ble_eq_true rfl), (Nat.le_of_ble_eq_true rfl)⟩ rfl rfl rfl (Nat.le_of_ble_eq_true rfl) ⟨(Nat.le_of_ble_eq_true rfl), (Nat.le_of_ble_eq_true rfl)⟩ (fun q ce w0 H locs hp0 hP hD hS hce hcv hcl => ?_)
    refine vx_catch (own := RL) (name := exN 2) hown [(⟨0, 14, 17, 13⟩ : ExceptionTableEntry)] (⟨0, 14, 21, 15⟩ : ExceptionTableEntry) [(⟨0, 14, 25, 17⟩ : ExceptionTableEntry)] (htab.trans rfl) (fun z hz => by
      rcases List.mem_cons.mp hz with rfl | hz
      · exact Or.inr ⟨by decide, exN 1, (hts _ (List.mem_of_getElem? (i := 1) rfl)), hnc (2, 1) (by decide)⟩
      exact absurd hz List.not_mem_nil) (by decide) (by decide) (hts _ (List.mem_of_getElem? (i := 2) rfl)) (va_Nw.use rfl (hs.2.2.2.1 (exN 2) (by decide))) hce hcv hcl ?_
    refine lv_astore (lv' := [(6, .ref q), (0, .ref (ad 0)), (1, .int p1), (2, .int p2), (3, .int p3), (4, .int p4), (5, .ref o1)]) hx hb dL_setKey_21 hl (by decide) rfl (fun ls hl => ?_)
    refine lv_iconst (v := 2) hx hb dL_setKey_23 (by decide) ?_
    exact lx_iret hx hb hr hk (congrArg (fun z => (o1, .inl (g 4, 1, .inr (.inl fo))) :: z) hp0) hP hD hS dL_setKey_24
  · refine lv_aload hx hb dL_setKey_0 (lv_at hl 5 rfl) ?_
    refine lv_iconst (v := 0) hx hb dL_setKey_2 (by decide) ?_
    refine lv_aload_n hx hb dL_setKey_3 rfl (lv_at hl 0 rfl) ?_
    refine lv_iload_n hx hb dL_setKey_4 rfl (lv_at hl 1 rfl) ?_
    refine lv_iload_n hx hb dL_setKey_5 rfl (lv_at hl 2 rfl) ?_
    refine lv_iload_n hx hb dL_setKey_6 rfl (lv_at hl 3 rfl) ?_
    refine lv_iload hx hb dL_setKey_7 (lv_at hl 4 rfl) ?_
    refine lx_throw (wr := [(o1, .inl (g 4, 1, .inr (.inl fo)))]) (ci := 3) (As := [.int p1, .int p2, .int p3, .int p4]) (rest := [.int 0, .ref o1]) X K (kx_X3_setKey l hf0 G g ad bd sc tl tat tb cn cf sn sf tn tf vv ov p1 p2 p3 p4 _ hq) hd_X3_setKey gL_setKey_X3_setKey hP hD hS hA hs hl.1 dL_setKey_9 rfl rfl ⟨(Nat.le_of_ble_eq_true rfl), (Nat.le_of_ble_eq_true rfl)⟩ rfl rfl rfl (Nat.le_of_ble_eq_true rfl) ⟨(Nat.le_of_ble_eq_true rfl), (Nat.le_of_ble_eq_true rfl)⟩ (fun q ce w0 H locs hp0 hP hD hS hce hcv hcl => ?_)
    refine vx_catch (own := RL) (name := exN 3) hown [(⟨0, 14, 17, 13⟩ : ExceptionTableEntry), (⟨0, 14, 21, 15⟩ : ExceptionTableEntry)] (⟨0, 14, 25, 17⟩ : ExceptionTableEntry) [] (htab.trans rfl) (fun z hz => by
      rcases List.mem_cons.mp hz with rfl | hz
      · exact Or.inr ⟨by decide, exN 1, (hts _ (List.mem_of_getElem? (i := 1) rfl)), hnc (3, 1) (by decide)⟩
      rcases List.mem_cons.mp hz with rfl | hz
      · exact Or.inr ⟨by decide, exN 2, (hts _ (List.mem_of_getElem? (i := 2) rfl)), hnc (3, 2) (by decide)⟩
      exact absurd hz List.not_mem_nil) (by decide) (by decide) (hts _ (List.mem_of_getElem? (i := 3) rfl)) (va_Nw.use rfl (hs.2.2.2.1 (exN 3) (by decide))) hce hcv hcl ?_
    refine lv_astore (lv' := [(6, .ref q), (0, .ref (ad 0)), (1, .int p1), (2, .int p2), (3, .int p3), (4, .int p4), (5, .ref o1)]) hx hb dL_setKey_25 hl (by decide) rfl (fun ls hl => ?_)
    refine lv_iconst (v := 3) hx hb dL_setKey_27 (by decide) ?_
    exact lx_iret hx hb hr hk (congrArg (fun z => (o1, .inl (g 4, 1, .inr (.inl fo))) :: z) hp0) hP hD hS dL_setKey_28
set_option maxHeartbeats 4000000 in
set_option maxRecDepth 100000 in
theorem kL_moveKey (l : Launch) (G : va_G) (g : Nat → ClassId) (ad : Nat → Nat) (bd : Nat → Nat → Nat) (sc : Int32) (tl : Int32) (tat : Int32) (tb : Nat → Int32) (cn : Nat → Int32) (cf : Nat → Nat → Int32) (sn : Nat → Nat → Int32) (sf : Nat → Nat → Nat → Int32) (tn : Int32) (tf : Nat → Int32) (vv : Nat → Int32) (ov : Nat → Int32) (o1 : Nat) (fo : Nat → Int64) (p1 : Int32) (p2 : Int32) (p3 : Int32) (res : Int32 × (Nat → Nat → Nat) × Int32 × (Nat → Int32) × (Nat → Nat → Int32) × (Nat → Nat → Int32) × (Nat → Nat → Nat → Int32)) (hq : F_X3_moveKey bd sc cn cf sn sf p1 p2 p3 = some (.inr res)) : lxC l yL_moveKey wsL_moveKey (rmX 8 137) G g [.ref (ad 0), .int p1, .int p2, .int p3, .ref o1] ((o1, .inl (g 4, 1, .inr (.inl fo))) :: (wX g ad bd sc tl tat tb cn cf sn sf tn tf vv ov)) (some (.int 0)) (fun w => w = (o1, .inl (g 4, 1, .inr (.inl (vp_updL fo 0 (res.1.toInt64))))) :: (wX g ad res.2.1 res.2.2.1 tl tat tb res.2.2.2.1 res.2.2.2.2.1 res.2.2.2.2.2.1 res.2.2.2.2.2.2 tn tf vv ov)) := by
  refine lxC.of (cc := cL_moveKey) (maxL := 6) (ret := some .int) (by decide) rfl (Nat.le_of_ble_eq_true rfl) ?_
  intro p e s m below meth c ls A X K hA hP hD hS hs hnc htab hl
  obtain ⟨hx, hb, hml, hr, hown, hts, hk⟩ := id X
  have hl : lv_has ls 6 [(0, .ref (ad 0)), (1, .int p1), (2, .int p2), (3, .int p3), (4, .ref o1)] := hl
  refine lv_aload hx hb dL_moveKey_0 (lv_at hl 4 rfl) ?_
  refine lv_iconst (v := 0) hx hb dL_moveKey_2 (by decide) ?_
  refine lv_aload_n hx hb dL_moveKey_3 rfl (lv_at hl 0 rfl) ?_
  refine lv_iload_n hx hb dL_moveKey_4 rfl (lv_at hl 1 rfl) ?_
  refine lv_iload_n hx hb dL_moveKey_5 rfl (lv_at hl 2 rfl) ?_
  refine lv_iload_n hx hb dL_moveKey_6 rfl (lv_at hl 3 rfl) ?_
  refine rwVf (ci := 3) (As := [.int p1, .int p2, .int p3]) (rest := [.int 0, .ref o1]) X K (k_X3_moveKey l G g ad bd sc tl tat tb cn cf sn sf tn tf vv ov p1 p2 p3 _ hq) hd_X3_moveKey gL_moveKey_X3_moveKey hP hD hS hA foc_hd hl.1 dL_moveKey_7 rfl rfl ⟨(Nat.le_of_ble_eq_true rfl), (Nat.le_of_ble_eq_true rfl)⟩ rfl rfl rfl (Nat.le_of_ble_eq_true rfl) ⟨Nat.zero_le _, Nat.zero_le _⟩ (fun H locs hP hD hS => ?_)
  refine lv_i2l (v := res.1.toInt64) hx hb dL_moveKey_10 rfl ?_
  refine va_last hx hb K.1 hP hD hS 0 4 rfl rfl (vp_in_iff.mpr (by decide)) dL_moveKey_11 (fun H locs hP hD hS => ?_)
  have hP : va_P G vwCl ((o1, .inl (g 4, 1, .inr (.inl (vp_updL fo 0 (res.1.toInt64))))) :: (wX g ad res.2.1 res.2.2.1 tl tat tb res.2.2.2.1 res.2.2.2.2.1 res.2.2.2.2.2.1 res.2.2.2.2.2.2 tn tf vv ov)) H := hP
  have hD : va_D A ((o1, .inl (g 4, 1, .inr (.inl (vp_updL fo 0 (res.1.toInt64))))) :: (wX g ad res.2.1 res.2.2.1 tl tat tb res.2.2.2.1 res.2.2.2.2.1 res.2.2.2.2.2.1 res.2.2.2.2.2.2 tn tf vv ov)) := hD
  refine lv_goto (tgt := 27) hx hb dL_moveKey_12 (by decide) ?_
  refine lv_iconst (v := 0) hx hb dL_moveKey_27 (by decide) ?_
  refine W.widen (k := 1) (n := 6) (Nat.zero_le _) (Nat.zero_le _) ?_
  exact lx_iret hx hb hr hk rfl hP hD hS dL_moveKey_28
set_option maxHeartbeats 4000000 in
set_option maxRecDepth 100000 in
theorem kxL_moveKey (l : Launch) (hf0 : l.stackTraces = false) (G : va_G) (g : Nat → ClassId) (ad : Nat → Nat) (bd : Nat → Nat → Nat) (sc : Int32) (tl : Int32) (tat : Int32) (tb : Nat → Int32) (cn : Nat → Int32) (cf : Nat → Nat → Int32) (sn : Nat → Nat → Int32) (sf : Nat → Nat → Nat → Int32) (tn : Int32) (tf : Nat → Int32) (vv : Nat → Int32) (ov : Nat → Int32) (o1 : Nat) (fo : Nat → Int64) (p1 : Int32) (p2 : Int32) (p3 : Int32) (t t' : Nat) (ht : t < 4 ∧ 0 < t ∧ t' = t) (hq : F_X3_moveKey bd sc cn cf sn sf p1 p2 p3 = some (.inl t)) : lxC l yL_moveKey wsL_moveKey (rmX 8 137) G g [.ref (ad 0), .int p1, .int p2, .int p3, .ref o1] ((o1, .inl (g 4, 1, .inr (.inl fo))) :: (wX g ad bd sc tl tat tb cn cf sn sf tn tf vv ov)) (some (.int (nI t'))) (fun w => w = (o1, .inl (g 4, 1, .inr (.inl fo))) :: (wX g ad bd sc tl tat tb cn cf sn sf tn tf vv ov)) := by
  refine lxC.of (cc := cL_moveKey) (maxL := 6) (ret := some .int) (by decide) rfl (Nat.le_of_ble_eq_true rfl) ?_
  intro p e s m below meth c ls A X K hA hP hD hS hs hnc htab hl
  obtain ⟨hx, hb, hml, hr, hown, hts, hk⟩ := id X
  have hl : lv_has ls 6 [(0, .ref (ad 0)), (1, .int p1), (2, .int p2), (3, .int p3), (4, .ref o1)] := hl
  rcases (show t = 1 ∧ t' = 1 ∨ t = 2 ∧ t' = 2 ∨ t = 3 ∧ t' = 3 by omega) with ⟨rfl, rfl⟩ | ⟨rfl, rfl⟩ | ⟨rfl, rfl⟩
  · refine lv_aload hx hb dL_moveKey_0 (lv_at hl 4 rfl) ?_
    refine lv_iconst (v := 0) hx hb dL_moveKey_2 (by decide) ?_
    refine lv_aload_n hx hb dL_moveKey_3 rfl (lv_at hl 0 rfl) ?_
    refine lv_iload_n hx hb dL_moveKey_4 rfl (lv_at hl 1 rfl) ?_
    refine lv_iload_n hx hb dL_moveKey_5 rfl (lv_at hl 2 rfl) ?_
    refine lv_iload_n hx hb dL_moveKey_6 rfl (lv_at hl 3 rfl) ?_
    refine lx_throw (wr := [(o1, .inl (g 4, 1, .inr (.inl fo)))]) (ci := 3) (As := [.int p1, .int p2, .int p3]) (rest := [.int 0, .ref o1]) X K (kx_X3_moveKey l hf0 G g ad bd sc tl tat tb cn cf sn sf tn tf vv ov p1 p2 p3 _ hq) hd_X3_moveKey gL_moveKey_X3_moveKey hP hD hS hA hs hl.1 dL_moveKey_7 rfl rfl ⟨(Nat.le_of_ble_eq_true rfl), (Nat.le_of_ble_eq_true rfl)⟩ rfl rfl rfl (Nat.le_of_ble_eq_true rfl) ⟨(Nat.le_of_ble_eq_true rfl), (Nat.le_of_ble_eq_true rfl)⟩ (fun q ce w0 H locs hp0 hP hD hS hce hcv hcl => ?_)
    refine vx_catch (own := RL) (name := exN 1) hown [] (⟨0, 12, 15, 13⟩ : ExceptionTableEntry) [(⟨0, 12, 19, 15⟩ : ExceptionTableEntry), (⟨0, 12, 23, 17⟩ : ExceptionTableEntry)] (htab.trans rfl) (fun z hz => absurd hz List.not_mem_nil) (by decide) (by decide) (hts _ (List.mem_of_getElem? (i := 1) rfl)) (va_Nw.use rfl (hs.2.2.2.1 (exN 1) (by decide))) hce hcv hcl ?_
    refine lv_astore (lv' := [(5, .ref q), (0, .ref (ad 0)), (1, .int p1), (2, .int p2), (3, .int p3), (4, .ref o1)]) hx hb dL_moveKey_15 hl (by decide) rfl (fun ls hl => ?_)
    refine lv_iconst (v := 1) hx hb dL_moveKey_17 (by decide) ?_
    exact lx_iret hx hb hr hk (congrArg (fun z => (o1, .inl (g 4, 1, .inr (.inl fo))) :: z) hp0) hP hD hS dL_moveKey_18
  · refine lv_aload hx hb dL_moveKey_0 (lv_at hl 4 rfl) ?_
    refine lv_iconst (v := 0) hx hb dL_moveKey_2 (by decide) ?_
    refine lv_aload_n hx hb dL_moveKey_3 rfl (lv_at hl 0 rfl) ?_
    refine lv_iload_n hx hb dL_moveKey_4 rfl (lv_at hl 1 rfl) ?_
    refine lv_iload_n hx hb dL_moveKey_5 rfl (lv_at hl 2 rfl) ?_
    refine lv_iload_n hx hb dL_moveKey_6 rfl (lv_at hl 3 rfl) ?_
    refine lx_throw (wr := [(o1, .inl (g 4, 1, .inr (.inl fo)))]) (ci := 3) (As := [.int p1, .int p2, .int p3]) (rest := [.int 0, .ref o1]) X K (kx_X3_moveKey l hf0 G g ad bd sc tl tat tb cn cf sn sf tn tf vv ov p1 p2 p3 _ hq) hd_X3_moveKey gL_moveKey_X3_moveKey hP hD hS hA hs hl.1 dL_moveKey_7 rfl rfl ⟨(Nat.le_of_ble_eq_true rfl), (Nat.le_of_ble_eq_true rfl)⟩ rfl rfl rfl (Nat.le_of_ble_eq_true rfl) ⟨(Nat.le_of_ble_eq_true rfl), (Nat.le_of_ble_eq_true rfl)⟩ (fun q ce w0 H locs hp0 hP hD hS hce hcv hcl => ?_)
    refine vx_catch (own := RL) (name := exN 2) hown [(⟨0, 12, 15, 13⟩ : ExceptionTableEntry)] (⟨0, 12, 19, 15⟩ : ExceptionTableEntry) [(⟨0, 12, 23, 17⟩ : ExceptionTableEntry)] (htab.trans rfl) (fun z hz => by
      rcases List.mem_cons.mp hz with rfl | hz
      · exact Or.inr ⟨by decide, exN 1, (hts _ (List.mem_of_getElem? (i := 1) rfl)), hnc (2, 1) (by decide)⟩
      exact absurd hz List.not_mem_nil) (by decide) (by decide) (hts _ (List.mem_of_getElem? (i := 2) rfl)) (va_Nw.use rfl (hs.2.2.2.1 (exN 2) (by decide))) hce hcv hcl ?_
    refine lv_astore (lv' := [(5, .ref q), (0, .ref (ad 0)), (1, .int p1), (2, .int p2), (3, .int p3), (4, .ref o1)]) hx hb dL_moveKey_19 hl (by decide) rfl (fun ls hl => ?_)
    refine lv_iconst (v := 2) hx hb dL_moveKey_21 (by decide) ?_
    exact lx_iret hx hb hr hk (congrArg (fun z => (o1, .inl (g 4, 1, .inr (.inl fo))) :: z) hp0) hP hD hS dL_moveKey_22
  · refine lv_aload hx hb dL_moveKey_0 (lv_at hl 4 rfl) ?_
    refine lv_iconst (v := 0) hx hb dL_moveKey_2 (by decide) ?_
    refine lv_aload_n hx hb dL_moveKey_3 rfl (lv_at hl 0 rfl) ?_
    refine lv_iload_n hx hb dL_moveKey_4 rfl (lv_at hl 1 rfl) ?_
    refine lv_iload_n hx hb dL_moveKey_5 rfl (lv_at hl 2 rfl) ?_
    refine lv_iload_n hx hb dL_moveKey_6 rfl (lv_at hl 3 rfl) ?_
    refine lx_throw (wr := [(o1, .inl (g 4, 1, .inr (.inl fo)))]) (ci := 3) (As := [.int p1, .int p2, .int p3]) (rest := [.int 0, .ref o1]) X K (kx_X3_moveKey l hf0 G g ad bd sc tl tat tb cn cf sn sf tn tf vv ov p1 p2 p3 _ hq) hd_X3_moveKey gL_moveKey_X3_moveKey hP hD hS hA hs hl.1 dL_moveKey_7 rfl rfl ⟨(Nat.le_of_ble_eq_true rfl), (Nat.le_of_ble_eq_true rfl)⟩ rfl rfl rfl (Nat.le_of_ble_eq_true rfl) ⟨(Nat.le_of_ble_eq_true rfl), (Nat.le_of_ble_eq_true rfl)⟩ (fun q ce w0 H locs hp0 hP hD hS hce hcv hcl => ?_)
    refine vx_catch (own := RL) (name := exN 3) hown [(⟨0, 12, 15, 13⟩ : ExceptionTableEntry), (⟨0, 12, 19, 15⟩ : ExceptionTableEntry)] (⟨0, 12, 23, 17⟩ : ExceptionTableEntry) [] (htab.trans rfl) (fun z hz => by
      rcases List.mem_cons.mp hz with rfl | hz
      · exact Or.inr ⟨by decide, exN 1, (hts _ (List.mem_of_getElem? (i := 1) rfl)), hnc (3, 1) (by decide)⟩
      rcases List.mem_cons.mp hz with rfl | hz
      · exact Or.inr ⟨by decide, exN 2, (hts _ (List.mem_of_getElem? (i := 2) rfl)), hnc (3, 2) (by decide)⟩
      exact absurd hz List.not_mem_nil) (by decide) (by decide) (hts _ (List.mem_of_getElem? (i := 3) rfl)) (va_Nw.use rfl (hs.2.2.2.1 (exN 3) (by decide))) hce hcv hcl ?_
    refine lv_astore (lv' := [(5, .ref q), (0, .ref (ad 0)), (1, .int p1), (2, .int p2), (3, .int p3), (4, .ref o1)]) hx hb dL_moveKey_23 hl (by decide) rfl (fun ls hl => ?_)
    refine lv_iconst (v := 3) hx hb dL_moveKey_25 (by decide) ?_
    exact lx_iret hx hb hr hk (congrArg (fun z => (o1, .inl (g 4, 1, .inr (.inl fo))) :: z) hp0) hP hD hS dL_moveKey_26
set_option maxHeartbeats 4000000 in
set_option maxRecDepth 100000 in
theorem kL_setTangent (l : Launch) (G : va_G) (g : Nat → ClassId) (ad : Nat → Nat) (bd : Nat → Nat → Nat) (sc : Int32) (tl : Int32) (tat : Int32) (tb : Nat → Int32) (cn : Nat → Int32) (cf : Nat → Nat → Int32) (sn : Nat → Nat → Int32) (sf : Nat → Nat → Nat → Int32) (tn : Int32) (tf : Nat → Int32) (vv : Nat → Int32) (ov : Nat → Int32) (o1 : Nat) (fo : Nat → Int64) (p1 : Int32) (p2 : Int32) (p3 : Int32) (p4 : Int32) (res : Int32 × (Nat → Nat → Nat) × Int32 × (Nat → Nat → Int32) × (Nat → Nat → Int32) × (Nat → Nat → Nat → Int32)) (hq : F_X3_setTangent bd sc cn cf sn sf p1 p2 p3 p4 = some (.inr res)) : lxC l yL_setTangent wsL_setTangent (rmX 8 138) G g [.ref (ad 0), .int p1, .int p2, .int p3, .int p4, .ref o1] ((o1, .inl (g 4, 1, .inr (.inl fo))) :: (wX g ad bd sc tl tat tb cn cf sn sf tn tf vv ov)) (some (.int 0)) (fun w => w = (o1, .inl (g 4, 1, .inr (.inl (vp_updL fo 0 (res.1.toInt64))))) :: (wX g ad res.2.1 res.2.2.1 tl tat tb cn res.2.2.2.1 res.2.2.2.2.1 res.2.2.2.2.2 tn tf vv ov)) := by
  refine lxC.of (cc := cL_setTangent) (maxL := 7) (ret := some .int) (by decide) rfl (Nat.le_of_ble_eq_true rfl) ?_
  intro p e s m below meth c ls A X K hA hP hD hS hs hnc htab hl
  obtain ⟨hx, hb, hml, hr, hown, hts, hk⟩ := id X
  have hl : lv_has ls 7 [(0, .ref (ad 0)), (1, .int p1), (2, .int p2), (3, .int p3), (4, .int p4), (5, .ref o1)] := hl
  refine lv_aload hx hb dL_setTangent_0 (lv_at hl 5 rfl) ?_
  refine lv_iconst (v := 0) hx hb dL_setTangent_2 (by decide) ?_
  refine lv_aload_n hx hb dL_setTangent_3 rfl (lv_at hl 0 rfl) ?_
  refine lv_iload_n hx hb dL_setTangent_4 rfl (lv_at hl 1 rfl) ?_
  refine lv_iload_n hx hb dL_setTangent_5 rfl (lv_at hl 2 rfl) ?_
  refine lv_iload_n hx hb dL_setTangent_6 rfl (lv_at hl 3 rfl) ?_
  refine lv_iload hx hb dL_setTangent_7 (lv_at hl 4 rfl) ?_
  refine rwVf (ci := 3) (As := [.int p1, .int p2, .int p3, .int p4]) (rest := [.int 0, .ref o1]) X K (k_X3_setTangent l G g ad bd sc tl tat tb cn cf sn sf tn tf vv ov p1 p2 p3 p4 _ hq) hd_X3_setTangent gL_setTangent_X3_setTangent hP hD hS hA foc_hd hl.1 dL_setTangent_9 rfl rfl ⟨(Nat.le_of_ble_eq_true rfl), (Nat.le_of_ble_eq_true rfl)⟩ rfl rfl rfl (Nat.le_of_ble_eq_true rfl) ⟨Nat.zero_le _, Nat.zero_le _⟩ (fun H locs hP hD hS => ?_)
  refine lv_i2l (v := res.1.toInt64) hx hb dL_setTangent_12 rfl ?_
  refine va_last hx hb K.1 hP hD hS 0 4 rfl rfl (vp_in_iff.mpr (by decide)) dL_setTangent_13 (fun H locs hP hD hS => ?_)
  have hP : va_P G vwCl ((o1, .inl (g 4, 1, .inr (.inl (vp_updL fo 0 (res.1.toInt64))))) :: (wX g ad res.2.1 res.2.2.1 tl tat tb cn res.2.2.2.1 res.2.2.2.2.1 res.2.2.2.2.2 tn tf vv ov)) H := hP
  have hD : va_D A ((o1, .inl (g 4, 1, .inr (.inl (vp_updL fo 0 (res.1.toInt64))))) :: (wX g ad res.2.1 res.2.2.1 tl tat tb cn res.2.2.2.1 res.2.2.2.2.1 res.2.2.2.2.2 tn tf vv ov)) := hD
  refine lv_goto (tgt := 29) hx hb dL_setTangent_14 (by decide) ?_
  refine lv_iconst (v := 0) hx hb dL_setTangent_29 (by decide) ?_
  refine W.widen (k := 1) (n := 6) (Nat.zero_le _) (Nat.zero_le _) ?_
  exact lx_iret hx hb hr hk rfl hP hD hS dL_setTangent_30
set_option maxHeartbeats 4000000 in
set_option maxRecDepth 100000 in
theorem kxL_setTangent (l : Launch) (hf0 : l.stackTraces = false) (G : va_G) (g : Nat → ClassId) (ad : Nat → Nat) (bd : Nat → Nat → Nat) (sc : Int32) (tl : Int32) (tat : Int32) (tb : Nat → Int32) (cn : Nat → Int32) (cf : Nat → Nat → Int32) (sn : Nat → Nat → Int32) (sf : Nat → Nat → Nat → Int32) (tn : Int32) (tf : Nat → Int32) (vv : Nat → Int32) (ov : Nat → Int32) (o1 : Nat) (fo : Nat → Int64) (p1 : Int32) (p2 : Int32) (p3 : Int32) (p4 : Int32) (t t' : Nat) (ht : t < 4 ∧ 0 < t ∧ t' = t) (hq : F_X3_setTangent bd sc cn cf sn sf p1 p2 p3 p4 = some (.inl t)) : lxC l yL_setTangent wsL_setTangent (rmX 8 138) G g [.ref (ad 0), .int p1, .int p2, .int p3, .int p4, .ref o1] ((o1, .inl (g 4, 1, .inr (.inl fo))) :: (wX g ad bd sc tl tat tb cn cf sn sf tn tf vv ov)) (some (.int (nI t'))) (fun w => w = (o1, .inl (g 4, 1, .inr (.inl fo))) :: (wX g ad bd sc tl tat tb cn cf sn sf tn tf vv ov)) := by
  refine lxC.of (cc := cL_setTangent) (maxL := 7) (ret := some .int) (by decide) rfl (Nat.le_of_ble_eq_true rfl) ?_
  intro p e s m below meth c ls A X K hA hP hD hS hs hnc htab hl
  obtain ⟨hx, hb, hml, hr, hown, hts, hk⟩ := id X
  have hl : lv_has ls 7 [(0, .ref (ad 0)), (1, .int p1), (2, .int p2), (3, .int p3), (4, .int p4), (5, .ref o1)] := hl
  rcases (show t = 1 ∧ t' = 1 ∨ t = 2 ∧ t' = 2 ∨ t = 3 ∧ t' = 3 by omega) with ⟨rfl, rfl⟩ | ⟨rfl, rfl⟩ | ⟨rfl, rfl⟩
  · refine lv_aload hx hb dL_setTangent_0 (lv_at hl 5 rfl) ?_
    refine lv_iconst (v := 0) hx hb dL_setTangent_2 (by decide) ?_
    refine lv_aload_n hx hb dL_setTangent_3 rfl (lv_at hl 0 rfl) ?_
    refine lv_iload_n hx hb dL_setTangent_4 rfl (lv_at hl 1 rfl) ?_
    refine lv_iload_n hx hb dL_setTangent_5 rfl (lv_at hl 2 rfl) ?_
    refine lv_iload_n hx hb dL_setTangent_6 rfl (lv_at hl 3 rfl) ?_
    refine lv_iload hx hb dL_setTangent_7 (lv_at hl 4 rfl) ?_
    refine lx_throw (wr := [(o1, .inl (g 4, 1, .inr (.inl fo)))]) (ci := 3) (As := [.int p1, .int p2, .int p3, .int p4]) (rest := [.int 0, .ref o1]) X K (kx_X3_setTangent l hf0 G g ad bd sc tl tat tb cn cf sn sf tn tf vv ov p1 p2 p3 p4 _ hq) hd_X3_setTangent gL_setTangent_X3_setTangent hP hD hS hA hs hl.1 dL_setTangent_9 rfl rfl ⟨(Nat.le_of_ble_eq_true rfl), (Nat.le_of_ble_eq_true rfl)⟩ rfl rfl rfl (Nat.le_of_ble_eq_true rfl) ⟨(Nat.le_of_ble_eq_true rfl), (Nat.le_of_ble_eq_true rfl)⟩ (fun q ce w0 H locs hp0 hP hD hS hce hcv hcl => ?_)
    refine vx_catch (own := RL) (name := exN 1) hown [] (⟨0, 14, 17, 13⟩ : ExceptionTableEntry) [(⟨0, 14, 21, 15⟩ : ExceptionTableEntry), (⟨0, 14, 25, 17⟩ : ExceptionTableEntry)] (htab.trans rfl) (fun z hz => absurd hz List.not_mem_nil) (by decide) (by decide) (hts _ (List.mem_of_getElem? (i := 1) rfl)) (va_Nw.use rfl (hs.2.2.2.1 (exN 1) (by decide))) hce hcv hcl ?_
    refine lv_astore (lv' := [(6, .ref q), (0, .ref (ad 0)), (1, .int p1), (2, .int p2), (3, .int p3), (4, .int p4), (5, .ref o1)]) hx hb dL_setTangent_17 hl (by decide) rfl (fun ls hl => ?_)
    refine lv_iconst (v := 1) hx hb dL_setTangent_19 (by decide) ?_
    exact lx_iret hx hb hr hk (congrArg (fun z => (o1, .inl (g 4, 1, .inr (.inl fo))) :: z) hp0) hP hD hS dL_setTangent_20
  · refine lv_aload hx hb dL_setTangent_0 (lv_at hl 5 rfl) ?_
    refine lv_iconst (v := 0) hx hb dL_setTangent_2 (by decide) ?_
    refine lv_aload_n hx hb dL_setTangent_3 rfl (lv_at hl 0 rfl) ?_
    refine lv_iload_n hx hb dL_setTangent_4 rfl (lv_at hl 1 rfl) ?_
    refine lv_iload_n hx hb dL_setTangent_5 rfl (lv_at hl 2 rfl) ?_
    refine lv_iload_n hx hb dL_setTangent_6 rfl (lv_at hl 3 rfl) ?_
    refine lv_iload hx hb dL_setTangent_7 (lv_at hl 4 rfl) ?_
    refine lx_throw (wr := [(o1, .inl (g 4, 1, .inr (.inl fo)))]) (ci := 3) (As := [.int p1, .int p2, .int p3, .int p4]) (rest := [.int 0, .ref o1]) X K (kx_X3_setTangent l hf0 G g ad bd sc tl tat tb cn cf sn sf tn tf vv ov p1 p2 p3 p4 _ hq) hd_X3_setTangent gL_setTangent_X3_setTangent hP hD hS hA hs hl.1 dL_setTangent_9 rfl rfl ⟨(Nat.le_of_ble_eq_true rfl), (Nat.le_of_ble_eq_true rfl)⟩ rfl rfl rfl (Nat.le_of_ble_eq_true rfl) ⟨(Nat.le_of_ble_eq_true rfl), (Nat.le_of_ble_eq_true rfl)⟩ (fun q ce w0 H locs hp0 hP hD hS hce hcv hcl => ?_)
    refine vx_catch (own := RL) (name := exN 2) hown [(⟨0, 14, 17, 13⟩ : ExceptionTableEntry)] (⟨0, 14, 21, 15⟩ : ExceptionTableEntry) [(⟨0, 14, 25, 17⟩ : ExceptionTableEntry)] (htab.trans rfl) (fun z hz => by
      rcases List.mem_cons.mp hz with rfl | hz
      · exact Or.inr ⟨by decide, exN 1, (hts _ (List.mem_of_getElem? (i := 1) rfl)), hnc (2, 1) (by decide)⟩
      exact absurd hz List.not_mem_nil) (by decide) (by decide) (hts _ (List.mem_of_getElem? (i := 2) rfl)) (va_Nw.use rfl (hs.2.2.2.1 (exN 2) (by decide))) hce hcv hcl ?_
    refine lv_astore (lv' := [(6, .ref q), (0, .ref (ad 0)), (1, .int p1), (2, .int p2), (3, .int p3), (4, .int p4), (5, .ref o1)]) hx hb dL_setTangent_21 hl (by decide) rfl (fun ls hl => ?_)
    refine lv_iconst (v := 2) hx hb dL_setTangent_23 (by decide) ?_
    exact lx_iret hx hb hr hk (congrArg (fun z => (o1, .inl (g 4, 1, .inr (.inl fo))) :: z) hp0) hP hD hS dL_setTangent_24
  · refine lv_aload hx hb dL_setTangent_0 (lv_at hl 5 rfl) ?_
    refine lv_iconst (v := 0) hx hb dL_setTangent_2 (by decide) ?_
    refine lv_aload_n hx hb dL_setTangent_3 rfl (lv_at hl 0 rfl) ?_
    refine lv_iload_n hx hb dL_setTangent_4 rfl (lv_at hl 1 rfl) ?_
    refine lv_iload_n hx hb dL_setTangent_5 rfl (lv_at hl 2 rfl) ?_
    refine lv_iload_n hx hb dL_setTangent_6 rfl (lv_at hl 3 rfl) ?_
    refine lv_iload hx hb dL_setTangent_7 (lv_at hl 4 rfl) ?_
    refine lx_throw (wr := [(o1, .inl (g 4, 1, .inr (.inl fo)))]) (ci := 3) (As := [.int p1, .int p2, .int p3, .int p4]) (rest := [.int 0, .ref o1]) X K (kx_X3_setTangent l hf0 G g ad bd sc tl tat tb cn cf sn sf tn tf vv ov p1 p2 p3 p4 _ hq) hd_X3_setTangent gL_setTangent_X3_setTangent hP hD hS hA hs hl.1 dL_setTangent_9 rfl rfl ⟨(Nat.le_of_ble_eq_true rfl), (Nat.le_of_ble_eq_true rfl)⟩ rfl rfl rfl (Nat.le_of_ble_eq_true rfl) ⟨(Nat.le_of_ble_eq_true rfl), (Nat.le_of_ble_eq_true rfl)⟩ (fun q ce w0 H locs hp0 hP hD hS hce hcv hcl => ?_)
    refine vx_catch (own := RL) (name := exN 3) hown [(⟨0, 14, 17, 13⟩ : ExceptionTableEntry), (⟨0, 14, 21, 15⟩ : ExceptionTableEntry)] (⟨0, 14, 25, 17⟩ : ExceptionTableEntry) [] (htab.trans rfl) (fun z hz => by
      rcases List.mem_cons.mp hz with rfl | hz
      · exact Or.inr ⟨by decide, exN 1, (hts _ (List.mem_of_getElem? (i := 1) rfl)), hnc (3, 1) (by decide)⟩
      rcases List.mem_cons.mp hz with rfl | hz
      · exact Or.inr ⟨by decide, exN 2, (hts _ (List.mem_of_getElem? (i := 2) rfl)), hnc (3, 2) (by decide)⟩
      exact absurd hz List.not_mem_nil) (by decide) (by decide) (hts _ (List.mem_of_getElem? (i := 3) rfl)) (va_Nw.use rfl (hs.2.2.2.1 (exN 3) (by decide))) hce hcv hcl ?_
    refine lv_astore (lv' := [(6, .ref q), (0, .ref (ad 0)), (1, .int p1), (2, .int p2), (3, .int p3), (4, .int p4), (5, .ref o1)]) hx hb dL_setTangent_25 hl (by decide) rfl (fun ls hl => ?_)
    refine lv_iconst (v := 3) hx hb dL_setTangent_27 (by decide) ?_
    exact lx_iret hx hb hr hk (congrArg (fun z => (o1, .inl (g 4, 1, .inr (.inl fo))) :: z) hp0) hP hD hS dL_setTangent_28
set_option maxHeartbeats 4000000 in
set_option maxRecDepth 100000 in
theorem kL_lock (l : Launch) (G : va_G) (g : Nat → ClassId) (ad : Nat → Nat) (bd : Nat → Nat → Nat) (sc : Int32) (tl : Int32) (tat : Int32) (tb : Nat → Int32) (cn : Nat → Int32) (cf : Nat → Nat → Int32) (sn : Nat → Nat → Int32) (sf : Nat → Nat → Nat → Int32) (tn : Int32) (tf : Nat → Int32) (vv : Nat → Int32) (ov : Nat → Int32) (o1 : Nat) (fo : Nat → Int64) (p1 : Int32) (p2 : Int32) (p3 : Int32) (res : Int32 × (Nat → Nat → Nat) × Int32 × (Nat → Nat → Int32) × (Nat → Nat → Int32) × (Nat → Nat → Nat → Int32)) (hq : F_X3_lock bd sc cn cf sn sf p1 p2 p3 = some (.inr res)) : lxC l yL_lock wsL_lock (rmX 8 136) G g [.ref (ad 0), .int p1, .int p2, .int p3, .ref o1] ((o1, .inl (g 4, 1, .inr (.inl fo))) :: (wX g ad bd sc tl tat tb cn cf sn sf tn tf vv ov)) (some (.int 0)) (fun w => w = (o1, .inl (g 4, 1, .inr (.inl (vp_updL fo 0 (res.1.toInt64))))) :: (wX g ad res.2.1 res.2.2.1 tl tat tb cn res.2.2.2.1 res.2.2.2.2.1 res.2.2.2.2.2 tn tf vv ov)) := by
  refine lxC.of (cc := cL_lock) (maxL := 6) (ret := some .int) (by decide) rfl (Nat.le_of_ble_eq_true rfl) ?_
  intro p e s m below meth c ls A X K hA hP hD hS hs hnc htab hl
  obtain ⟨hx, hb, hml, hr, hown, hts, hk⟩ := id X
  have hl : lv_has ls 6 [(0, .ref (ad 0)), (1, .int p1), (2, .int p2), (3, .int p3), (4, .ref o1)] := hl
  refine lv_aload hx hb dL_lock_0 (lv_at hl 4 rfl) ?_
  refine lv_iconst (v := 0) hx hb dL_lock_2 (by decide) ?_
  refine lv_aload_n hx hb dL_lock_3 rfl (lv_at hl 0 rfl) ?_
  refine lv_iload_n hx hb dL_lock_4 rfl (lv_at hl 1 rfl) ?_
  refine lv_iload_n hx hb dL_lock_5 rfl (lv_at hl 2 rfl) ?_
  refine lv_iload_n hx hb dL_lock_6 rfl (lv_at hl 3 rfl) ?_
  refine rwVf (ci := 3) (As := [.int p1, .int p2, .int p3]) (rest := [.int 0, .ref o1]) X K (k_X3_lock l G g ad bd sc tl tat tb cn cf sn sf tn tf vv ov p1 p2 p3 _ hq) hd_X3_lock gL_lock_X3_lock hP hD hS hA foc_hd hl.1 dL_lock_7 rfl rfl ⟨(Nat.le_of_ble_eq_true rfl), (Nat.le_of_ble_eq_true rfl)⟩ rfl rfl rfl (Nat.le_of_ble_eq_true rfl) ⟨Nat.zero_le _, Nat.zero_le _⟩ (fun H locs hP hD hS => ?_)
  refine lv_i2l (v := res.1.toInt64) hx hb dL_lock_10 rfl ?_
  refine va_last hx hb K.1 hP hD hS 0 4 rfl rfl (vp_in_iff.mpr (by decide)) dL_lock_11 (fun H locs hP hD hS => ?_)
  have hP : va_P G vwCl ((o1, .inl (g 4, 1, .inr (.inl (vp_updL fo 0 (res.1.toInt64))))) :: (wX g ad res.2.1 res.2.2.1 tl tat tb cn res.2.2.2.1 res.2.2.2.2.1 res.2.2.2.2.2 tn tf vv ov)) H := hP
  have hD : va_D A ((o1, .inl (g 4, 1, .inr (.inl (vp_updL fo 0 (res.1.toInt64))))) :: (wX g ad res.2.1 res.2.2.1 tl tat tb cn res.2.2.2.1 res.2.2.2.2.1 res.2.2.2.2.2 tn tf vv ov)) := hD
  refine lv_goto (tgt := 19) hx hb dL_lock_12 (by decide) ?_
  refine lv_iconst (v := 0) hx hb dL_lock_19 (by decide) ?_
  refine W.widen (k := 1) (n := 6) (Nat.zero_le _) (Nat.zero_le _) ?_
  exact lx_iret hx hb hr hk rfl hP hD hS dL_lock_20
set_option maxHeartbeats 4000000 in
set_option maxRecDepth 100000 in
theorem kxL_lock (l : Launch) (hf0 : l.stackTraces = false) (G : va_G) (g : Nat → ClassId) (ad : Nat → Nat) (bd : Nat → Nat → Nat) (sc : Int32) (tl : Int32) (tat : Int32) (tb : Nat → Int32) (cn : Nat → Int32) (cf : Nat → Nat → Int32) (sn : Nat → Nat → Int32) (sf : Nat → Nat → Nat → Int32) (tn : Int32) (tf : Nat → Int32) (vv : Nat → Int32) (ov : Nat → Int32) (o1 : Nat) (fo : Nat → Int64) (p1 : Int32) (p2 : Int32) (p3 : Int32) (t t' : Nat) (ht : t = 1 ∧ t' = 1) (hq : F_X3_lock bd sc cn cf sn sf p1 p2 p3 = some (.inl t)) : lxC l yL_lock wsL_lock (rmX 8 136) G g [.ref (ad 0), .int p1, .int p2, .int p3, .ref o1] ((o1, .inl (g 4, 1, .inr (.inl fo))) :: (wX g ad bd sc tl tat tb cn cf sn sf tn tf vv ov)) (some (.int (nI t'))) (fun w => w = (o1, .inl (g 4, 1, .inr (.inl fo))) :: (wX g ad bd sc tl tat tb cn cf sn sf tn tf vv ov)) := by
  refine lxC.of (cc := cL_lock) (maxL := 6) (ret := some .int) (by decide) rfl (Nat.le_of_ble_eq_true rfl) ?_
  intro p e s m below meth c ls A X K hA hP hD hS hs hnc htab hl
  obtain ⟨hx, hb, hml, hr, hown, hts, hk⟩ := id X
  have hl : lv_has ls 6 [(0, .ref (ad 0)), (1, .int p1), (2, .int p2), (3, .int p3), (4, .ref o1)] := hl
  obtain ⟨rfl, rfl⟩ := ht
  refine lv_aload hx hb dL_lock_0 (lv_at hl 4 rfl) ?_
  refine lv_iconst (v := 0) hx hb dL_lock_2 (by decide) ?_
  refine lv_aload_n hx hb dL_lock_3 rfl (lv_at hl 0 rfl) ?_
  refine lv_iload_n hx hb dL_lock_4 rfl (lv_at hl 1 rfl) ?_
  refine lv_iload_n hx hb dL_lock_5 rfl (lv_at hl 2 rfl) ?_
  refine lv_iload_n hx hb dL_lock_6 rfl (lv_at hl 3 rfl) ?_
  refine lx_throw (wr := [(o1, .inl (g 4, 1, .inr (.inl fo)))]) (ci := 3) (As := [.int p1, .int p2, .int p3]) (rest := [.int 0, .ref o1]) X K (kx_X3_lock l hf0 G g ad bd sc tl tat tb cn cf sn sf tn tf vv ov p1 p2 p3 _ hq) hd_X3_lock gL_lock_X3_lock hP hD hS hA hs hl.1 dL_lock_7 rfl rfl ⟨(Nat.le_of_ble_eq_true rfl), (Nat.le_of_ble_eq_true rfl)⟩ rfl rfl rfl (Nat.le_of_ble_eq_true rfl) ⟨(Nat.le_of_ble_eq_true rfl), (Nat.le_of_ble_eq_true rfl)⟩ (fun q ce w0 H locs hp0 hP hD hS hce hcv hcl => ?_)
  refine vx_catch (own := RL) (name := exN 1) hown [] (⟨0, 12, 15, 13⟩ : ExceptionTableEntry) [] (htab.trans rfl) (fun z hz => absurd hz List.not_mem_nil) (by decide) (by decide) (hts _ (List.mem_of_getElem? (i := 1) rfl)) (va_Nw.use rfl (hs.2.2.2.1 (exN 1) (by decide))) hce hcv hcl ?_
  refine lv_astore (lv' := [(5, .ref q), (0, .ref (ad 0)), (1, .int p1), (2, .int p2), (3, .int p3), (4, .ref o1)]) hx hb dL_lock_15 hl (by decide) rfl (fun ls hl => ?_)
  refine lv_iconst (v := 1) hx hb dL_lock_17 (by decide) ?_
  exact lx_iret hx hb hr hk (congrArg (fun z => (o1, .inl (g 4, 1, .inr (.inl fo))) :: z) hp0) hP hD hS dL_lock_18
set_option maxHeartbeats 4000000 in
set_option maxRecDepth 100000 in
theorem kL_stretch (l : Launch) (G : va_G) (g : Nat → ClassId) (ad : Nat → Nat) (bd : Nat → Nat → Nat) (sc : Int32) (tl : Int32) (tat : Int32) (tb : Nat → Int32) (cn : Nat → Int32) (cf : Nat → Nat → Int32) (sn : Nat → Nat → Int32) (sf : Nat → Nat → Nat → Int32) (tn : Int32) (tf : Nat → Int32) (vv : Nat → Int32) (ov : Nat → Int32) (o1 : Nat) (fo : Nat → Int64) (p1 : Int32) (p2 : Int32) (p3 : Int32) (p4 : Int32) (res : Int32 × (Nat → Nat → Nat) × Int32 × (Nat → Nat → Int32) × (Nat → Nat → Int32) × (Nat → Nat → Nat → Int32)) (hq : F_X3_stretch bd sc cn cf sn sf p1 p2 p3 p4 = some (.inr res)) : lxC l yL_stretch wsL_stretch (rmX 9 158) G g [.ref (ad 0), .int p1, .int p2, .int p3, .int p4, .ref o1] ((o1, .inl (g 4, 1, .inr (.inl fo))) :: (wX g ad bd sc tl tat tb cn cf sn sf tn tf vv ov)) (some (.int 0)) (fun w => w = (o1, .inl (g 4, 1, .inr (.inl (vp_updL fo 0 (res.1.toInt64))))) :: (wX g ad res.2.1 res.2.2.1 tl tat tb cn res.2.2.2.1 res.2.2.2.2.1 res.2.2.2.2.2 tn tf vv ov)) := by
  refine lxC.of (cc := cL_stretch) (maxL := 7) (ret := some .int) (by decide) rfl (Nat.le_of_ble_eq_true rfl) ?_
  intro p e s m below meth c ls A X K hA hP hD hS hs hnc htab hl
  obtain ⟨hx, hb, hml, hr, hown, hts, hk⟩ := id X
  have hl : lv_has ls 7 [(0, .ref (ad 0)), (1, .int p1), (2, .int p2), (3, .int p3), (4, .int p4), (5, .ref o1)] := hl
  refine lv_aload hx hb dL_stretch_0 (lv_at hl 5 rfl) ?_
  refine lv_iconst (v := 0) hx hb dL_stretch_2 (by decide) ?_
  refine lv_aload_n hx hb dL_stretch_3 rfl (lv_at hl 0 rfl) ?_
  refine lv_iload_n hx hb dL_stretch_4 rfl (lv_at hl 1 rfl) ?_
  refine lv_iload_n hx hb dL_stretch_5 rfl (lv_at hl 2 rfl) ?_
  refine lv_iload_n hx hb dL_stretch_6 rfl (lv_at hl 3 rfl) ?_
  refine lv_iload hx hb dL_stretch_7 (lv_at hl 4 rfl) ?_
  refine rwVf (ci := 3) (As := [.int p1, .int p2, .int p3, .int p4]) (rest := [.int 0, .ref o1]) X K (k_X3_stretch l G g ad bd sc tl tat tb cn cf sn sf tn tf vv ov p1 p2 p3 p4 _ hq) hd_X3_stretch gL_stretch_X3_stretch hP hD hS hA foc_hd hl.1 dL_stretch_9 rfl rfl ⟨(Nat.le_of_ble_eq_true rfl), (Nat.le_of_ble_eq_true rfl)⟩ rfl rfl rfl (Nat.le_of_ble_eq_true rfl) ⟨Nat.zero_le _, Nat.zero_le _⟩ (fun H locs hP hD hS => ?_)
  refine lv_i2l (v := res.1.toInt64) hx hb dL_stretch_12 rfl ?_
  refine va_last hx hb K.1 hP hD hS 0 4 rfl rfl (vp_in_iff.mpr (by decide)) dL_stretch_13 (fun H locs hP hD hS => ?_)
  have hP : va_P G vwCl ((o1, .inl (g 4, 1, .inr (.inl (vp_updL fo 0 (res.1.toInt64))))) :: (wX g ad res.2.1 res.2.2.1 tl tat tb cn res.2.2.2.1 res.2.2.2.2.1 res.2.2.2.2.2 tn tf vv ov)) H := hP
  have hD : va_D A ((o1, .inl (g 4, 1, .inr (.inl (vp_updL fo 0 (res.1.toInt64))))) :: (wX g ad res.2.1 res.2.2.1 tl tat tb cn res.2.2.2.1 res.2.2.2.2.1 res.2.2.2.2.2 tn tf vv ov)) := hD
  refine lv_goto (tgt := 29) hx hb dL_stretch_14 (by decide) ?_
  refine lv_iconst (v := 0) hx hb dL_stretch_29 (by decide) ?_
  refine W.widen (k := 1) (n := 6) (Nat.zero_le _) (Nat.zero_le _) ?_
  exact lx_iret hx hb hr hk rfl hP hD hS dL_stretch_30
set_option maxHeartbeats 4000000 in
set_option maxRecDepth 100000 in
theorem kxL_stretch (l : Launch) (hf0 : l.stackTraces = false) (G : va_G) (g : Nat → ClassId) (ad : Nat → Nat) (bd : Nat → Nat → Nat) (sc : Int32) (tl : Int32) (tat : Int32) (tb : Nat → Int32) (cn : Nat → Int32) (cf : Nat → Nat → Int32) (sn : Nat → Nat → Int32) (sf : Nat → Nat → Nat → Int32) (tn : Int32) (tf : Nat → Int32) (vv : Nat → Int32) (ov : Nat → Int32) (o1 : Nat) (fo : Nat → Int64) (p1 : Int32) (p2 : Int32) (p3 : Int32) (p4 : Int32) (t t' : Nat) (ht : t < 4 ∧ 0 < t ∧ t' = t) (hq : F_X3_stretch bd sc cn cf sn sf p1 p2 p3 p4 = some (.inl t)) : lxC l yL_stretch wsL_stretch (rmX 9 158) G g [.ref (ad 0), .int p1, .int p2, .int p3, .int p4, .ref o1] ((o1, .inl (g 4, 1, .inr (.inl fo))) :: (wX g ad bd sc tl tat tb cn cf sn sf tn tf vv ov)) (some (.int (nI t'))) (fun w => w = (o1, .inl (g 4, 1, .inr (.inl fo))) :: (wX g ad bd sc tl tat tb cn cf sn sf tn tf vv ov)) := by
  refine lxC.of (cc := cL_stretch) (maxL := 7) (ret := some .int) (by decide) rfl (Nat.le_of_ble_eq_true rfl) ?_
  intro p e s m below meth c ls A X K hA hP hD hS hs hnc htab hl
  obtain ⟨hx, hb, hml, hr, hown, hts, hk⟩ := id X
  have hl : lv_has ls 7 [(0, .ref (ad 0)), (1, .int p1), (2, .int p2), (3, .int p3), (4, .int p4), (5, .ref o1)] := hl
  rcases (show t = 1 ∧ t' = 1 ∨ t = 2 ∧ t' = 2 ∨ t = 3 ∧ t' = 3 by omega) with ⟨rfl, rfl⟩ | ⟨rfl, rfl⟩ | ⟨rfl, rfl⟩
  · refine lv_aload hx hb dL_stretch_0 (lv_at hl 5 rfl) ?_
    refine lv_iconst (v := 0) hx hb dL_stretch_2 (by decide) ?_
    refine lv_aload_n hx hb dL_stretch_3 rfl (lv_at hl 0 rfl) ?_
    refine lv_iload_n hx hb dL_stretch_4 rfl (lv_at hl 1 rfl) ?_
    refine lv_iload_n hx hb dL_stretch_5 rfl (lv_at hl 2 rfl) ?_
    refine lv_iload_n hx hb dL_stretch_6 rfl (lv_at hl 3 rfl) ?_
    refine lv_iload hx hb dL_stretch_7 (lv_at hl 4 rfl) ?_
    refine lx_throw (wr := [(o1, .inl (g 4, 1, .inr (.inl fo)))]) (ci := 3) (As := [.int p1, .int p2, .int p3, .int p4]) (rest := [.int 0, .ref o1]) X K (kx_X3_stretch l hf0 G g ad bd sc tl tat tb cn cf sn sf tn tf vv ov p1 p2 p3 p4 _ hq) hd_X3_stretch gL_stretch_X3_stretch hP hD hS hA hs hl.1 dL_stretch_9 rfl rfl ⟨(Nat.le_of_ble_eq_true rfl), (Nat.le_of_ble_eq_true rfl)⟩ rfl rfl rfl (Nat.le_of_ble_eq_true rfl) ⟨(Nat.le_of_ble_eq_true rfl), (Nat.le_of_ble_eq_true rfl)⟩ (fun q ce w0 H locs hp0 hP hD hS hce hcv hcl => ?_)
    refine vx_catch (own := RL) (name := exN 1) hown [] (⟨0, 14, 17, 13⟩ : ExceptionTableEntry) [(⟨0, 14, 21, 15⟩ : ExceptionTableEntry), (⟨0, 14, 25, 17⟩ : ExceptionTableEntry)] (htab.trans rfl) (fun z hz => absurd hz List.not_mem_nil) (by decide) (by decide) (hts _ (List.mem_of_getElem? (i := 1) rfl)) (va_Nw.use rfl (hs.2.2.2.1 (exN 1) (by decide))) hce hcv hcl ?_
    refine lv_astore (lv' := [(6, .ref q), (0, .ref (ad 0)), (1, .int p1), (2, .int p2), (3, .int p3), (4, .int p4), (5, .ref o1)]) hx hb dL_stretch_17 hl (by decide) rfl (fun ls hl => ?_)
    refine lv_iconst (v := 1) hx hb dL_stretch_19 (by decide) ?_
    exact lx_iret hx hb hr hk (congrArg (fun z => (o1, .inl (g 4, 1, .inr (.inl fo))) :: z) hp0) hP hD hS dL_stretch_20
  · refine lv_aload hx hb dL_stretch_0 (lv_at hl 5 rfl) ?_
    refine lv_iconst (v := 0) hx hb dL_stretch_2 (by decide) ?_
    refine lv_aload_n hx hb dL_stretch_3 rfl (lv_at hl 0 rfl) ?_
    refine lv_iload_n hx hb dL_stretch_4 rfl (lv_at hl 1 rfl) ?_
    refine lv_iload_n hx hb dL_stretch_5 rfl (lv_at hl 2 rfl) ?_
    refine lv_iload_n hx hb dL_stretch_6 rfl (lv_at hl 3 rfl) ?_
    refine lv_iload hx hb dL_stretch_7 (lv_at hl 4 rfl) ?_
    refine lx_throw (wr := [(o1, .inl (g 4, 1, .inr (.inl fo)))]) (ci := 3) (As := [.int p1, .int p2, .int p3, .int p4]) (rest := [.int 0, .ref o1]) X K (kx_X3_stretch l hf0 G g ad bd sc tl tat tb cn cf sn sf tn tf vv ov p1 p2 p3 p4 _ hq) hd_X3_stretch gL_stretch_X3_stretch hP hD hS hA hs hl.1 dL_stretch_9 rfl rfl ⟨(Nat.le_of_ble_eq_true rfl), (Nat.le_of_ble_eq_true rfl)⟩ rfl rfl rfl (Nat.le_of_ble_eq_true rfl) ⟨(Nat.le_of_ble_eq_true rfl), (Nat.le_of_ble_eq_true rfl)⟩ (fun q ce w0 H locs hp0 hP hD hS hce hcv hcl => ?_)
    refine vx_catch (own := RL) (name := exN 2) hown [(⟨0, 14, 17, 13⟩ : ExceptionTableEntry)] (⟨0, 14, 21, 15⟩ : ExceptionTableEntry) [(⟨0, 14, 25, 17⟩ : ExceptionTableEntry)] (htab.trans rfl) (fun z hz => by
      rcases List.mem_cons.mp hz with rfl | hz
      · exact Or.inr ⟨by decide, exN 1, (hts _ (List.mem_of_getElem? (i := 1) rfl)), hnc (2, 1) (by decide)⟩
      exact absurd hz List.not_mem_nil) (by decide) (by decide) (hts _ (List.mem_of_getElem? (i := 2) rfl)) (va_Nw.use rfl (hs.2.2.2.1 (exN 2) (by decide))) hce hcv hcl ?_
    refine lv_astore (lv' := [(6, .ref q), (0, .ref (ad 0)), (1, .int p1), (2, .int p2), (3, .int p3), (4, .int p4), (5, .ref o1)]) hx hb dL_stretch_21 hl (by decide) rfl (fun ls hl => ?_)
    refine lv_iconst (v := 2) hx hb dL_stretch_23 (by decide) ?_
    exact lx_iret hx hb hr hk (congrArg (fun z => (o1, .inl (g 4, 1, .inr (.inl fo))) :: z) hp0) hP hD hS dL_stretch_24
  · refine lv_aload hx hb dL_stretch_0 (lv_at hl 5 rfl) ?_
    refine lv_iconst (v := 0) hx hb dL_stretch_2 (by decide) ?_
    refine lv_aload_n hx hb dL_stretch_3 rfl (lv_at hl 0 rfl) ?_
    refine lv_iload_n hx hb dL_stretch_4 rfl (lv_at hl 1 rfl) ?_
    refine lv_iload_n hx hb dL_stretch_5 rfl (lv_at hl 2 rfl) ?_
    refine lv_iload_n hx hb dL_stretch_6 rfl (lv_at hl 3 rfl) ?_
    refine lv_iload hx hb dL_stretch_7 (lv_at hl 4 rfl) ?_
    refine lx_throw (wr := [(o1, .inl (g 4, 1, .inr (.inl fo)))]) (ci := 3) (As := [.int p1, .int p2, .int p3, .int p4]) (rest := [.int 0, .ref o1]) X K (kx_X3_stretch l hf0 G g ad bd sc tl tat tb cn cf sn sf tn tf vv ov p1 p2 p3 p4 _ hq) hd_X3_stretch gL_stretch_X3_stretch hP hD hS hA hs hl.1 dL_stretch_9 rfl rfl ⟨(Nat.le_of_ble_eq_true rfl), (Nat.le_of_ble_eq_true rfl)⟩ rfl rfl rfl (Nat.le_of_ble_eq_true rfl) ⟨(Nat.le_of_ble_eq_true rfl), (Nat.le_of_ble_eq_true rfl)⟩ (fun q ce w0 H locs hp0 hP hD hS hce hcv hcl => ?_)
    refine vx_catch (own := RL) (name := exN 3) hown [(⟨0, 14, 17, 13⟩ : ExceptionTableEntry), (⟨0, 14, 21, 15⟩ : ExceptionTableEntry)] (⟨0, 14, 25, 17⟩ : ExceptionTableEntry) [] (htab.trans rfl) (fun z hz => by
      rcases List.mem_cons.mp hz with rfl | hz
      · exact Or.inr ⟨by decide, exN 1, (hts _ (List.mem_of_getElem? (i := 1) rfl)), hnc (3, 1) (by decide)⟩
      rcases List.mem_cons.mp hz with rfl | hz
      · exact Or.inr ⟨by decide, exN 2, (hts _ (List.mem_of_getElem? (i := 2) rfl)), hnc (3, 2) (by decide)⟩
      exact absurd hz List.not_mem_nil) (by decide) (by decide) (hts _ (List.mem_of_getElem? (i := 3) rfl)) (va_Nw.use rfl (hs.2.2.2.1 (exN 3) (by decide))) hce hcv hcl ?_
    refine lv_astore (lv' := [(6, .ref q), (0, .ref (ad 0)), (1, .int p1), (2, .int p2), (3, .int p3), (4, .int p4), (5, .ref o1)]) hx hb dL_stretch_25 hl (by decide) rfl (fun ls hl => ?_)
    refine lv_iconst (v := 3) hx hb dL_stretch_27 (by decide) ?_
    exact lx_iret hx hb hr hk (congrArg (fun z => (o1, .inl (g 4, 1, .inr (.inl fo))) :: z) hp0) hP hD hS dL_stretch_28
set_option maxHeartbeats 4000000 in
set_option maxRecDepth 100000 in
theorem kL_copy (l : Launch) (G : va_G) (g : Nat → ClassId) (ad : Nat → Nat) (bd : Nat → Nat → Nat) (sc : Int32) (tl : Int32) (tat : Int32) (tb : Nat → Int32) (cn : Nat → Int32) (cf : Nat → Nat → Int32) (sn : Nat → Nat → Int32) (sf : Nat → Nat → Nat → Int32) (tn : Int32) (tf : Nat → Int32) (vv : Nat → Int32) (ov : Nat → Int32) (o1 : Nat) (fo : Nat → Int64) (p1 : Int32) (p2 : Int32) (p3 : Int32) (res : Int32 × (Nat → Nat → Nat) × Int32 × (Nat → Int32) × (Nat → Nat → Int32) × (Nat → Nat → Int32) × (Nat → Nat → Nat → Int32)) (hq : F_X3_copy bd sc cn cf sn sf p1 p2 p3 = some (.inr res)) : lxC l yL_copy wsL_copy (rmX 8 137) G g [.ref (ad 0), .int p1, .int p2, .int p3, .ref o1] ((o1, .inl (g 4, 1, .inr (.inl fo))) :: (wX g ad bd sc tl tat tb cn cf sn sf tn tf vv ov)) (some (.int 0)) (fun w => w = (o1, .inl (g 4, 1, .inr (.inl (vp_updL fo 0 (res.1.toInt64))))) :: (wX g ad res.2.1 res.2.2.1 tl tat tb res.2.2.2.1 res.2.2.2.2.1 res.2.2.2.2.2.1 res.2.2.2.2.2.2 tn tf vv ov)) := by
  refine lxC.of (cc := cL_copy) (maxL := 6) (ret := some .int) (by decide) rfl (Nat.le_of_ble_eq_true rfl) ?_
  intro p e s m below meth c ls A X K hA hP hD hS hs hnc htab hl
  obtain ⟨hx, hb, hml, hr, hown, hts, hk⟩ := id X
  have hl : lv_has ls 6 [(0, .ref (ad 0)), (1, .int p1), (2, .int p2), (3, .int p3), (4, .ref o1)] := hl
  refine lv_aload hx hb dL_copy_0 (lv_at hl 4 rfl) ?_
  refine lv_iconst (v := 0) hx hb dL_copy_2 (by decide) ?_
  refine lv_aload_n hx hb dL_copy_3 rfl (lv_at hl 0 rfl) ?_
  refine lv_iload_n hx hb dL_copy_4 rfl (lv_at hl 1 rfl) ?_
  refine lv_iload_n hx hb dL_copy_5 rfl (lv_at hl 2 rfl) ?_
  refine lv_iload_n hx hb dL_copy_6 rfl (lv_at hl 3 rfl) ?_
  refine rwVf (ci := 3) (As := [.int p1, .int p2, .int p3]) (rest := [.int 0, .ref o1]) X K (k_X3_copy l G g ad bd sc tl tat tb cn cf sn sf tn tf vv ov p1 p2 p3 _ hq) hd_X3_copy gL_copy_X3_copy hP hD hS hA foc_hd hl.1 dL_copy_7 rfl rfl ⟨(Nat.le_of_ble_eq_true rfl), (Nat.le_of_ble_eq_true rfl)⟩ rfl rfl rfl (Nat.le_of_ble_eq_true rfl) ⟨Nat.zero_le _, Nat.zero_le _⟩ (fun H locs hP hD hS => ?_)
  refine lv_i2l (v := res.1.toInt64) hx hb dL_copy_10 rfl ?_
  refine va_last hx hb K.1 hP hD hS 0 4 rfl rfl (vp_in_iff.mpr (by decide)) dL_copy_11 (fun H locs hP hD hS => ?_)
  have hP : va_P G vwCl ((o1, .inl (g 4, 1, .inr (.inl (vp_updL fo 0 (res.1.toInt64))))) :: (wX g ad res.2.1 res.2.2.1 tl tat tb res.2.2.2.1 res.2.2.2.2.1 res.2.2.2.2.2.1 res.2.2.2.2.2.2 tn tf vv ov)) H := hP
  have hD : va_D A ((o1, .inl (g 4, 1, .inr (.inl (vp_updL fo 0 (res.1.toInt64))))) :: (wX g ad res.2.1 res.2.2.1 tl tat tb res.2.2.2.1 res.2.2.2.2.1 res.2.2.2.2.2.1 res.2.2.2.2.2.2 tn tf vv ov)) := hD
  refine lv_goto (tgt := 27) hx hb dL_copy_12 (by decide) ?_
  refine lv_iconst (v := 0) hx hb dL_copy_27 (by decide) ?_
  refine W.widen (k := 1) (n := 6) (Nat.zero_le _) (Nat.zero_le _) ?_
  exact lx_iret hx hb hr hk rfl hP hD hS dL_copy_28
set_option maxHeartbeats 4000000 in
set_option maxRecDepth 100000 in
theorem kxL_copy (l : Launch) (hf0 : l.stackTraces = false) (G : va_G) (g : Nat → ClassId) (ad : Nat → Nat) (bd : Nat → Nat → Nat) (sc : Int32) (tl : Int32) (tat : Int32) (tb : Nat → Int32) (cn : Nat → Int32) (cf : Nat → Nat → Int32) (sn : Nat → Nat → Int32) (sf : Nat → Nat → Nat → Int32) (tn : Int32) (tf : Nat → Int32) (vv : Nat → Int32) (ov : Nat → Int32) (o1 : Nat) (fo : Nat → Int64) (p1 : Int32) (p2 : Int32) (p3 : Int32) (t t' : Nat) (ht : t < 4 ∧ 0 < t ∧ t' = t) (hq : F_X3_copy bd sc cn cf sn sf p1 p2 p3 = some (.inl t)) : lxC l yL_copy wsL_copy (rmX 8 137) G g [.ref (ad 0), .int p1, .int p2, .int p3, .ref o1] ((o1, .inl (g 4, 1, .inr (.inl fo))) :: (wX g ad bd sc tl tat tb cn cf sn sf tn tf vv ov)) (some (.int (nI t'))) (fun w => w = (o1, .inl (g 4, 1, .inr (.inl fo))) :: (wX g ad bd sc tl tat tb cn cf sn sf tn tf vv ov)) := by
  refine lxC.of (cc := cL_copy) (maxL := 6) (ret := some .int) (by decide) rfl (Nat.le_of_ble_eq_true rfl) ?_
  intro p e s m below meth c ls A X K hA hP hD hS hs hnc htab hl
  obtain ⟨hx, hb, hml, hr, hown, hts, hk⟩ := id X
  have hl : lv_has ls 6 [(0, .ref (ad 0)), (1, .int p1), (2, .int p2), (3, .int p3), (4, .ref o1)] := hl
  rcases (show t = 1 ∧ t' = 1 ∨ t = 2 ∧ t' = 2 ∨ t = 3 ∧ t' = 3 by omega) with ⟨rfl, rfl⟩ | ⟨rfl, rfl⟩ | ⟨rfl, rfl⟩
  · refine lv_aload hx hb dL_copy_0 (lv_at hl 4 rfl) ?_
    refine lv_iconst (v := 0) hx hb dL_copy_2 (by decide) ?_
    refine lv_aload_n hx hb dL_copy_3 rfl (lv_at hl 0 rfl) ?_
    refine lv_iload_n hx hb dL_copy_4 rfl (lv_at hl 1 rfl) ?_
    refine lv_iload_n hx hb dL_copy_5 rfl (lv_at hl 2 rfl) ?_
    refine lv_iload_n hx hb dL_copy_6 rfl (lv_at hl 3 rfl) ?_
    refine lx_throw (wr := [(o1, .inl (g 4, 1, .inr (.inl fo)))]) (ci := 3) (As := [.int p1, .int p2, .int p3]) (rest := [.int 0, .ref o1]) X K (kx_X3_copy l hf0 G g ad bd sc tl tat tb cn cf sn sf tn tf vv ov p1 p2 p3 _ hq) hd_X3_copy gL_copy_X3_copy hP hD hS hA hs hl.1 dL_copy_7 rfl rfl ⟨(Nat.le_of_ble_eq_true rfl), (Nat.le_of_ble_eq_true rfl)⟩ rfl rfl rfl (Nat.le_of_ble_eq_true rfl) ⟨(Nat.le_of_ble_eq_true rfl), (Nat.le_of_ble_eq_true rfl)⟩ (fun q ce w0 H locs hp0 hP hD hS hce hcv hcl => ?_)
    refine vx_catch (own := RL) (name := exN 1) hown [] (⟨0, 12, 15, 13⟩ : ExceptionTableEntry) [(⟨0, 12, 19, 15⟩ : ExceptionTableEntry), (⟨0, 12, 23, 17⟩ : ExceptionTableEntry)] (htab.trans rfl) (fun z hz => absurd hz List.not_mem_nil) (by decide) (by decide) (hts _ (List.mem_of_getElem? (i := 1) rfl)) (va_Nw.use rfl (hs.2.2.2.1 (exN 1) (by decide))) hce hcv hcl ?_
    refine lv_astore (lv' := [(5, .ref q), (0, .ref (ad 0)), (1, .int p1), (2, .int p2), (3, .int p3), (4, .ref o1)]) hx hb dL_copy_15 hl (by decide) rfl (fun ls hl => ?_)
    refine lv_iconst (v := 1) hx hb dL_copy_17 (by decide) ?_
    exact lx_iret hx hb hr hk (congrArg (fun z => (o1, .inl (g 4, 1, .inr (.inl fo))) :: z) hp0) hP hD hS dL_copy_18
  · refine lv_aload hx hb dL_copy_0 (lv_at hl 4 rfl) ?_
    refine lv_iconst (v := 0) hx hb dL_copy_2 (by decide) ?_
    refine lv_aload_n hx hb dL_copy_3 rfl (lv_at hl 0 rfl) ?_
    refine lv_iload_n hx hb dL_copy_4 rfl (lv_at hl 1 rfl) ?_
    refine lv_iload_n hx hb dL_copy_5 rfl (lv_at hl 2 rfl) ?_
    refine lv_iload_n hx hb dL_copy_6 rfl (lv_at hl 3 rfl) ?_
    refine lx_throw (wr := [(o1, .inl (g 4, 1, .inr (.inl fo)))]) (ci := 3) (As := [.int p1, .int p2, .int p3]) (rest := [.int 0, .ref o1]) X K (kx_X3_copy l hf0 G g ad bd sc tl tat tb cn cf sn sf tn tf vv ov p1 p2 p3 _ hq) hd_X3_copy gL_copy_X3_copy hP hD hS hA hs hl.1 dL_copy_7 rfl rfl ⟨(Nat.le_of_ble_eq_true rfl), (Nat.le_of_ble_eq_true rfl)⟩ rfl rfl rfl (Nat.le_of_ble_eq_true rfl) ⟨(Nat.le_of_ble_eq_true rfl), (Nat.le_of_ble_eq_true rfl)⟩ (fun q ce w0 H locs hp0 hP hD hS hce hcv hcl => ?_)
    refine vx_catch (own := RL) (name := exN 2) hown [(⟨0, 12, 15, 13⟩ : ExceptionTableEntry)] (⟨0, 12, 19, 15⟩ : ExceptionTableEntry) [(⟨0, 12, 23, 17⟩ : ExceptionTableEntry)] (htab.trans rfl) (fun z hz => by
      rcases List.mem_cons.mp hz with rfl | hz
      · exact Or.inr ⟨by decide, exN 1, (hts _ (List.mem_of_getElem? (i := 1) rfl)), hnc (2, 1) (by decide)⟩
      exact absurd hz List.not_mem_nil) (by decide) (by decide) (hts _ (List.mem_of_getElem? (i := 2) rfl)) (va_Nw.use rfl (hs.2.2.2.1 (exN 2) (by decide))) hce hcv hcl ?_
    refine lv_astore (lv' := [(5, .ref q), (0, .ref (ad 0)), (1, .int p1), (2, .int p2), (3, .int p3), (4, .ref o1)]) hx hb dL_copy_19 hl (by decide) rfl (fun ls hl => ?_)
    refine lv_iconst (v := 2) hx hb dL_copy_21 (by decide) ?_
    exact lx_iret hx hb hr hk (congrArg (fun z => (o1, .inl (g 4, 1, .inr (.inl fo))) :: z) hp0) hP hD hS dL_copy_22
  · refine lv_aload hx hb dL_copy_0 (lv_at hl 4 rfl) ?_
    refine lv_iconst (v := 0) hx hb dL_copy_2 (by decide) ?_
    refine lv_aload_n hx hb dL_copy_3 rfl (lv_at hl 0 rfl) ?_
    refine lv_iload_n hx hb dL_copy_4 rfl (lv_at hl 1 rfl) ?_
    refine lv_iload_n hx hb dL_copy_5 rfl (lv_at hl 2 rfl) ?_
    refine lv_iload_n hx hb dL_copy_6 rfl (lv_at hl 3 rfl) ?_
    refine lx_throw (wr := [(o1, .inl (g 4, 1, .inr (.inl fo)))]) (ci := 3) (As := [.int p1, .int p2, .int p3]) (rest := [.int 0, .ref o1]) X K (kx_X3_copy l hf0 G g ad bd sc tl tat tb cn cf sn sf tn tf vv ov p1 p2 p3 _ hq) hd_X3_copy gL_copy_X3_copy hP hD hS hA hs hl.1 dL_copy_7 rfl rfl ⟨(Nat.le_of_ble_eq_true rfl), (Nat.le_of_ble_eq_true rfl)⟩ rfl rfl rfl (Nat.le_of_ble_eq_true rfl) ⟨(Nat.le_of_ble_eq_true rfl), (Nat.le_of_ble_eq_true rfl)⟩ (fun q ce w0 H locs hp0 hP hD hS hce hcv hcl => ?_)
    refine vx_catch (own := RL) (name := exN 3) hown [(⟨0, 12, 15, 13⟩ : ExceptionTableEntry), (⟨0, 12, 19, 15⟩ : ExceptionTableEntry)] (⟨0, 12, 23, 17⟩ : ExceptionTableEntry) [] (htab.trans rfl) (fun z hz => by
      rcases List.mem_cons.mp hz with rfl | hz
      · exact Or.inr ⟨by decide, exN 1, (hts _ (List.mem_of_getElem? (i := 1) rfl)), hnc (3, 1) (by decide)⟩
      rcases List.mem_cons.mp hz with rfl | hz
      · exact Or.inr ⟨by decide, exN 2, (hts _ (List.mem_of_getElem? (i := 2) rfl)), hnc (3, 2) (by decide)⟩
      exact absurd hz List.not_mem_nil) (by decide) (by decide) (hts _ (List.mem_of_getElem? (i := 3) rfl)) (va_Nw.use rfl (hs.2.2.2.1 (exN 3) (by decide))) hce hcv hcl ?_
    refine lv_astore (lv' := [(5, .ref q), (0, .ref (ad 0)), (1, .int p1), (2, .int p2), (3, .int p3), (4, .ref o1)]) hx hb dL_copy_23 hl (by decide) rfl (fun ls hl => ?_)
    refine lv_iconst (v := 3) hx hb dL_copy_25 (by decide) ?_
    exact lx_iret hx hb hr hk (congrArg (fun z => (o1, .inl (g 4, 1, .inr (.inl fo))) :: z) hp0) hP hD hS dL_copy_26
set_option maxHeartbeats 4000000 in
set_option maxRecDepth 100000 in
theorem kL_reduce (l : Launch) (G : va_G) (g : Nat → ClassId) (ad : Nat → Nat) (bd : Nat → Nat → Nat) (sc : Int32) (tl : Int32) (tat : Int32) (tb : Nat → Int32) (cn : Nat → Int32) (cf : Nat → Nat → Int32) (sn : Nat → Nat → Int32) (sf : Nat → Nat → Nat → Int32) (tn : Int32) (tf : Nat → Int32) (vv : Nat → Int32) (ov : Nat → Int32) (o1 : Nat) (fo : Nat → Int64) (p1 : Int32) (p2 : Int32) (res : Int32 × (Nat → Nat → Nat) × Int32 × (Nat → Int32) × (Nat → Nat → Int32) × (Nat → Nat → Int32) × (Nat → Nat → Nat → Int32) × Int32 × (Nat → Int32) × (Nat → Int32) × (Nat → Int32)) (hq : F_X3_reduce bd sc cn cf sn sf tn tf vv ov p1 p2 = some (.inr res)) : lxC l yL_reduce wsL_reduce (rmX 8 181) G g [.ref (ad 0), .int p1, .int p2, .ref o1] ((o1, .inl (g 4, 1, .inr (.inl fo))) :: (wX g ad bd sc tl tat tb cn cf sn sf tn tf vv ov)) (some (.int 0)) (fun w => w = (o1, .inl (g 4, 1, .inr (.inl (vp_updL fo 0 (res.1.toInt64))))) :: (wX g ad res.2.1 res.2.2.1 tl tat tb res.2.2.2.1 res.2.2.2.2.1 res.2.2.2.2.2.1 res.2.2.2.2.2.2.1 res.2.2.2.2.2.2.2.1 res.2.2.2.2.2.2.2.2.1 res.2.2.2.2.2.2.2.2.2.1 res.2.2.2.2.2.2.2.2.2.2)) := by
  refine lxC.of (cc := cL_reduce) (maxL := 5) (ret := some .int) (by decide) rfl (Nat.le_of_ble_eq_true rfl) ?_
  intro p e s m below meth c ls A X K hA hP hD hS hs hnc htab hl
  obtain ⟨hx, hb, hml, hr, hown, hts, hk⟩ := id X
  have hl : lv_has ls 5 [(0, .ref (ad 0)), (1, .int p1), (2, .int p2), (3, .ref o1)] := hl
  refine lv_aload_n hx hb dL_reduce_0 rfl (lv_at hl 3 rfl) ?_
  refine lv_iconst (v := 0) hx hb dL_reduce_1 (by decide) ?_
  refine lv_aload_n hx hb dL_reduce_2 rfl (lv_at hl 0 rfl) ?_
  refine lv_iload_n hx hb dL_reduce_3 rfl (lv_at hl 1 rfl) ?_
  refine lv_iload_n hx hb dL_reduce_4 rfl (lv_at hl 2 rfl) ?_
  refine rwVf (ci := 3) (As := [.int p1, .int p2]) (rest := [.int 0, .ref o1]) X K (k_X3_reduce l G g ad bd sc tl tat tb cn cf sn sf tn tf vv ov p1 p2 _ hq) hd_X3_reduce gL_reduce_X3_reduce hP hD hS hA foc_hd hl.1 dL_reduce_5 rfl rfl ⟨(Nat.le_of_ble_eq_true rfl), (Nat.le_of_ble_eq_true rfl)⟩ rfl rfl rfl (Nat.le_of_ble_eq_true rfl) ⟨Nat.zero_le _, Nat.zero_le _⟩ (fun H locs hP hD hS => ?_)
  refine lv_i2l (v := res.1.toInt64) hx hb dL_reduce_8 rfl ?_
  refine va_last hx hb K.1 hP hD hS 0 4 rfl rfl (vp_in_iff.mpr (by decide)) dL_reduce_9 (fun H locs hP hD hS => ?_)
  have hP : va_P G vwCl ((o1, .inl (g 4, 1, .inr (.inl (vp_updL fo 0 (res.1.toInt64))))) :: (wX g ad res.2.1 res.2.2.1 tl tat tb res.2.2.2.1 res.2.2.2.2.1 res.2.2.2.2.2.1 res.2.2.2.2.2.2.1 res.2.2.2.2.2.2.2.1 res.2.2.2.2.2.2.2.2.1 res.2.2.2.2.2.2.2.2.2.1 res.2.2.2.2.2.2.2.2.2.2)) H := hP
  have hD : va_D A ((o1, .inl (g 4, 1, .inr (.inl (vp_updL fo 0 (res.1.toInt64))))) :: (wX g ad res.2.1 res.2.2.1 tl tat tb res.2.2.2.1 res.2.2.2.2.1 res.2.2.2.2.2.1 res.2.2.2.2.2.2.1 res.2.2.2.2.2.2.2.1 res.2.2.2.2.2.2.2.2.1 res.2.2.2.2.2.2.2.2.2.1 res.2.2.2.2.2.2.2.2.2.2)) := hD
  refine lv_goto (tgt := 21) hx hb dL_reduce_10 (by decide) ?_
  refine lv_iconst (v := 0) hx hb dL_reduce_21 (by decide) ?_
  refine W.widen (k := 1) (n := 6) (Nat.zero_le _) (Nat.zero_le _) ?_
  exact lx_iret hx hb hr hk rfl hP hD hS dL_reduce_22
set_option maxHeartbeats 4000000 in
set_option maxRecDepth 100000 in
theorem kxL_reduce (l : Launch) (hf0 : l.stackTraces = false) (G : va_G) (g : Nat → ClassId) (ad : Nat → Nat) (bd : Nat → Nat → Nat) (sc : Int32) (tl : Int32) (tat : Int32) (tb : Nat → Int32) (cn : Nat → Int32) (cf : Nat → Nat → Int32) (sn : Nat → Nat → Int32) (sf : Nat → Nat → Nat → Int32) (tn : Int32) (tf : Nat → Int32) (vv : Nat → Int32) (ov : Nat → Int32) (o1 : Nat) (fo : Nat → Int64) (p1 : Int32) (p2 : Int32) (t t' : Nat) (ht : t < 3 ∧ 0 < t ∧ t' = t) (hq : F_X3_reduce bd sc cn cf sn sf tn tf vv ov p1 p2 = some (.inl t)) : lxC l yL_reduce wsL_reduce (rmX 8 181) G g [.ref (ad 0), .int p1, .int p2, .ref o1] ((o1, .inl (g 4, 1, .inr (.inl fo))) :: (wX g ad bd sc tl tat tb cn cf sn sf tn tf vv ov)) (some (.int (nI t'))) (fun w => w = (o1, .inl (g 4, 1, .inr (.inl fo))) :: (wX g ad bd sc tl tat tb cn cf sn sf tn tf vv ov)) := by
  refine lxC.of (cc := cL_reduce) (maxL := 5) (ret := some .int) (by decide) rfl (Nat.le_of_ble_eq_true rfl) ?_
  intro p e s m below meth c ls A X K hA hP hD hS hs hnc htab hl
  obtain ⟨hx, hb, hml, hr, hown, hts, hk⟩ := id X
  have hl : lv_has ls 5 [(0, .ref (ad 0)), (1, .int p1), (2, .int p2), (3, .ref o1)] := hl
  rcases (show t = 1 ∧ t' = 1 ∨ t = 2 ∧ t' = 2 by omega) with ⟨rfl, rfl⟩ | ⟨rfl, rfl⟩
  · refine lv_aload_n hx hb dL_reduce_0 rfl (lv_at hl 3 rfl) ?_
    refine lv_iconst (v := 0) hx hb dL_reduce_1 (by decide) ?_
    refine lv_aload_n hx hb dL_reduce_2 rfl (lv_at hl 0 rfl) ?_
    refine lv_iload_n hx hb dL_reduce_3 rfl (lv_at hl 1 rfl) ?_
    refine lv_iload_n hx hb dL_reduce_4 rfl (lv_at hl 2 rfl) ?_
    refine lx_throw (wr := [(o1, .inl (g 4, 1, .inr (.inl fo)))]) (ci := 3) (As := [.int p1, .int p2]) (rest := [.int 0, .ref o1]) X K (kx_X3_reduce l hf0 G g ad bd sc tl tat tb cn cf sn sf tn tf vv ov p1 p2 _ hq) hd_X3_reduce gL_reduce_X3_reduce hP hD hS hA hs hl.1 dL_reduce_5 rfl rfl ⟨(Nat.le_of_ble_eq_true rfl), (Nat.le_of_ble_eq_true rfl)⟩ rfl rfl rfl (Nat.le_of_ble_eq_true rfl) ⟨(Nat.le_of_ble_eq_true rfl), (Nat.le_of_ble_eq_true rfl)⟩ (fun q ce w0 H locs hp0 hP hD hS hce hcv hcl => ?_)
    refine vx_catch (own := RL) (name := exN 1) hown [] (⟨0, 10, 13, 13⟩ : ExceptionTableEntry) [(⟨0, 10, 17, 15⟩ : ExceptionTableEntry)] (htab.trans rfl) (fun z hz => absurd hz List.not_mem_nil) (by decide) (by decide) (hts _ (List.mem_of_getElem? (i := 1) rfl)) (va_Nw.use rfl (hs.2.2.2.1 (exN 1) (by decide))) hce hcv hcl ?_
    refine lv_astore (lv' := [(4, .ref q), (0, .ref (ad 0)), (1, .int p1), (2, .int p2), (3, .ref o1)]) hx hb dL_reduce_13 hl (by decide) rfl (fun ls hl => ?_)
    refine lv_iconst (v := 1) hx hb dL_reduce_15 (by decide) ?_
    exact lx_iret hx hb hr hk (congrArg (fun z => (o1, .inl (g 4, 1, .inr (.inl fo))) :: z) hp0) hP hD hS dL_reduce_16
  · refine lv_aload_n hx hb dL_reduce_0 rfl (lv_at hl 3 rfl) ?_
    refine lv_iconst (v := 0) hx hb dL_reduce_1 (by decide) ?_
    refine lv_aload_n hx hb dL_reduce_2 rfl (lv_at hl 0 rfl) ?_
    refine lv_iload_n hx hb dL_reduce_3 rfl (lv_at hl 1 rfl) ?_
    refine lv_iload_n hx hb dL_reduce_4 rfl (lv_at hl 2 rfl) ?_
    refine lx_throw (wr := [(o1, .inl (g 4, 1, .inr (.inl fo)))]) (ci := 3) (As := [.int p1, .int p2]) (rest := [.int 0, .ref o1]) X K (kx_X3_reduce l hf0 G g ad bd sc tl tat tb cn cf sn sf tn tf vv ov p1 p2 _ hq) hd_X3_reduce gL_reduce_X3_reduce hP hD hS hA hs hl.1 dL_reduce_5 rfl rfl ⟨(Nat.le_of_ble_eq_true rfl), (Nat.le_of_ble_eq_true rfl)⟩ rfl rfl rfl (Nat.le_of_ble_eq_true rfl) ⟨(Nat.le_of_ble_eq_true rfl), (Nat.le_of_ble_eq_true rfl)⟩ (fun q ce w0 H locs hp0 hP hD hS hce hcv hcl => ?_)
    refine vx_catch (own := RL) (name := exN 2) hown [(⟨0, 10, 13, 13⟩ : ExceptionTableEntry)] (⟨0, 10, 17, 15⟩ : ExceptionTableEntry) [] (htab.trans rfl) (fun z hz => by
      rcases List.mem_cons.mp hz with rfl | hz
      · exact Or.inr ⟨by decide, exN 1, (hts _ (List.mem_of_getElem? (i := 1) rfl)), hnc (2, 1) (by decide)⟩
      exact absurd hz List.not_mem_nil) (by decide) (by decide) (hts _ (List.mem_of_getElem? (i := 2) rfl)) (va_Nw.use rfl (hs.2.2.2.1 (exN 2) (by decide))) hce hcv hcl ?_
    refine lv_astore (lv' := [(4, .ref q), (0, .ref (ad 0)), (1, .int p1), (2, .int p2), (3, .ref o1)]) hx hb dL_reduce_17 hl (by decide) rfl (fun ls hl => ?_)
    refine lv_iconst (v := 2) hx hb dL_reduce_19 (by decide) ?_
    exact lx_iret hx hb hr hk (congrArg (fun z => (o1, .inl (g 4, 1, .inr (.inl fo))) :: z) hp0) hP hD hS dL_reduce_20
set_option maxHeartbeats 4000000 in
set_option maxRecDepth 100000 in
theorem kL_key (l : Launch) (G : va_G) (g : Nat → ClassId) (ad : Nat → Nat) (bd : Nat → Nat → Nat) (sc : Int32) (tl : Int32) (tat : Int32) (tb : Nat → Int32) (cn : Nat → Int32) (cf : Nat → Nat → Int32) (sn : Nat → Nat → Int32) (sf : Nat → Nat → Nat → Int32) (tn : Int32) (tf : Nat → Int32) (vv : Nat → Int32) (ov : Nat → Int32) (o1 : Nat) (fo : Nat → Int64) (p1 : Int32) (p2 : Int32) (p3 : Int32) (res : Int32) (hq : F_X3_key cn cf p1 p2 p3 = some (.inr res)) : lxC l yL_key wsL_key (rmX 8 136) G g [.ref (ad 0), .int p1, .int p2, .int p3, .ref o1] ((o1, .inl (g 4, 1, .inr (.inl fo))) :: (wX g ad bd sc tl tat tb cn cf sn sf tn tf vv ov)) (some (.int 0)) (fun w => w = (o1, .inl (g 4, 1, .inr (.inl (vp_updL fo 0 (res.toInt64))))) :: (wX g ad bd sc tl tat tb cn cf sn sf tn tf vv ov)) := by
  refine lxC.of (cc := cL_key) (maxL := 6) (ret := some .int) (by decide) rfl (Nat.le_of_ble_eq_true rfl) ?_
  intro p e s m below meth c ls A X K hA hP hD hS hs hnc htab hl
  obtain ⟨hx, hb, hml, hr, hown, hts, hk⟩ := id X
  have hl : lv_has ls 6 [(0, .ref (ad 0)), (1, .int p1), (2, .int p2), (3, .int p3), (4, .ref o1)] := hl
  refine lv_aload hx hb dL_key_0 (lv_at hl 4 rfl) ?_
  refine lv_iconst (v := 0) hx hb dL_key_2 (by decide) ?_
  refine lv_aload_n hx hb dL_key_3 rfl (lv_at hl 0 rfl) ?_
  refine lv_iload_n hx hb dL_key_4 rfl (lv_at hl 1 rfl) ?_
  refine lv_iload_n hx hb dL_key_5 rfl (lv_at hl 2 rfl) ?_
  refine lv_iload_n hx hb dL_key_6 rfl (lv_at hl 3 rfl) ?_
  refine roV (ci := 3) (As := [.int p1, .int p2, .int p3]) (rest := [.int 0, .ref o1]) X K (k_X3_key l G g ad bd sc tl tat tb cn cf sn sf tn tf vv ov p1 p2 p3 _ hq) hd_X3_key gL_key_X3_key ((foc_hd (X' := [])).sub hP) hl.1 dL_key_7 rfl rfl ⟨(Nat.le_of_ble_eq_true rfl), (Nat.le_of_ble_eq_true rfl)⟩ rfl rfl rfl (Nat.le_of_ble_eq_true rfl) ⟨Nat.zero_le _, Nat.zero_le _⟩ ?_
  refine lv_i2l (v := res.toInt64) hx hb dL_key_10 rfl ?_
  refine va_last hx hb K.1 hP hD hS 0 4 rfl rfl (vp_in_iff.mpr (by decide)) dL_key_11 (fun H locs hP hD hS => ?_)
  have hP : va_P G vwCl ((o1, .inl (g 4, 1, .inr (.inl (vp_updL fo 0 (res.toInt64))))) :: (wX g ad bd sc tl tat tb cn cf sn sf tn tf vv ov)) H := hP
  have hD : va_D A ((o1, .inl (g 4, 1, .inr (.inl (vp_updL fo 0 (res.toInt64))))) :: (wX g ad bd sc tl tat tb cn cf sn sf tn tf vv ov)) := hD
  refine lv_goto (tgt := 23) hx hb dL_key_12 (by decide) ?_
  refine lv_iconst (v := 0) hx hb dL_key_23 (by decide) ?_
  refine W.widen (k := 1) (n := 6) (Nat.zero_le _) (Nat.zero_le _) ?_
  exact lx_iret hx hb hr hk rfl hP hD hS dL_key_24
set_option maxHeartbeats 4000000 in
set_option maxRecDepth 100000 in
theorem kxL_key (l : Launch) (hf0 : l.stackTraces = false) (G : va_G) (g : Nat → ClassId) (ad : Nat → Nat) (bd : Nat → Nat → Nat) (sc : Int32) (tl : Int32) (tat : Int32) (tb : Nat → Int32) (cn : Nat → Int32) (cf : Nat → Nat → Int32) (sn : Nat → Nat → Int32) (sf : Nat → Nat → Nat → Int32) (tn : Int32) (tf : Nat → Int32) (vv : Nat → Int32) (ov : Nat → Int32) (o1 : Nat) (fo : Nat → Int64) (p1 : Int32) (p2 : Int32) (p3 : Int32) (t t' : Nat) (ht : t < 3 ∧ 0 < t ∧ t' = t) (hq : F_X3_key cn cf p1 p2 p3 = some (.inl t)) : lxC l yL_key wsL_key (rmX 8 136) G g [.ref (ad 0), .int p1, .int p2, .int p3, .ref o1] ((o1, .inl (g 4, 1, .inr (.inl fo))) :: (wX g ad bd sc tl tat tb cn cf sn sf tn tf vv ov)) (some (.int (nI t'))) (fun w => w = (o1, .inl (g 4, 1, .inr (.inl fo))) :: (wX g ad bd sc tl tat tb cn cf sn sf tn tf vv ov)) := by
  refine lxC.of (cc := cL_key) (maxL := 6) (ret := some .int) (by decide) rfl (Nat.le_of_ble_eq_true rfl) ?_
  intro p e s m below meth c ls A X K hA hP hD hS hs hnc htab hl
  obtain ⟨hx, hb, hml, hr, hown, hts, hk⟩ := id X
  have hl : lv_has ls 6 [(0, .ref (ad 0)), (1, .int p1), (2, .int p2), (3, .int p3), (4, .ref o1)] := hl
  rcases (show t = 1 ∧ t' = 1 ∨ t = 2 ∧ t' = 2 by omega) with ⟨rfl, rfl⟩ | ⟨rfl, rfl⟩
  · refine lv_aload hx hb dL_key_0 (lv_at hl 4 rfl) ?_
    refine lv_iconst (v := 0) hx hb dL_key_2 (by decide) ?_
    refine lv_aload_n hx hb dL_key_3 rfl (lv_at hl 0 rfl) ?_
    refine lv_iload_n hx hb dL_key_4 rfl (lv_at hl 1 rfl) ?_
    refine lv_iload_n hx hb dL_key_5 rfl (lv_at hl 2 rfl) ?_
    refine lv_iload_n hx hb dL_key_6 rfl (lv_at hl 3 rfl) ?_
    refine lx_throw (wr := [(o1, .inl (g 4, 1, .inr (.inl fo)))]) (ci := 3) (As := [.int p1, .int p2, .int p3]) (rest := [.int 0, .ref o1]) X K (kx_X3_key l hf0 G g ad bd sc tl tat tb cn cf sn sf tn tf vv ov p1 p2 p3 _ hq) hd_X3_key gL_key_X3_key hP hD hS hA hs hl.1 dL_key_7 rfl rfl ⟨(Nat.le_of_ble_eq_true rfl), (Nat.le_of_ble_eq_true rfl)⟩ rfl rfl rfl (Nat.le_of_ble_eq_true rfl) ⟨(Nat.le_of_ble_eq_true rfl), (Nat.le_of_ble_eq_true rfl)⟩ (fun q ce w0 H locs hp0 hP hD hS hce hcv hcl => ?_)
    refine vx_catch (own := RL) (name := exN 1) hown [] (⟨0, 12, 15, 13⟩ : ExceptionTableEntry) [(⟨0, 12, 19, 15⟩ : ExceptionTableEntry)] (htab.trans rfl) (fun z hz => absurd hz List.not_mem_nil) (by decide) (by decide) (hts _ (List.mem_of_getElem? (i := 1) rfl)) (va_Nw.use rfl (hs.2.2.2.1 (exN 1) (by decide))) hce hcv hcl ?_
    refine lv_astore (lv' := [(5, .ref q), (0, .ref (ad 0)), (1, .int p1), (2, .int p2), (3, .int p3), (4, .ref o1)]) hx hb dL_key_15 hl (by decide) rfl (fun ls hl => ?_)
    refine lv_iconst (v := 1) hx hb dL_key_17 (by decide) ?_
    exact lx_iret hx hb hr hk (congrArg (fun z => (o1, .inl (g 4, 1, .inr (.inl fo))) :: z) hp0) hP hD hS dL_key_18
  · refine lv_aload hx hb dL_key_0 (lv_at hl 4 rfl) ?_
    refine lv_iconst (v := 0) hx hb dL_key_2 (by decide) ?_
    refine lv_aload_n hx hb dL_key_3 rfl (lv_at hl 0 rfl) ?_
    refine lv_iload_n hx hb dL_key_4 rfl (lv_at hl 1 rfl) ?_
    refine lv_iload_n hx hb dL_key_5 rfl (lv_at hl 2 rfl) ?_
    refine lv_iload_n hx hb dL_key_6 rfl (lv_at hl 3 rfl) ?_
    refine lx_throw (wr := [(o1, .inl (g 4, 1, .inr (.inl fo)))]) (ci := 3) (As := [.int p1, .int p2, .int p3]) (rest := [.int 0, .ref o1]) X K (kx_X3_key l hf0 G g ad bd sc tl tat tb cn cf sn sf tn tf vv ov p1 p2 p3 _ hq) hd_X3_key gL_key_X3_key hP hD hS hA hs hl.1 dL_key_7 rfl rfl ⟨(Nat.le_of_ble_eq_true rfl), (Nat.le_of_ble_eq_true rfl)⟩ rfl rfl rfl (Nat.le_of_ble_eq_true rfl) ⟨(Nat.le_of_ble_eq_true rfl), (Nat.le_of_ble_eq_true rfl)⟩ (fun q ce w0 H locs hp0 hP hD hS hce hcv hcl => ?_)
    refine vx_catch (own := RL) (name := exN 2) hown [(⟨0, 12, 15, 13⟩ : ExceptionTableEntry)] (⟨0, 12, 19, 15⟩ : ExceptionTableEntry) [] (htab.trans rfl) (fun z hz => by
      rcases List.mem_cons.mp hz with rfl | hz
      · exact Or.inr ⟨by decide, exN 1, (hts _ (List.mem_of_getElem? (i := 1) rfl)), hnc (2, 1) (by decide)⟩
      exact absurd hz List.not_mem_nil) (by decide) (by decide) (hts _ (List.mem_of_getElem? (i := 2) rfl)) (va_Nw.use rfl (hs.2.2.2.1 (exN 2) (by decide))) hce hcv hcl ?_
    refine lv_astore (lv' := [(5, .ref q), (0, .ref (ad 0)), (1, .int p1), (2, .int p2), (3, .int p3), (4, .ref o1)]) hx hb dL_key_19 hl (by decide) rfl (fun ls hl => ?_)
    refine lv_iconst (v := 2) hx hb dL_key_21 (by decide) ?_
    exact lx_iret hx hb hr hk (congrArg (fun z => (o1, .inl (g 4, 1, .inr (.inl fo))) :: z) hp0) hP hD hS dL_key_22
set_option maxHeartbeats 4000000 in
set_option maxRecDepth 100000 in
theorem kL_value (l : Launch) (G : va_G) (g : Nat → ClassId) (ad : Nat → Nat) (bd : Nat → Nat → Nat) (sc : Int32) (tl : Int32) (tat : Int32) (tb : Nat → Int32) (cn : Nat → Int32) (cf : Nat → Nat → Int32) (sn : Nat → Nat → Int32) (sf : Nat → Nat → Nat → Int32) (tn : Int32) (tf : Nat → Int32) (vv : Nat → Int32) (ov : Nat → Int32) (o1 : Nat) (fo : Nat → Int64) (p1 : Int32) (p2 : Int32) (res : Int32) (hq : F_X3_value cn cf p1 p2 = some (.inr res)) : lxC l yL_value wsL_value (rmX 8 135) G g [.ref (ad 0), .int p1, .int p2, .ref o1] ((o1, .inl (g 4, 1, .inr (.inl fo))) :: (wX g ad bd sc tl tat tb cn cf sn sf tn tf vv ov)) (some (.int 0)) (fun w => w = (o1, .inl (g 4, 1, .inr (.inl (vp_updL fo 0 (res.toInt64))))) :: (wX g ad bd sc tl tat tb cn cf sn sf tn tf vv ov)) := by
  refine lxC.of (cc := cL_value) (maxL := 5) (ret := some .int) (by decide) rfl (Nat.le_of_ble_eq_true rfl) ?_
  intro p e s m below meth c ls A X K hA hP hD hS hs hnc htab hl
  obtain ⟨hx, hb, hml, hr, hown, hts, hk⟩ := id X
  have hl : lv_has ls 5 [(0, .ref (ad 0)), (1, .int p1), (2, .int p2), (3, .ref o1)] := hl
  refine lv_aload_n hx hb dL_value_0 rfl (lv_at hl 3 rfl) ?_
  refine lv_iconst (v := 0) hx hb dL_value_1 (by decide) ?_
  refine lv_aload_n hx hb dL_value_2 rfl (lv_at hl 0 rfl) ?_
  refine lv_iload_n hx hb dL_value_3 rfl (lv_at hl 1 rfl) ?_
  refine lv_iload_n hx hb dL_value_4 rfl (lv_at hl 2 rfl) ?_
  refine roV (ci := 3) (As := [.int p1, .int p2]) (rest := [.int 0, .ref o1]) X K (k_X3_value l G g ad bd sc tl tat tb cn cf sn sf tn tf vv ov p1 p2 _ hq) hd_X3_value gL_value_X3_value ((foc_hd (X' := [])).sub hP) hl.1 dL_value_5 rfl rfl ⟨(Nat.le_of_ble_eq_true rfl), (Nat.le_of_ble_eq_true rfl)⟩ rfl rfl rfl (Nat.le_of_ble_eq_true rfl) ⟨Nat.zero_le _, Nat.zero_le _⟩ ?_
  refine lv_i2l (v := res.toInt64) hx hb dL_value_8 rfl ?_
  refine va_last hx hb K.1 hP hD hS 0 4 rfl rfl (vp_in_iff.mpr (by decide)) dL_value_9 (fun H locs hP hD hS => ?_)
  have hP : va_P G vwCl ((o1, .inl (g 4, 1, .inr (.inl (vp_updL fo 0 (res.toInt64))))) :: (wX g ad bd sc tl tat tb cn cf sn sf tn tf vv ov)) H := hP
  have hD : va_D A ((o1, .inl (g 4, 1, .inr (.inl (vp_updL fo 0 (res.toInt64))))) :: (wX g ad bd sc tl tat tb cn cf sn sf tn tf vv ov)) := hD
  refine lv_goto (tgt := 21) hx hb dL_value_10 (by decide) ?_
  refine lv_iconst (v := 0) hx hb dL_value_21 (by decide) ?_
  refine W.widen (k := 1) (n := 6) (Nat.zero_le _) (Nat.zero_le _) ?_
  exact lx_iret hx hb hr hk rfl hP hD hS dL_value_22
set_option maxHeartbeats 4000000 in
set_option maxRecDepth 100000 in
theorem kxL_value (l : Launch) (hf0 : l.stackTraces = false) (G : va_G) (g : Nat → ClassId) (ad : Nat → Nat) (bd : Nat → Nat → Nat) (sc : Int32) (tl : Int32) (tat : Int32) (tb : Nat → Int32) (cn : Nat → Int32) (cf : Nat → Nat → Int32) (sn : Nat → Nat → Int32) (sf : Nat → Nat → Nat → Int32) (tn : Int32) (tf : Nat → Int32) (vv : Nat → Int32) (ov : Nat → Int32) (o1 : Nat) (fo : Nat → Int64) (p1 : Int32) (p2 : Int32) (t t' : Nat) (ht : t < 3 ∧ 0 < t ∧ t' = t) (hq : F_X3_value cn cf p1 p2 = some (.inl t)) : lxC l yL_value wsL_value (rmX 8 135) G g [.ref (ad 0), .int p1, .int p2, .ref o1] ((o1, .inl (g 4, 1, .inr (.inl fo))) :: (wX g ad bd sc tl tat tb cn cf sn sf tn tf vv ov)) (some (.int (nI t'))) (fun w => w = (o1, .inl (g 4, 1, .inr (.inl fo))) :: (wX g ad bd sc tl tat tb cn cf sn sf tn tf vv ov)) := by
  refine lxC.of (cc := cL_value) (maxL := 5) (ret := some .int) (by decide) rfl (Nat.le_of_ble_eq_true rfl) ?_
  intro p e s m below meth c ls A X K hA hP hD hS hs hnc htab hl
  obtain ⟨hx, hb, hml, hr, hown, hts, hk⟩ := id X
  have hl : lv_has ls 5 [(0, .ref (ad 0)), (1, .int p1), (2, .int p2), (3, .ref o1)] := hl
  rcases (show t = 1 ∧ t' = 1 ∨ t = 2 ∧ t' = 2 by omega) with ⟨rfl, rfl⟩ | ⟨rfl, rfl⟩
  · refine lv_aload_n hx hb dL_value_0 rfl (lv_at hl 3 rfl) ?_
    refine lv_iconst (v := 0) hx hb dL_value_1 (by decide) ?_
    refine lv_aload_n hx hb dL_value_2 rfl (lv_at hl 0 rfl) ?_
    refine lv_iload_n hx hb dL_value_3 rfl (lv_at hl 1 rfl) ?_
    refine lv_iload_n hx hb dL_value_4 rfl (lv_at hl 2 rfl) ?_
    refine lx_throw (wr := [(o1, .inl (g 4, 1, .inr (.inl fo)))]) (ci := 3) (As := [.int p1, .int p2]) (rest := [.int 0, .ref o1]) X K (kx_X3_value l hf0 G g ad bd sc tl tat tb cn cf sn sf tn tf vv ov p1 p2 _ hq) hd_X3_value gL_value_X3_value hP hD hS hA hs hl.1 dL_value_5 rfl rfl ⟨(Nat.le_of_ble_eq_true rfl), (Nat.le_of_ble_eq_true rfl)⟩ rfl rfl rfl (Nat.le_of_ble_eq_true rfl) ⟨(Nat.le_of_ble_eq_true rfl), (Nat.le_of_ble_eq_true rfl)⟩ (fun q ce w0 H locs hp0 hP hD hS hce hcv hcl => ?_)
    refine vx_catch (own := RL) (name := exN 1) hown [] (⟨0, 10, 13, 13⟩ : ExceptionTableEntry) [(⟨0, 10, 17, 15⟩ : ExceptionTableEntry)] (htab.trans rfl) (fun z hz => absurd hz List.not_mem_nil) (by decide) (by decide) (hts _ (List.mem_of_getElem? (i := 1) rfl)) (va_Nw.use rfl (hs.2.2.2.1 (exN 1) (by decide))) hce hcv hcl ?_
    refine lv_astore (lv' := [(4, .ref q), (0, .ref (ad 0)), (1, .int p1), (2, .int p2), (3, .ref o1)]) hx hb dL_value_13 hl (by decide) rfl (fun ls hl => ?_)
    refine lv_iconst (v := 1) hx hb dL_value_15 (by decide) ?_
    exact lx_iret hx hb hr hk (congrArg (fun z => (o1, .inl (g 4, 1, .inr (.inl fo))) :: z) hp0) hP hD hS dL_value_16
  · refine lv_aload_n hx hb dL_value_0 rfl (lv_at hl 3 rfl) ?_
    refine lv_iconst (v := 0) hx hb dL_value_1 (by decide) ?_
    refine lv_aload_n hx hb dL_value_2 rfl (lv_at hl 0 rfl) ?_
    refine lv_iload_n hx hb dL_value_3 rfl (lv_at hl 1 rfl) ?_
    refine lv_iload_n hx hb dL_value_4 rfl (lv_at hl 2 rfl) ?_
    refine lx_throw (wr := [(o1, .inl (g 4, 1, .inr (.inl fo)))]) (ci := 3) (As := [.int p1, .int p2]) (rest := [.int 0, .ref o1]) X K (kx_X3_value l hf0 G g ad bd sc tl tat tb cn cf sn sf tn tf vv ov p1 p2 _ hq) hd_X3_value gL_value_X3_value hP hD hS hA hs hl.1 dL_value_5 rfl rfl ⟨(Nat.le_of_ble_eq_true rfl), (Nat.le_of_ble_eq_true rfl)⟩ rfl rfl rfl (Nat.le_of_ble_eq_true rfl) ⟨(Nat.le_of_ble_eq_true rfl), (Nat.le_of_ble_eq_true rfl)⟩ (fun q ce w0 H locs hp0 hP hD hS hce hcv hcl => ?_)
    refine vx_catch (own := RL) (name := exN 2) hown [(⟨0, 10, 13, 13⟩ : ExceptionTableEntry)] (⟨0, 10, 17, 15⟩ : ExceptionTableEntry) [] (htab.trans rfl) (fun z hz => by
      rcases List.mem_cons.mp hz with rfl | hz
      · exact Or.inr ⟨by decide, exN 1, (hts _ (List.mem_of_getElem? (i := 1) rfl)), hnc (2, 1) (by decide)⟩
      exact absurd hz List.not_mem_nil) (by decide) (by decide) (hts _ (List.mem_of_getElem? (i := 2) rfl)) (va_Nw.use rfl (hs.2.2.2.1 (exN 2) (by decide))) hce hcv hcl ?_
    refine lv_astore (lv' := [(4, .ref q), (0, .ref (ad 0)), (1, .int p1), (2, .int p2), (3, .ref o1)]) hx hb dL_value_17 hl (by decide) rfl (fun ls hl => ?_)
    refine lv_iconst (v := 2) hx hb dL_value_19 (by decide) ?_
    exact lx_iret hx hb hr hk (congrArg (fun z => (o1, .inl (g 4, 1, .inr (.inl fo))) :: z) hp0) hP hD hS dL_value_20
set_option maxHeartbeats 4000000 in
set_option maxRecDepth 100000 in
theorem kL_sum (l : Launch) (G : va_G) (g : Nat → ClassId) (ad : Nat → Nat) (bd : Nat → Nat → Nat) (sc : Int32) (tl : Int32) (tat : Int32) (tb : Nat → Int32) (cn : Nat → Int32) (cf : Nat → Nat → Int32) (sn : Nat → Nat → Int32) (sf : Nat → Nat → Nat → Int32) (tn : Int32) (tf : Nat → Int32) (vv : Nat → Int32) (ov : Nat → Int32) (o1 : Nat) (fo : Nat → Int64) (p1 : Int32) (p2 : Int32) (p3 : Int32) (res : Int64 × (Nat → Int32)) (hq : F_X3_sum cn cf vv p1 p2 p3 = some (.inr res)) : lxC l yL_sum wsL_sum (rmX 9 157) G g [.ref (ad 0), .int p1, .int p2, .int p3, .ref o1] ((o1, .inl (g 4, 1, .inr (.inl fo))) :: (wX g ad bd sc tl tat tb cn cf sn sf tn tf vv ov)) (some (.int 0)) (fun w => w = (o1, .inl (g 4, 1, .inr (.inl (vp_updL fo 0 (res.1))))) :: (wX g ad bd sc tl tat tb cn cf sn sf tn tf res.2 ov)) := by
  refine lxC.of (cc := cL_sum) (maxL := 6) (ret := some .int) (by decide) rfl (Nat.le_of_ble_eq_true rfl) ?_
  intro p e s m below meth c ls A X K hA hP hD hS hs hnc htab hl
  obtain ⟨hx, hb, hml, hr, hown, hts, hk⟩ := id X
  have hl : lv_has ls 6 [(0, .ref (ad 0)), (1, .int p1), (2, .int p2), (3, .int p3), (4, .ref o1)] := hl
  refine lv_aload hx hb dL_sum_0 (lv_at hl 4 rfl) ?_
  refine lv_iconst (v := 0) hx hb dL_sum_2 (by decide) ?_
  refine lv_aload_n hx hb dL_sum_3 rfl (lv_at hl 0 rfl) ?_
  refine lv_iload_n hx hb dL_sum_4 rfl (lv_at hl 1 rfl) ?_
  refine lv_iload_n hx hb dL_sum_5 rfl (lv_at hl 2 rfl) ?_
  refine lv_iload_n hx hb dL_sum_6 rfl (lv_at hl 3 rfl) ?_
  refine rwVf (ci := 3) (As := [.int p1, .int p2, .int p3]) (rest := [.int 0, .ref o1]) X K (k_X3_sum l G g ad bd sc tl tat tb cn cf sn sf tn tf vv ov p1 p2 p3 _ hq) hd_X3_sum gL_sum_X3_sum hP hD hS hA foc_hd hl.1 dL_sum_7 rfl rfl ⟨(Nat.le_of_ble_eq_true rfl), (Nat.le_of_ble_eq_true rfl)⟩ rfl rfl rfl (Nat.le_of_ble_eq_true rfl) ⟨Nat.zero_le _, Nat.zero_le _⟩ (fun H locs hP hD hS => ?_)
  refine va_last hx hb K.1 hP hD hS 0 4 rfl rfl (vp_in_iff.mpr (by decide)) dL_sum_10 (fun H locs hP hD hS => ?_)
  have hP : va_P G vwCl ((o1, .inl (g 4, 1, .inr (.inl (vp_updL fo 0 (res.1))))) :: (wX g ad bd sc tl tat tb cn cf sn sf tn tf res.2 ov)) H := hP
  have hD : va_D A ((o1, .inl (g 4, 1, .inr (.inl (vp_updL fo 0 (res.1))))) :: (wX g ad bd sc tl tat tb cn cf sn sf tn tf res.2 ov)) := hD
  refine lv_goto (tgt := 22) hx hb dL_sum_11 (by decide) ?_
  refine lv_iconst (v := 0) hx hb dL_sum_22 (by decide) ?_
  refine W.widen (k := 1) (n := 6) (Nat.zero_le _) (Nat.zero_le _) ?_
  exact lx_iret hx hb hr hk rfl hP hD hS dL_sum_23
set_option maxHeartbeats 4000000 in
set_option maxRecDepth 100000 in
theorem kxL_sum (l : Launch) (hf0 : l.stackTraces = false) (G : va_G) (g : Nat → ClassId) (ad : Nat → Nat) (bd : Nat → Nat → Nat) (sc : Int32) (tl : Int32) (tat : Int32) (tb : Nat → Int32) (cn : Nat → Int32) (cf : Nat → Nat → Int32) (sn : Nat → Nat → Int32) (sf : Nat → Nat → Nat → Int32) (tn : Int32) (tf : Nat → Int32) (vv : Nat → Int32) (ov : Nat → Int32) (o1 : Nat) (fo : Nat → Int64) (p1 : Int32) (p2 : Int32) (p3 : Int32) (t t' : Nat) (ht : t < 3 ∧ 0 < t ∧ t' = t) (hq : F_X3_sum cn cf vv p1 p2 p3 = some (.inl t)) : lxC l yL_sum wsL_sum (rmX 9 157) G g [.ref (ad 0), .int p1, .int p2, .int p3, .ref o1] ((o1, .inl (g 4, 1, .inr (.inl fo))) :: (wX g ad bd sc tl tat tb cn cf sn sf tn tf vv ov)) (some (.int (nI t'))) (fun w => w = (o1, .inl (g 4, 1, .inr (.inl fo))) :: (wX g ad bd sc tl tat tb cn cf sn sf tn tf vv ov)) := by
  refine lxC.of (cc := cL_sum) (maxL := 6) (ret := some .int) (by decide) rfl (Nat.le_of_ble_eq_true rfl) ?_
  intro p e s m below meth c ls A X K hA hP hD hS hs hnc htab hl
  obtain ⟨hx, hb, hml, hr, hown, hts, hk⟩ := id X
  have hl : lv_has ls 6 [(0, .ref (ad 0)), (1, .int p1), (2, .int p2), (3, .int p3), (4, .ref o1)] := hl
  rcases (show t = 1 ∧ t' = 1 ∨ t = 2 ∧ t' = 2 by omega) with ⟨rfl, rfl⟩ | ⟨rfl, rfl⟩
  · refine lv_aload hx hb dL_sum_0 (lv_at hl 4 rfl) ?_
    refine lv_iconst (v := 0) hx hb dL_sum_2 (by decide) ?_
    refine lv_aload_n hx hb dL_sum_3 rfl (lv_at hl 0 rfl) ?_
    refine lv_iload_n hx hb dL_sum_4 rfl (lv_at hl 1 rfl) ?_
    refine lv_iload_n hx hb dL_sum_5 rfl (lv_at hl 2 rfl) ?_
    refine lv_iload_n hx hb dL_sum_6 rfl (lv_at hl 3 rfl) ?_
    refine lx_throw (wr := [(o1, .inl (g 4, 1, .inr (.inl fo)))]) (ci := 3) (As := [.int p1, .int p2, .int p3]) (rest := [.int 0, .ref o1]) X K (kx_X3_sum l hf0 G g ad bd sc tl tat tb cn cf sn sf tn tf vv ov p1 p2 p3 _ hq) hd_X3_sum gL_sum_X3_sum hP hD hS hA hs hl.1 dL_sum_7 rfl rfl ⟨(Nat.le_of_ble_eq_true rfl), (Nat.le_of_ble_eq_true rfl)⟩ rfl rfl rfl (Nat.le_of_ble_eq_true rfl) ⟨(Nat.le_of_ble_eq_true rfl), (Nat.le_of_ble_eq_true rfl)⟩ (fun q ce w0 H locs hp0 hP hD hS hce hcv hcl => ?_)
    refine vx_catch (own := RL) (name := exN 1) hown [] (⟨0, 11, 14, 13⟩ : ExceptionTableEntry) [(⟨0, 11, 18, 15⟩ : ExceptionTableEntry)] (htab.trans rfl) (fun z hz => absurd hz List.not_mem_nil) (by decide) (by decide) (hts _ (List.mem_of_getElem? (i := 1) rfl)) (va_Nw.use rfl (hs.2.2.2.1 (exN 1) (by decide))) hce hcv hcl ?_
    refine lv_astore (lv' := [(5, .ref q), (0, .ref (ad 0)), (1, .int p1), (2, .int p2), (3, .int p3), (4, .ref o1)]) hx hb dL_sum_14 hl (by decide) rfl (fun ls hl => ?_)
    refine lv_iconst (v := 1) hx hb dL_sum_16 (by decide) ?_
    exact lx_iret hx hb hr hk (congrArg (fun z => (o1, .inl (g 4, 1, .inr (.inl fo))) :: z) hp0) hP hD hS dL_sum_17
  · refine lv_aload hx hb dL_sum_0 (lv_at hl 4 rfl) ?_
    refine lv_iconst (v := 0) hx hb dL_sum_2 (by decide) ?_
    refine lv_aload_n hx hb dL_sum_3 rfl (lv_at hl 0 rfl) ?_
    refine lv_iload_n hx hb dL_sum_4 rfl (lv_at hl 1 rfl) ?_
    refine lv_iload_n hx hb dL_sum_5 rfl (lv_at hl 2 rfl) ?_
    refine lv_iload_n hx hb dL_sum_6 rfl (lv_at hl 3 rfl) ?_
    refine lx_throw (wr := [(o1, .inl (g 4, 1, .inr (.inl fo)))]) (ci := 3) (As := [.int p1, .int p2, .int p3]) (rest := [.int 0, .ref o1]) X K (kx_X3_sum l hf0 G g ad bd sc tl tat tb cn cf sn sf tn tf vv ov p1 p2 p3 _ hq) hd_X3_sum gL_sum_X3_sum hP hD hS hA hs hl.1 dL_sum_7 rfl rfl ⟨(Nat.le_of_ble_eq_true rfl), (Nat.le_of_ble_eq_true rfl)⟩ rfl rfl rfl (Nat.le_of_ble_eq_true rfl) ⟨(Nat.le_of_ble_eq_true rfl), (Nat.le_of_ble_eq_true rfl)⟩ (fun q ce w0 H locs hp0 hP hD hS hce hcv hcl => ?_)
    refine vx_catch (own := RL) (name := exN 2) hown [(⟨0, 11, 14, 13⟩ : ExceptionTableEntry)] (⟨0, 11, 18, 15⟩ : ExceptionTableEntry) [] (htab.trans rfl) (fun z hz => by
      rcases List.mem_cons.mp hz with rfl | hz
      · exact Or.inr ⟨by decide, exN 1, (hts _ (List.mem_of_getElem? (i := 1) rfl)), hnc (2, 1) (by decide)⟩
      exact absurd hz List.not_mem_nil) (by decide) (by decide) (hts _ (List.mem_of_getElem? (i := 2) rfl)) (va_Nw.use rfl (hs.2.2.2.1 (exN 2) (by decide))) hce hcv hcl ?_
    refine lv_astore (lv' := [(5, .ref q), (0, .ref (ad 0)), (1, .int p1), (2, .int p2), (3, .int p3), (4, .ref o1)]) hx hb dL_sum_18 hl (by decide) rfl (fun ls hl => ?_)
    refine lv_iconst (v := 2) hx hb dL_sum_20 (by decide) ?_
    exact lx_iret hx hb hr hk (congrArg (fun z => (o1, .inl (g 4, 1, .inr (.inl fo))) :: z) hp0) hP hD hS dL_sum_21
set_option maxHeartbeats 4000000 in
set_option maxRecDepth 100000 in
theorem kL_extreme (l : Launch) (G : va_G) (g : Nat → ClassId) (ad : Nat → Nat) (bd : Nat → Nat → Nat) (sc : Int32) (tl : Int32) (tat : Int32) (tb : Nat → Int32) (cn : Nat → Int32) (cf : Nat → Nat → Int32) (sn : Nat → Nat → Int32) (sf : Nat → Nat → Nat → Int32) (tn : Int32) (tf : Nat → Int32) (vv : Nat → Int32) (ov : Nat → Int32) (o1 : Nat) (fo : Nat → Int64) (p1 : Int32) (p2 : Int32) (p3 : Int32) (p4 : Int32) (res : Int32 × (Nat → Int32)) (hq : F_X3_extreme cn cf vv p1 p2 p3 p4 = some (.inr res)) : lxC l yL_extreme wsL_extreme (rmX 9 158) G g [.ref (ad 0), .int p1, .int p2, .int p3, .int p4, .ref o1] ((o1, .inl (g 4, 1, .inr (.inl fo))) :: (wX g ad bd sc tl tat tb cn cf sn sf tn tf vv ov)) (some (.int 0)) (fun w => w = (o1, .inl (g 4, 1, .inr (.inl (vp_updL fo 0 (res.1.toInt64))))) :: (wX g ad bd sc tl tat tb cn cf sn sf tn tf res.2 ov)) := by
  refine lxC.of (cc := cL_extreme) (maxL := 7) (ret := some .int) (by decide) rfl (Nat.le_of_ble_eq_true rfl) ?_
  intro p e s m below meth c ls A X K hA hP hD hS hs hnc htab hl
  obtain ⟨hx, hb, hml, hr, hown, hts, hk⟩ := id X
  have hl : lv_has ls 7 [(0, .ref (ad 0)), (1, .int p1), (2, .int p2), (3, .int p3), (4, .int p4), (5, .ref o1)] := hl
  refine lv_aload hx hb dL_extreme_0 (lv_at hl 5 rfl) ?_
  refine lv_iconst (v := 0) hx hb dL_extreme_2 (by decide) ?_
  refine lv_aload_n hx hb dL_extreme_3 rfl (lv_at hl 0 rfl) ?_
  refine lv_iload_n hx hb dL_extreme_4 rfl (lv_at hl 1 rfl) ?_
  refine lv_iload_n hx hb dL_extreme_5 rfl (lv_at hl 2 rfl) ?_
  refine lv_iload_n hx hb dL_extreme_6 rfl (lv_at hl 3 rfl) ?_
  refine lv_iload hx hb dL_extreme_7 (lv_at hl 4 rfl) ?_
  refine rwVf (ci := 3) (As := [.int p1, .int p2, .int p3, .int p4]) (rest := [.int 0, .ref o1]) X K (k_X3_extreme l G g ad bd sc tl tat tb cn cf sn sf tn tf vv ov p1 p2 p3 p4 _ hq) hd_X3_extreme gL_extreme_X3_extreme hP hD hS hA foc_hd hl.1 dL_extreme_9 rfl rfl ⟨(Nat.le_of_ble_eq_true rfl), (Nat.le_of_ble_eq_true rfl)⟩ rfl rfl rfl (Nat.le_of_ble_eq_true rfl) ⟨Nat.zero_le _, Nat.zero_le _⟩ (fun H locs hP hD hS => ?_)
  refine lv_i2l (v := res.1.toInt64) hx hb dL_extreme_12 rfl ?_
  refine va_last hx hb K.1 hP hD hS 0 4 rfl rfl (vp_in_iff.mpr (by decide)) dL_extreme_13 (fun H locs hP hD hS => ?_)
  have hP : va_P G vwCl ((o1, .inl (g 4, 1, .inr (.inl (vp_updL fo 0 (res.1.toInt64))))) :: (wX g ad bd sc tl tat tb cn cf sn sf tn tf res.2 ov)) H := hP
  have hD : va_D A ((o1, .inl (g 4, 1, .inr (.inl (vp_updL fo 0 (res.1.toInt64))))) :: (wX g ad bd sc tl tat tb cn cf sn sf tn tf res.2 ov)) := hD
  refine lv_goto (tgt := 25) hx hb dL_extreme_14 (by decide) ?_
  refine lv_iconst (v := 0) hx hb dL_extreme_25 (by decide) ?_
  refine W.widen (k := 1) (n := 6) (Nat.zero_le _) (Nat.zero_le _) ?_
  exact lx_iret hx hb hr hk rfl hP hD hS dL_extreme_26
set_option maxHeartbeats 4000000 in
set_option maxRecDepth 100000 in
theorem kxL_extreme (l : Launch) (hf0 : l.stackTraces = false) (G : va_G) (g : Nat → ClassId) (ad : Nat → Nat) (bd : Nat → Nat → Nat) (sc : Int32) (tl : Int32) (tat : Int32) (tb : Nat → Int32) (cn : Nat → Int32) (cf : Nat → Nat → Int32) (sn : Nat → Nat → Int32) (sf : Nat → Nat → Nat → Int32) (tn : Int32) (tf : Nat → Int32) (vv : Nat → Int32) (ov : Nat → Int32) (o1 : Nat) (fo : Nat → Int64) (p1 : Int32) (p2 : Int32) (p3 : Int32) (p4 : Int32) (t t' : Nat) (ht : t < 3 ∧ 0 < t ∧ t' = t) (hq : F_X3_extreme cn cf vv p1 p2 p3 p4 = some (.inl t)) : lxC l yL_extreme wsL_extreme (rmX 9 158) G g [.ref (ad 0), .int p1, .int p2, .int p3, .int p4, .ref o1] ((o1, .inl (g 4, 1, .inr (.inl fo))) :: (wX g ad bd sc tl tat tb cn cf sn sf tn tf vv ov)) (some (.int (nI t'))) (fun w => w = (o1, .inl (g 4, 1, .inr (.inl fo))) :: (wX g ad bd sc tl tat tb cn cf sn sf tn tf vv ov)) := by
  refine lxC.of (cc := cL_extreme) (maxL := 7) (ret := some .int) (by decide) rfl (Nat.le_of_ble_eq_true rfl) ?_
  intro p e s m below meth c ls A X K hA hP hD hS hs hnc htab hl
  obtain ⟨hx, hb, hml, hr, hown, hts, hk⟩ := id X
  have hl : lv_has ls 7 [(0, .ref (ad 0)), (1, .int p1), (2, .int p2), (3, .int p3), (4, .int p4), (5, .ref o1)] := hl
  rcases (show t = 1 ∧ t' = 1 ∨ t = 2 ∧ t' = 2 by omega) with ⟨rfl, rfl⟩ | ⟨rfl, rfl⟩
  · refine lv_aload hx hb dL_extreme_0 (lv_at hl 5 rfl) ?_
    refine lv_iconst (v := 0) hx hb dL_extreme_2 (by decide) ?_
    refine lv_aload_n hx hb dL_extreme_3 rfl (lv_at hl 0 rfl) ?_
    refine lv_iload_n hx hb dL_extreme_4 rfl (lv_at hl 1 rfl) ?_
    refine lv_iload_n hx hb dL_extreme_5 rfl (lv_at hl 2 rfl) ?_
    refine lv_iload_n hx hb dL_extreme_6 rfl (lv_at hl 3 rfl) ?_
    refine lv_iload hx hb dL_extreme_7 (lv_at hl 4 rfl) ?_
    refine lx_throw (wr := [(o1, .inl (g 4, 1, .inr (.inl fo)))]) (ci := 3) (As := [.int p1, .int p2, .int p3, .int p4]) (rest := [.int 0, .ref o1]) X K (kx_X3_extreme l hf0 G g ad bd sc tl tat tb cn cf sn sf tn tf vv ov p1 p2 p3 p4 _ hq) hd_X3_extreme gL_extreme_X3_extreme hP hD hS hA hs hl.1 dL_extreme_9 rfl rfl ⟨(Nat.le_of_ble_eq_true rfl), (Nat.le_of_ble_eq_true rfl)⟩ rfl rfl rfl (Nat.le_of_ble_eq_true rfl) ⟨(Nat.le_of_ble_eq_true rfl), (Nat.le_of_ble_eq_true rfl)⟩ (fun q ce w0 H locs hp0 hP hD hS hce hcv hcl => ?_)
    refine vx_catch (own := RL) (name := exN 1) hown [] (⟨0, 14, 17, 13⟩ : ExceptionTableEntry) [(⟨0, 14, 21, 15⟩ : ExceptionTableEntry)] (htab.trans rfl) (fun z hz => absurd hz List.not_mem_nil) (by decide) (by decide) (hts _ (List.mem_of_getElem? (i := 1) rfl)) (va_Nw.use rfl (hs.2.2.2.1 (exN 1) (by decide))) hce hcv hcl ?_
    refine lv_astore (lv' := [(6, .ref q), (0, .ref (ad 0)), (1, .int p1), (2, .int p2), (3, .int p3), (4, .int p4), (5, .ref o1)]) hx hb dL_extreme_17 hl (by decide) rfl (fun ls hl => ?_)
    refine lv_iconst (v := 1) hx hb dL_extreme_19 (by decide) ?_
    exact lx_iret hx hb hr hk (congrArg (fun z => (o1, .inl (g 4, 1, .inr (.inl fo))) :: z) hp0) hP hD hS dL_extreme_20
  · refine lv_aload hx hb dL_extreme_0 (lv_at hl 5 rfl) ?_
    refine lv_iconst (v := 0) hx hb dL_extreme_2 (by decide) ?_
    refine lv_aload_n hx hb dL_extreme_3 rfl (lv_at hl 0 rfl) ?_
    refine lv_iload_n hx hb dL_extreme_4 rfl (lv_at hl 1 rfl) ?_
    refine lv_iload_n hx hb dL_extreme_5 rfl (lv_at hl 2 rfl) ?_
    refine lv_iload_n hx hb dL_extreme_6 rfl (lv_at hl 3 rfl) ?_
    refine lv_iload hx hb dL_extreme_7 (lv_at hl 4 rfl) ?_
    refine lx_throw (wr := [(o1, .inl (g 4, 1, .inr (.inl fo)))]) (ci := 3) (As := [.int p1, .int p2, .int p3, .int p4]) (rest := [.int 0, .ref o1]) X K (kx_X3_extreme l hf0 G g ad bd sc tl tat tb cn cf sn sf tn tf vv ov p1 p2 p3 p4 _ hq) hd_X3_extreme gL_extreme_X3_extreme hP hD hS hA hs hl.1 dL_extreme_9 rfl rfl ⟨(Nat.le_of_ble_eq_true rfl), (Nat.le_of_ble_eq_true rfl)⟩ rfl rfl rfl (Nat.le_of_ble_eq_true rfl) ⟨(Nat.le_of_ble_eq_true rfl), (Nat.le_of_ble_eq_true rfl)⟩ (fun q ce w0 H locs hp0 hP hD hS hce hcv hcl => ?_)
    refine vx_catch (own := RL) (name := exN 2) hown [(⟨0, 14, 17, 13⟩ : ExceptionTableEntry)] (⟨0, 14, 21, 15⟩ : ExceptionTableEntry) [] (htab.trans rfl) (fun z hz => by
      rcases List.mem_cons.mp hz with rfl | hz
      · exact Or.inr ⟨by decide, exN 1, (hts _ (List.mem_of_getElem? (i := 1) rfl)), hnc (2, 1) (by decide)⟩
      exact absurd hz List.not_mem_nil) (by decide) (by decide) (hts _ (List.mem_of_getElem? (i := 2) rfl)) (va_Nw.use rfl (hs.2.2.2.1 (exN 2) (by decide))) hce hcv hcl ?_
    refine lv_astore (lv' := [(6, .ref q), (0, .ref (ad 0)), (1, .int p1), (2, .int p2), (3, .int p3), (4, .int p4), (5, .ref o1)]) hx hb dL_extreme_21 hl (by decide) rfl (fun ls hl => ?_)
    refine lv_iconst (v := 2) hx hb dL_extreme_23 (by decide) ?_
    exact lx_iret hx hb hr hk (congrArg (fun z => (o1, .inl (g 4, 1, .inr (.inl fo))) :: z) hp0) hP hD hS dL_extreme_24
set_option maxHeartbeats 4000000 in
set_option maxRecDepth 100000 in
theorem kL_crossings (l : Launch) (G : va_G) (g : Nat → ClassId) (ad : Nat → Nat) (bd : Nat → Nat → Nat) (sc : Int32) (tl : Int32) (tat : Int32) (tb : Nat → Int32) (cn : Nat → Int32) (cf : Nat → Nat → Int32) (sn : Nat → Nat → Int32) (sf : Nat → Nat → Nat → Int32) (tn : Int32) (tf : Nat → Int32) (vv : Nat → Int32) (ov : Nat → Int32) (o1 : Nat) (fo : Nat → Int64) (p1 : Int32) (p2 : Int32) (res : Int32 × (Nat → Int32)) (hq : F_X3_crossings cn cf vv p1 p2 = some (.inr res)) : lxC l yL_crossings wsL_crossings (rmX 8 137) G g [.ref (ad 0), .int p1, .int p2, .ref o1] ((o1, .inl (g 4, 1, .inr (.inl fo))) :: (wX g ad bd sc tl tat tb cn cf sn sf tn tf vv ov)) (some (.int 0)) (fun w => w = (o1, .inl (g 4, 1, .inr (.inl (vp_updL fo 0 (res.1.toInt64))))) :: (wX g ad bd sc tl tat tb cn cf sn sf tn tf res.2 ov)) := by
  refine lxC.of (cc := cL_crossings) (maxL := 5) (ret := some .int) (by decide) rfl (Nat.le_of_ble_eq_true rfl) ?_
  intro p e s m below meth c ls A X K hA hP hD hS hs hnc htab hl
  obtain ⟨hx, hb, hml, hr, hown, hts, hk⟩ := id X
  have hl : lv_has ls 5 [(0, .ref (ad 0)), (1, .int p1), (2, .int p2), (3, .ref o1)] := hl
  refine lv_aload_n hx hb dL_crossings_0 rfl (lv_at hl 3 rfl) ?_
  refine lv_iconst (v := 0) hx hb dL_crossings_1 (by decide) ?_
  refine lv_aload_n hx hb dL_crossings_2 rfl (lv_at hl 0 rfl) ?_
  refine lv_iload_n hx hb dL_crossings_3 rfl (lv_at hl 1 rfl) ?_
  refine lv_iload_n hx hb dL_crossings_4 rfl (lv_at hl 2 rfl) ?_
  refine rwVf (ci := 3) (As := [.int p1, .int p2]) (rest := [.int 0, .ref o1]) X K (k_X3_crossings l G g ad bd sc tl tat tb cn cf sn sf tn tf vv ov p1 p2 _ hq) hd_X3_crossings gL_crossings_X3_crossings hP hD hS hA foc_hd hl.1 dL_crossings_5 rfl rfl ⟨(Nat.le_of_ble_eq_true rfl), (Nat.le_of_ble_eq_true rfl)⟩ rfl rfl rfl (Nat.le_of_ble_eq_true rfl) ⟨Nat.zero_le _, Nat.zero_le _⟩ (fun H locs hP hD hS => ?_)
  refine lv_i2l (v := res.1.toInt64) hx hb dL_crossings_8 rfl ?_
  refine va_last hx hb K.1 hP hD hS 0 4 rfl rfl (vp_in_iff.mpr (by decide)) dL_crossings_9 (fun H locs hP hD hS => ?_)
  have hP : va_P G vwCl ((o1, .inl (g 4, 1, .inr (.inl (vp_updL fo 0 (res.1.toInt64))))) :: (wX g ad bd sc tl tat tb cn cf sn sf tn tf res.2 ov)) H := hP
  have hD : va_D A ((o1, .inl (g 4, 1, .inr (.inl (vp_updL fo 0 (res.1.toInt64))))) :: (wX g ad bd sc tl tat tb cn cf sn sf tn tf res.2 ov)) := hD
  refine lv_goto (tgt := 21) hx hb dL_crossings_10 (by decide) ?_
  refine lv_iconst (v := 0) hx hb dL_crossings_21 (by decide) ?_
  refine W.widen (k := 1) (n := 6) (Nat.zero_le _) (Nat.zero_le _) ?_
  exact lx_iret hx hb hr hk rfl hP hD hS dL_crossings_22
set_option maxHeartbeats 4000000 in
set_option maxRecDepth 100000 in
theorem kxL_crossings (l : Launch) (hf0 : l.stackTraces = false) (G : va_G) (g : Nat → ClassId) (ad : Nat → Nat) (bd : Nat → Nat → Nat) (sc : Int32) (tl : Int32) (tat : Int32) (tb : Nat → Int32) (cn : Nat → Int32) (cf : Nat → Nat → Int32) (sn : Nat → Nat → Int32) (sf : Nat → Nat → Nat → Int32) (tn : Int32) (tf : Nat → Int32) (vv : Nat → Int32) (ov : Nat → Int32) (o1 : Nat) (fo : Nat → Int64) (p1 : Int32) (p2 : Int32) (t t' : Nat) (ht : t < 3 ∧ 0 < t ∧ t' = t) (hq : F_X3_crossings cn cf vv p1 p2 = some (.inl t)) : lxC l yL_crossings wsL_crossings (rmX 8 137) G g [.ref (ad 0), .int p1, .int p2, .ref o1] ((o1, .inl (g 4, 1, .inr (.inl fo))) :: (wX g ad bd sc tl tat tb cn cf sn sf tn tf vv ov)) (some (.int (nI t'))) (fun w => w = (o1, .inl (g 4, 1, .inr (.inl fo))) :: (wX g ad bd sc tl tat tb cn cf sn sf tn tf vv ov)) := by
  refine lxC.of (cc := cL_crossings) (maxL := 5) (ret := some .int) (by decide) rfl (Nat.le_of_ble_eq_true rfl) ?_
  intro p e s m below meth c ls A X K hA hP hD hS hs hnc htab hl
  obtain ⟨hx, hb, hml, hr, hown, hts, hk⟩ := id X
  have hl : lv_has ls 5 [(0, .ref (ad 0)), (1, .int p1), (2, .int p2), (3, .ref o1)] := hl
  rcases (show t = 1 ∧ t' = 1 ∨ t = 2 ∧ t' = 2 by omega) with ⟨rfl, rfl⟩ | ⟨rfl, rfl⟩
  · refine lv_aload_n hx hb dL_crossings_0 rfl (lv_at hl 3 rfl) ?_
    refine lv_iconst (v := 0) hx hb dL_crossings_1 (by decide) ?_
    refine lv_aload_n hx hb dL_crossings_2 rfl (lv_at hl 0 rfl) ?_
    refine lv_iload_n hx hb dL_crossings_3 rfl (lv_at hl 1 rfl) ?_
    refine lv_iload_n hx hb dL_crossings_4 rfl (lv_at hl 2 rfl) ?_
    refine lx_throw (wr := [(o1, .inl (g 4, 1, .inr (.inl fo)))]) (ci := 3) (As := [.int p1, .int p2]) (rest := [.int 0, .ref o1]) X K (kx_X3_crossings l hf0 G g ad bd sc tl tat tb cn cf sn sf tn tf vv ov p1 p2 _ hq) hd_X3_crossings gL_crossings_X3_crossings hP hD hS hA hs hl.1 dL_crossings_5 rfl rfl ⟨(Nat.le_of_ble_eq_true rfl), (Nat.le_of_ble_eq_true rfl)⟩ rfl rfl rfl (Nat.le_of_ble_eq_true rfl) ⟨(Nat.le_of_ble_eq_true rfl), (Nat.le_of_ble_eq_true rfl)⟩ (fun q ce w0 H locs hp0 hP hD hS hce hcv hcl => ?_)
    refine vx_catch (own := RL) (name := exN 1) hown [] (⟨0, 10, 13, 13⟩ : ExceptionTableEntry) [(⟨0, 10, 17, 15⟩ : ExceptionTableEntry)] (htab.trans rfl) (fun z hz => absurd hz List.not_mem_nil) (by decide) (by decide) (hts _ (List.mem_of_getElem? (i := 1) rfl)) (va_Nw.use rfl (hs.2.2.2.1 (exN 1) (by decide))) hce hcv hcl ?_
    refine lv_astore (lv' := [(4, .ref q), (0, .ref (ad 0)), (1, .int p1), (2, .int p2), (3, .ref o1)]) hx hb dL_crossings_13 hl (by decide) rfl (fun ls hl => ?_)
    refine lv_iconst (v := 1) hx hb dL_crossings_15 (by decide) ?_
    exact lx_iret hx hb hr hk (congrArg (fun z => (o1, .inl (g 4, 1, .inr (.inl fo))) :: z) hp0) hP hD hS dL_crossings_16
  · refine lv_aload_n hx hb dL_crossings_0 rfl (lv_at hl 3 rfl) ?_
    refine lv_iconst (v := 0) hx hb dL_crossings_1 (by decide) ?_
    refine lv_aload_n hx hb dL_crossings_2 rfl (lv_at hl 0 rfl) ?_
    refine lv_iload_n hx hb dL_crossings_3 rfl (lv_at hl 1 rfl) ?_
    refine lv_iload_n hx hb dL_crossings_4 rfl (lv_at hl 2 rfl) ?_
    refine lx_throw (wr := [(o1, .inl (g 4, 1, .inr (.inl fo)))]) (ci := 3) (As := [.int p1, .int p2]) (rest := [.int 0, .ref o1]) X K (kx_X3_crossings l hf0 G g ad bd sc tl tat tb cn cf sn sf tn tf vv ov p1 p2 _ hq) hd_X3_crossings gL_crossings_X3_crossings hP hD hS hA hs hl.1 dL_crossings_5 rfl rfl ⟨(Nat.le_of_ble_eq_true rfl), (Nat.le_of_ble_eq_true rfl)⟩ rfl rfl rfl (Nat.le_of_ble_eq_true rfl) ⟨(Nat.le_of_ble_eq_true rfl), (Nat.le_of_ble_eq_true rfl)⟩ (fun q ce w0 H locs hp0 hP hD hS hce hcv hcl => ?_)
    refine vx_catch (own := RL) (name := exN 2) hown [(⟨0, 10, 13, 13⟩ : ExceptionTableEntry)] (⟨0, 10, 17, 15⟩ : ExceptionTableEntry) [] (htab.trans rfl) (fun z hz => by
      rcases List.mem_cons.mp hz with rfl | hz
      · exact Or.inr ⟨by decide, exN 1, (hts _ (List.mem_of_getElem? (i := 1) rfl)), hnc (2, 1) (by decide)⟩
      exact absurd hz List.not_mem_nil) (by decide) (by decide) (hts _ (List.mem_of_getElem? (i := 2) rfl)) (va_Nw.use rfl (hs.2.2.2.1 (exN 2) (by decide))) hce hcv hcl ?_
    refine lv_astore (lv' := [(4, .ref q), (0, .ref (ad 0)), (1, .int p1), (2, .int p2), (3, .ref o1)]) hx hb dL_crossings_17 hl (by decide) rfl (fun ls hl => ?_)
    refine lv_iconst (v := 2) hx hb dL_crossings_19 (by decide) ?_
    exact lx_iret hx hb hr hk (congrArg (fun z => (o1, .inl (g 4, 1, .inr (.inl fo))) :: z) hp0) hP hD hS dL_crossings_20
set_option maxHeartbeats 4000000 in
set_option maxRecDepth 100000 in
theorem kL_difference (l : Launch) (G : va_G) (g : Nat → ClassId) (ad : Nat → Nat) (bd : Nat → Nat → Nat) (sc : Int32) (tl : Int32) (tat : Int32) (tb : Nat → Int32) (cn : Nat → Int32) (cf : Nat → Nat → Int32) (sn : Nat → Nat → Int32) (sf : Nat → Nat → Nat → Int32) (tn : Int32) (tf : Nat → Int32) (vv : Nat → Int32) (ov : Nat → Int32) (o1 : Nat) (fo : Nat → Int64) (p1 : Int32) (p2 : Int32) (res : Int32 × (Nat → Int32) × (Nat → Int32)) (hq : F_X3_difference cn cf vv ov p1 p2 = some (.inr res)) : lxC l yL_difference wsL_difference (rmX 8 135) G g [.ref (ad 0), .int p1, .int p2, .ref o1] ((o1, .inl (g 4, 1, .inr (.inl fo))) :: (wX g ad bd sc tl tat tb cn cf sn sf tn tf vv ov)) (some (.int 0)) (fun w => w = (o1, .inl (g 4, 1, .inr (.inl (vp_updL fo 0 (res.1.toInt64))))) :: (wX g ad bd sc tl tat tb cn cf sn sf tn tf res.2.1 res.2.2)) := by
  refine lxC.of (cc := cL_difference) (maxL := 5) (ret := some .int) (by decide) rfl (Nat.le_of_ble_eq_true rfl) ?_
  intro p e s m below meth c ls A X K hA hP hD hS hs hnc htab hl
  obtain ⟨hx, hb, hml, hr, hown, hts, hk⟩ := id X
  have hl : lv_has ls 5 [(0, .ref (ad 0)), (1, .int p1), (2, .int p2), (3, .ref o1)] := hl
  refine lv_aload_n hx hb dL_difference_0 rfl (lv_at hl 3 rfl) ?_
  refine lv_iconst (v := 0) hx hb dL_difference_1 (by decide) ?_
  refine lv_aload_n hx hb dL_difference_2 rfl (lv_at hl 0 rfl) ?_
  refine lv_iload_n hx hb dL_difference_3 rfl (lv_at hl 1 rfl) ?_
  refine lv_iload_n hx hb dL_difference_4 rfl (lv_at hl 2 rfl) ?_
  refine rwVf (ci := 3) (As := [.int p1, .int p2]) (rest := [.int 0, .ref o1]) X K (k_X3_difference l G g ad bd sc tl tat tb cn cf sn sf tn tf vv ov p1 p2 _ hq) hd_X3_difference gL_difference_X3_difference hP hD hS hA foc_hd hl.1 dL_difference_5 rfl rfl ⟨(Nat.le_of_ble_eq_true rfl), (Nat.le_of_ble_eq_true rfl)⟩ rfl rfl rfl (Nat.le_of_ble_eq_true rfl) ⟨Nat.zero_le _, Nat.zero_le _⟩ (fun H locs hP hD hS => ?_)
  refine lv_i2l (v := res.1.toInt64) hx hb dL_difference_8 rfl ?_
  refine va_last hx hb K.1 hP hD hS 0 4 rfl rfl (vp_in_iff.mpr (by decide)) dL_difference_9 (fun H locs hP hD hS => ?_)
  have hP : va_P G vwCl ((o1, .inl (g 4, 1, .inr (.inl (vp_updL fo 0 (res.1.toInt64))))) :: (wX g ad bd sc tl tat tb cn cf sn sf tn tf res.2.1 res.2.2)) H := hP
  have hD : va_D A ((o1, .inl (g 4, 1, .inr (.inl (vp_updL fo 0 (res.1.toInt64))))) :: (wX g ad bd sc tl tat tb cn cf sn sf tn tf res.2.1 res.2.2)) := hD
  refine lv_goto (tgt := 17) hx hb dL_difference_10 (by decide) ?_
  refine lv_iconst (v := 0) hx hb dL_difference_17 (by decide) ?_
  refine W.widen (k := 1) (n := 6) (Nat.zero_le _) (Nat.zero_le _) ?_
  exact lx_iret hx hb hr hk rfl hP hD hS dL_difference_18
set_option maxHeartbeats 4000000 in
set_option maxRecDepth 100000 in
theorem kxL_difference (l : Launch) (hf0 : l.stackTraces = false) (G : va_G) (g : Nat → ClassId) (ad : Nat → Nat) (bd : Nat → Nat → Nat) (sc : Int32) (tl : Int32) (tat : Int32) (tb : Nat → Int32) (cn : Nat → Int32) (cf : Nat → Nat → Int32) (sn : Nat → Nat → Int32) (sf : Nat → Nat → Nat → Int32) (tn : Int32) (tf : Nat → Int32) (vv : Nat → Int32) (ov : Nat → Int32) (o1 : Nat) (fo : Nat → Int64) (p1 : Int32) (p2 : Int32) (t t' : Nat) (ht : t = 1 ∧ t' = 1) (hq : F_X3_difference cn cf vv ov p1 p2 = some (.inl t)) : lxC l yL_difference wsL_difference (rmX 8 135) G g [.ref (ad 0), .int p1, .int p2, .ref o1] ((o1, .inl (g 4, 1, .inr (.inl fo))) :: (wX g ad bd sc tl tat tb cn cf sn sf tn tf vv ov)) (some (.int (nI t'))) (fun w => w = (o1, .inl (g 4, 1, .inr (.inl fo))) :: (wX g ad bd sc tl tat tb cn cf sn sf tn tf vv ov)) := by
  refine lxC.of (cc := cL_difference) (maxL := 5) (ret := some .int) (by decide) rfl (Nat.le_of_ble_eq_true rfl) ?_
  intro p e s m below meth c ls A X K hA hP hD hS hs hnc htab hl
  obtain ⟨hx, hb, hml, hr, hown, hts, hk⟩ := id X
  have hl : lv_has ls 5 [(0, .ref (ad 0)), (1, .int p1), (2, .int p2), (3, .ref o1)] := hl
  obtain ⟨rfl, rfl⟩ := ht
  refine lv_aload_n hx hb dL_difference_0 rfl (lv_at hl 3 rfl) ?_
  refine lv_iconst (v := 0) hx hb dL_difference_1 (by decide) ?_
  refine lv_aload_n hx hb dL_difference_2 rfl (lv_at hl 0 rfl) ?_
  refine lv_iload_n hx hb dL_difference_3 rfl (lv_at hl 1 rfl) ?_
  refine lv_iload_n hx hb dL_difference_4 rfl (lv_at hl 2 rfl) ?_
  refine lx_throw (wr := [(o1, .inl (g 4, 1, .inr (.inl fo)))]) (ci := 3) (As := [.int p1, .int p2]) (rest := [.int 0, .ref o1]) X K (kx_X3_difference l hf0 G g ad bd sc tl tat tb cn cf sn sf tn tf vv ov p1 p2 _ hq) hd_X3_difference gL_difference_X3_difference hP hD hS hA hs hl.1 dL_difference_5 rfl rfl ⟨(Nat.le_of_ble_eq_true rfl), (Nat.le_of_ble_eq_true rfl)⟩ rfl rfl rfl (Nat.le_of_ble_eq_true rfl) ⟨(Nat.le_of_ble_eq_true rfl), (Nat.le_of_ble_eq_true rfl)⟩ (fun q ce w0 H locs hp0 hP hD hS hce hcv hcl => ?_)
  refine vx_catch (own := RL) (name := exN 1) hown [] (⟨0, 10, 13, 13⟩ : ExceptionTableEntry) [] (htab.trans rfl) (fun z hz => absurd hz List.not_mem_nil) (by decide) (by decide) (hts _ (List.mem_of_getElem? (i := 1) rfl)) (va_Nw.use rfl (hs.2.2.2.1 (exN 1) (by decide))) hce hcv hcl ?_
  refine lv_astore (lv' := [(4, .ref q), (0, .ref (ad 0)), (1, .int p1), (2, .int p2), (3, .ref o1)]) hx hb dL_difference_13 hl (by decide) rfl (fun ls hl => ?_)
  refine lv_iconst (v := 1) hx hb dL_difference_15 (by decide) ?_
  exact lx_iret hx hb hr hk (congrArg (fun z => (o1, .inl (g 4, 1, .inr (.inl fo))) :: z) hp0) hP hD hS dL_difference_16
set_option maxHeartbeats 4000000 in
set_option maxRecDepth 100000 in
theorem kL_mean (l : Launch) (G : va_G) (g : Nat → ClassId) (ad : Nat → Nat) (bd : Nat → Nat → Nat) (sc : Int32) (tl : Int32) (tat : Int32) (tb : Nat → Int32) (cn : Nat → Int32) (cf : Nat → Nat → Int32) (sn : Nat → Nat → Int32) (sf : Nat → Nat → Nat → Int32) (tn : Int32) (tf : Nat → Int32) (vv : Nat → Int32) (ov : Nat → Int32) (o2 : Nat) (fd : Nat → UInt64) (p1 : Int32) (res : UInt64 × (Nat → Int32)) (hq : F_X3_mean cn cf vv p1 = some (.inr res)) : lxC l yL_mean wsL_mean (rmX 8 153) G g [.ref (ad 0), .int p1, .ref o2] ((o2, .inl (g 5, 1, .inr (.inr (.inr (.inl fd))))) :: (wX g ad bd sc tl tat tb cn cf sn sf tn tf vv ov)) (some (.int 0)) (fun w => w = (o2, .inl (g 5, 1, .inr (.inr (.inr (.inl (vf_upd fd 0 (res.1))))))) :: (wX g ad bd sc tl tat tb cn cf sn sf tn tf res.2 ov)) := by
  refine lxC.of (cc := cL_mean) (maxL := 4) (ret := some .int) (by decide) rfl (Nat.le_of_ble_eq_true rfl) ?_
  intro p e s m below meth c ls A X K hA hP hD hS hs hnc htab hl
  obtain ⟨hx, hb, hml, hr, hown, hts, hk⟩ := id X
  have hl : lv_has ls 4 [(0, .ref (ad 0)), (1, .int p1), (2, .ref o2)] := hl
  refine lv_aload_n hx hb dL_mean_0 rfl (lv_at hl 2 rfl) ?_
  refine lv_iconst (v := 0) hx hb dL_mean_1 (by decide) ?_
  refine lv_aload_n hx hb dL_mean_2 rfl (lv_at hl 0 rfl) ?_
  refine lv_iload_n hx hb dL_mean_3 rfl (lv_at hl 1 rfl) ?_
  refine rwVf (ci := 3) (As := [.int p1]) (rest := [.int 0, .ref o2]) X K (k_X3_mean l G g ad bd sc tl tat tb cn cf sn sf tn tf vv ov p1 _ hq) hd_X3_mean gL_mean_X3_mean hP hD hS hA foc_hd hl.1 dL_mean_4 rfl rfl ⟨(Nat.le_of_ble_eq_true rfl), (Nat.le_of_ble_eq_true rfl)⟩ rfl rfl rfl (Nat.le_of_ble_eq_true rfl) ⟨Nat.zero_le _, Nat.zero_le _⟩ (fun H locs hP hD hS => ?_)
  refine va_dast hx hb K.1 hP hD hS 0 5 rfl rfl (vp_in_iff.mpr (by decide)) dL_mean_7 (fun H locs hP hD hS => ?_)
  have hP : va_P G vwCl ((o2, .inl (g 5, 1, .inr (.inr (.inr (.inl (vf_upd fd 0 (res.1))))))) :: (wX g ad bd sc tl tat tb cn cf sn sf tn tf res.2 ov)) H := hP
  have hD : va_D A ((o2, .inl (g 5, 1, .inr (.inr (.inr (.inl (vf_upd fd 0 (res.1))))))) :: (wX g ad bd sc tl tat tb cn cf sn sf tn tf res.2 ov)) := hD
  refine lv_goto (tgt := 14) hx hb dL_mean_8 (by decide) ?_
  refine lv_iconst (v := 0) hx hb dL_mean_14 (by decide) ?_
  refine W.widen (k := 1) (n := 6) (Nat.zero_le _) (Nat.zero_le _) ?_
  exact lx_iret hx hb hr hk rfl hP hD hS dL_mean_15
set_option maxHeartbeats 4000000 in
set_option maxRecDepth 100000 in
theorem kxL_mean (l : Launch) (hf0 : l.stackTraces = false) (G : va_G) (g : Nat → ClassId) (ad : Nat → Nat) (bd : Nat → Nat → Nat) (sc : Int32) (tl : Int32) (tat : Int32) (tb : Nat → Int32) (cn : Nat → Int32) (cf : Nat → Nat → Int32) (sn : Nat → Nat → Int32) (sf : Nat → Nat → Nat → Int32) (tn : Int32) (tf : Nat → Int32) (vv : Nat → Int32) (ov : Nat → Int32) (o2 : Nat) (fd : Nat → UInt64) (p1 : Int32) (t t' : Nat) (ht : t = 1 ∧ t' = 1) (hq : F_X3_mean cn cf vv p1 = some (.inl t)) : lxC l yL_mean wsL_mean (rmX 8 153) G g [.ref (ad 0), .int p1, .ref o2] ((o2, .inl (g 5, 1, .inr (.inr (.inr (.inl fd))))) :: (wX g ad bd sc tl tat tb cn cf sn sf tn tf vv ov)) (some (.int (nI t'))) (fun w => w = (o2, .inl (g 5, 1, .inr (.inr (.inr (.inl fd))))) :: (wX g ad bd sc tl tat tb cn cf sn sf tn tf vv ov)) := by
  refine lxC.of (cc := cL_mean) (maxL := 4) (ret := some .int) (by decide) rfl (Nat.le_of_ble_eq_true rfl) ?_
  intro p e s m below meth c ls A X K hA hP hD hS hs hnc htab hl
  obtain ⟨hx, hb, hml, hr, hown, hts, hk⟩ := id X
  have hl : lv_has ls 4 [(0, .ref (ad 0)), (1, .int p1), (2, .ref o2)] := hl
  obtain ⟨rfl, rfl⟩ := ht
  refine lv_aload_n hx hb dL_mean_0 rfl (lv_at hl 2 rfl) ?_
  refine lv_iconst (v := 0) hx hb dL_mean_1 (by decide) ?_
  refine lv_aload_n hx hb dL_mean_2 rfl (lv_at hl 0 rfl) ?_
  refine lv_iload_n hx hb dL_mean_3 rfl (lv_at hl 1 rfl) ?_
  refine lx_throw (wr := [(o2, .inl (g 5, 1, .inr (.inr (.inr (.inl fd)))))]) (ci := 3) (As := [.int p1]) (rest := [.int 0, .ref o2]) X K (kx_X3_mean l hf0 G g ad bd sc tl tat tb cn cf sn sf tn tf vv ov p1 _ hq) hd_X3_mean gL_mean_X3_mean hP hD hS hA hs hl.1 dL_mean_4 rfl rfl ⟨(Nat.le_of_ble_eq_true rfl), (Nat.le_of_ble_eq_true rfl)⟩ rfl rfl rfl (Nat.le_of_ble_eq_true rfl) ⟨(Nat.le_of_ble_eq_true rfl), (Nat.le_of_ble_eq_true rfl)⟩ (fun q ce w0 H locs hp0 hP hD hS hce hcv hcl => ?_)
  refine vx_catch (own := RL) (name := exN 1) hown [] (⟨0, 8, 11, 13⟩ : ExceptionTableEntry) [] (htab.trans rfl) (fun z hz => absurd hz List.not_mem_nil) (by decide) (by decide) (hts _ (List.mem_of_getElem? (i := 1) rfl)) (va_Nw.use rfl (hs.2.2.2.1 (exN 1) (by decide))) hce hcv hcl ?_
  refine lv_astore_n (lv' := [(3, .ref q), (0, .ref (ad 0)), (1, .int p1), (2, .ref o2)]) hx hb dL_mean_11 rfl hl (by decide) rfl (fun ls hl => ?_)
  refine lv_iconst (v := 1) hx hb dL_mean_12 (by decide) ?_
  exact lx_iret hx hb hr hk (congrArg (fun z => (o2, .inl (g 5, 1, .inr (.inr (.inr (.inl fd))))) :: z) hp0) hP hD hS dL_mean_13
set_option maxHeartbeats 4000000 in
set_option maxRecDepth 100000 in
theorem kL_error (l : Launch) (G : va_G) (g : Nat → ClassId) (ad : Nat → Nat) (bd : Nat → Nat → Nat) (sc : Int32) (tl : Int32) (tat : Int32) (tb : Nat → Int32) (cn : Nat → Int32) (cf : Nat → Nat → Int32) (sn : Nat → Nat → Int32) (sf : Nat → Nat → Nat → Int32) (tn : Int32) (tf : Nat → Int32) (vv : Nat → Int32) (ov : Nat → Int32) (o1 : Nat) (fo : Nat → Int64) (p1 : Int32) (p2 : Int32) (res : Int32 × Int32 × (Nat → Int32) × (Nat → Int32) × (Nat → Int32)) (hq : F_X3_error cn cf tn tf vv ov p1 p2 = some (.inr res)) : lxC l yL_error wsL_error (rmX 8 152) G g [.ref (ad 0), .int p1, .int p2, .ref o1] ((o1, .inl (g 4, 1, .inr (.inl fo))) :: (wX g ad bd sc tl tat tb cn cf sn sf tn tf vv ov)) (some (.int 0)) (fun w => w = (o1, .inl (g 4, 1, .inr (.inl (vp_updL fo 0 (res.1.toInt64))))) :: (wX g ad bd sc tl tat tb cn cf sn sf res.2.1 res.2.2.1 res.2.2.2.1 res.2.2.2.2)) := by
  refine lxC.of (cc := cL_error) (maxL := 5) (ret := some .int) (by decide) rfl (Nat.le_of_ble_eq_true rfl) ?_
  intro p e s m below meth c ls A X K hA hP hD hS hs hnc htab hl
  obtain ⟨hx, hb, hml, hr, hown, hts, hk⟩ := id X
  have hl : lv_has ls 5 [(0, .ref (ad 0)), (1, .int p1), (2, .int p2), (3, .ref o1)] := hl
  refine lv_aload_n hx hb dL_error_0 rfl (lv_at hl 3 rfl) ?_
  refine lv_iconst (v := 0) hx hb dL_error_1 (by decide) ?_
  refine lv_aload_n hx hb dL_error_2 rfl (lv_at hl 0 rfl) ?_
  refine lv_iload_n hx hb dL_error_3 rfl (lv_at hl 1 rfl) ?_
  refine lv_iload_n hx hb dL_error_4 rfl (lv_at hl 2 rfl) ?_
  refine rwVf (ci := 3) (As := [.int p1, .int p2]) (rest := [.int 0, .ref o1]) X K (k_X3_error l G g ad bd sc tl tat tb cn cf sn sf tn tf vv ov p1 p2 _ hq) hd_X3_error gL_error_X3_error hP hD hS hA foc_hd hl.1 dL_error_5 rfl rfl ⟨(Nat.le_of_ble_eq_true rfl), (Nat.le_of_ble_eq_true rfl)⟩ rfl rfl rfl (Nat.le_of_ble_eq_true rfl) ⟨Nat.zero_le _, Nat.zero_le _⟩ (fun H locs hP hD hS => ?_)
  refine lv_i2l (v := res.1.toInt64) hx hb dL_error_8 rfl ?_
  refine va_last hx hb K.1 hP hD hS 0 4 rfl rfl (vp_in_iff.mpr (by decide)) dL_error_9 (fun H locs hP hD hS => ?_)
  have hP : va_P G vwCl ((o1, .inl (g 4, 1, .inr (.inl (vp_updL fo 0 (res.1.toInt64))))) :: (wX g ad bd sc tl tat tb cn cf sn sf res.2.1 res.2.2.1 res.2.2.2.1 res.2.2.2.2)) H := hP
  have hD : va_D A ((o1, .inl (g 4, 1, .inr (.inl (vp_updL fo 0 (res.1.toInt64))))) :: (wX g ad bd sc tl tat tb cn cf sn sf res.2.1 res.2.2.1 res.2.2.2.1 res.2.2.2.2)) := hD
  refine lv_goto (tgt := 17) hx hb dL_error_10 (by decide) ?_
  refine lv_iconst (v := 0) hx hb dL_error_17 (by decide) ?_
  refine W.widen (k := 1) (n := 6) (Nat.zero_le _) (Nat.zero_le _) ?_
  exact lx_iret hx hb hr hk rfl hP hD hS dL_error_18
set_option maxHeartbeats 4000000 in
set_option maxRecDepth 100000 in
theorem kxL_error (l : Launch) (hf0 : l.stackTraces = false) (G : va_G) (g : Nat → ClassId) (ad : Nat → Nat) (bd : Nat → Nat → Nat) (sc : Int32) (tl : Int32) (tat : Int32) (tb : Nat → Int32) (cn : Nat → Int32) (cf : Nat → Nat → Int32) (sn : Nat → Nat → Int32) (sf : Nat → Nat → Nat → Int32) (tn : Int32) (tf : Nat → Int32) (vv : Nat → Int32) (ov : Nat → Int32) (o1 : Nat) (fo : Nat → Int64) (p1 : Int32) (p2 : Int32) (t t' : Nat) (ht : t = 1 ∧ t' = 1) (hq : F_X3_error cn cf tn tf vv ov p1 p2 = some (.inl t)) : lxC l yL_error wsL_error (rmX 8 152) G g [.ref (ad 0), .int p1, .int p2, .ref o1] ((o1, .inl (g 4, 1, .inr (.inl fo))) :: (wX g ad bd sc tl tat tb cn cf sn sf tn tf vv ov)) (some (.int (nI t'))) (fun w => w = (o1, .inl (g 4, 1, .inr (.inl fo))) :: (wX g ad bd sc tl tat tb cn cf sn sf tn tf vv ov)) := by
  refine lxC.of (cc := cL_error) (maxL := 5) (ret := some .int) (by decide) rfl (Nat.le_of_ble_eq_true rfl) ?_
  intro p e s m below meth c ls A X K hA hP hD hS hs hnc htab hl
  obtain ⟨hx, hb, hml, hr, hown, hts, hk⟩ := id X
  have hl : lv_has ls 5 [(0, .ref (ad 0)), (1, .int p1), (2, .int p2), (3, .ref o1)] := hl
  obtain ⟨rfl, rfl⟩ := ht
  refine lv_aload_n hx hb dL_error_0 rfl (lv_at hl 3 rfl) ?_
  refine lv_iconst (v := 0) hx hb dL_error_1 (by decide) ?_
  refine lv_aload_n hx hb dL_error_2 rfl (lv_at hl 0 rfl) ?_
  refine lv_iload_n hx hb dL_error_3 rfl (lv_at hl 1 rfl) ?_
  refine lv_iload_n hx hb dL_error_4 rfl (lv_at hl 2 rfl) ?_
  refine lx_throw (wr := [(o1, .inl (g 4, 1, .inr (.inl fo)))]) (ci := 3) (As := [.int p1, .int p2]) (rest := [.int 0, .ref o1]) X K (kx_X3_error l hf0 G g ad bd sc tl tat tb cn cf sn sf tn tf vv ov p1 p2 _ hq) hd_X3_error gL_error_X3_error hP hD hS hA hs hl.1 dL_error_5 rfl rfl ⟨(Nat.le_of_ble_eq_true rfl), (Nat.le_of_ble_eq_true rfl)⟩ rfl rfl rfl (Nat.le_of_ble_eq_true rfl) ⟨(Nat.le_of_ble_eq_true rfl), (Nat.le_of_ble_eq_true rfl)⟩ (fun q ce w0 H locs hp0 hP hD hS hce hcv hcl => ?_)
  refine vx_catch (own := RL) (name := exN 1) hown [] (⟨0, 10, 13, 13⟩ : ExceptionTableEntry) [] (htab.trans rfl) (fun z hz => absurd hz List.not_mem_nil) (by decide) (by decide) (hts _ (List.mem_of_getElem? (i := 1) rfl)) (va_Nw.use rfl (hs.2.2.2.1 (exN 1) (by decide))) hce hcv hcl ?_
  refine lv_astore (lv' := [(4, .ref q), (0, .ref (ad 0)), (1, .int p1), (2, .int p2), (3, .ref o1)]) hx hb dL_error_13 hl (by decide) rfl (fun ls hl => ?_)
  refine lv_iconst (v := 1) hx hb dL_error_15 (by decide) ?_
  exact lx_iret hx hb hr hk (congrArg (fun z => (o1, .inl (g 4, 1, .inr (.inl fo))) :: z) hp0) hP hD hS dL_error_16
set_option maxHeartbeats 4000000 in
set_option maxRecDepth 100000 in
theorem kL_greatestStretch (l : Launch) (G : va_G) (g : Nat → ClassId) (ad : Nat → Nat) (bd : Nat → Nat → Nat) (sc : Int32) (tl : Int32) (tat : Int32) (tb : Nat → Int32) (cn : Nat → Int32) (cf : Nat → Nat → Int32) (sn : Nat → Nat → Int32) (sf : Nat → Nat → Nat → Int32) (tn : Int32) (tf : Nat → Int32) (vv : Nat → Int32) (ov : Nat → Int32) (o1 : Nat) (fo : Nat → Int64) (p1 : Int32) (p2 : Int32) (p3 : Int32) (res : Int32) (hq : F_X3_greatestStretch cn cf p1 p2 p3 = some (.inr res)) : lxC l yL_greatestStretch wsL_greatestStretch (rmX 9 158) G g [.ref (ad 0), .int p1, .int p2, .int p3, .ref o1] ((o1, .inl (g 4, 1, .inr (.inl fo))) :: (wX g ad bd sc tl tat tb cn cf sn sf tn tf vv ov)) (some (.int 0)) (fun w => w = (o1, .inl (g 4, 1, .inr (.inl (vp_updL fo 0 (res.toInt64))))) :: (wX g ad bd sc tl tat tb cn cf sn sf tn tf vv ov)) := by
  refine lxC.of (cc := cL_greatestStretch) (maxL := 6) (ret := some .int) (by decide) rfl (Nat.le_of_ble_eq_true rfl) ?_
  intro p e s m below meth c ls A X K hA hP hD hS hs hnc htab hl
  obtain ⟨hx, hb, hml, hr, hown, hts, hk⟩ := id X
  have hl : lv_has ls 6 [(0, .ref (ad 0)), (1, .int p1), (2, .int p2), (3, .int p3), (4, .ref o1)] := hl
  refine lv_aload hx hb dL_greatestStretch_0 (lv_at hl 4 rfl) ?_
  refine lv_iconst (v := 0) hx hb dL_greatestStretch_2 (by decide) ?_
  refine lv_aload_n hx hb dL_greatestStretch_3 rfl (lv_at hl 0 rfl) ?_
  refine lv_iload_n hx hb dL_greatestStretch_4 rfl (lv_at hl 1 rfl) ?_
  refine lv_iload_n hx hb dL_greatestStretch_5 rfl (lv_at hl 2 rfl) ?_
  refine lv_iload_n hx hb dL_greatestStretch_6 rfl (lv_at hl 3 rfl) ?_
  refine roV (ci := 3) (As := [.int p1, .int p2, .int p3]) (rest := [.int 0, .ref o1]) X K (k_X3_greatestStretch l G g ad bd sc tl tat tb cn cf sn sf tn tf vv ov p1 p2 p3 _ hq) hd_X3_greatestStretch gL_greatestStretch_X3_greatestStretch ((foc_hd (X' := [])).sub hP) hl.1 dL_greatestStretch_7 rfl rfl ⟨(Nat.le_of_ble_eq_true rfl), (Nat.le_of_ble_eq_true rfl)⟩ rfl rfl rfl (Nat.le_of_ble_eq_true rfl) ⟨Nat.zero_le _, Nat.zero_le _⟩ ?_
  refine lv_i2l (v := res.toInt64) hx hb dL_greatestStretch_10 rfl ?_
  refine va_last hx hb K.1 hP hD hS 0 4 rfl rfl (vp_in_iff.mpr (by decide)) dL_greatestStretch_11 (fun H locs hP hD hS => ?_)
  have hP : va_P G vwCl ((o1, .inl (g 4, 1, .inr (.inl (vp_updL fo 0 (res.toInt64))))) :: (wX g ad bd sc tl tat tb cn cf sn sf tn tf vv ov)) H := hP
  have hD : va_D A ((o1, .inl (g 4, 1, .inr (.inl (vp_updL fo 0 (res.toInt64))))) :: (wX g ad bd sc tl tat tb cn cf sn sf tn tf vv ov)) := hD
  refine lv_goto (tgt := 23) hx hb dL_greatestStretch_12 (by decide) ?_
  refine lv_iconst (v := 0) hx hb dL_greatestStretch_23 (by decide) ?_
  refine W.widen (k := 1) (n := 6) (Nat.zero_le _) (Nat.zero_le _) ?_
  exact lx_iret hx hb hr hk rfl hP hD hS dL_greatestStretch_24
set_option maxHeartbeats 4000000 in
set_option maxRecDepth 100000 in
theorem kxL_greatestStretch (l : Launch) (hf0 : l.stackTraces = false) (G : va_G) (g : Nat → ClassId) (ad : Nat → Nat) (bd : Nat → Nat → Nat) (sc : Int32) (tl : Int32) (tat : Int32) (tb : Nat → Int32) (cn : Nat → Int32) (cf : Nat → Nat → Int32) (sn : Nat → Nat → Int32) (sf : Nat → Nat → Nat → Int32) (tn : Int32) (tf : Nat → Int32) (vv : Nat → Int32) (ov : Nat → Int32) (o1 : Nat) (fo : Nat → Int64) (p1 : Int32) (p2 : Int32) (p3 : Int32) (t t' : Nat) (ht : t < 3 ∧ 0 < t ∧ t' = t) (hq : F_X3_greatestStretch cn cf p1 p2 p3 = some (.inl t)) : lxC l yL_greatestStretch wsL_greatestStretch (rmX 9 158) G g [.ref (ad 0), .int p1, .int p2, .int p3, .ref o1] ((o1, .inl (g 4, 1, .inr (.inl fo))) :: (wX g ad bd sc tl tat tb cn cf sn sf tn tf vv ov)) (some (.int (nI t'))) (fun w => w = (o1, .inl (g 4, 1, .inr (.inl fo))) :: (wX g ad bd sc tl tat tb cn cf sn sf tn tf vv ov)) := by
  refine lxC.of (cc := cL_greatestStretch) (maxL := 6) (ret := some .int) (by decide) rfl (Nat.le_of_ble_eq_true rfl) ?_
  intro p e s m below meth c ls A X K hA hP hD hS hs hnc htab hl
  obtain ⟨hx, hb, hml, hr, hown, hts, hk⟩ := id X
  have hl : lv_has ls 6 [(0, .ref (ad 0)), (1, .int p1), (2, .int p2), (3, .int p3), (4, .ref o1)] := hl
  rcases (show t = 1 ∧ t' = 1 ∨ t = 2 ∧ t' = 2 by omega) with ⟨rfl, rfl⟩ | ⟨rfl, rfl⟩
  · refine lv_aload hx hb dL_greatestStretch_0 (lv_at hl 4 rfl) ?_
    refine lv_iconst (v := 0) hx hb dL_greatestStretch_2 (by decide) ?_
    refine lv_aload_n hx hb dL_greatestStretch_3 rfl (lv_at hl 0 rfl) ?_
    refine lv_iload_n hx hb dL_greatestStretch_4 rfl (lv_at hl 1 rfl) ?_
    refine lv_iload_n hx hb dL_greatestStretch_5 rfl (lv_at hl 2 rfl) ?_
    refine lv_iload_n hx hb dL_greatestStretch_6 rfl (lv_at hl 3 rfl) ?_
    refine lx_throw (wr := [(o1, .inl (g 4, 1, .inr (.inl fo)))]) (ci := 3) (As := [.int p1, .int p2, .int p3]) (rest := [.int 0, .ref o1]) X K (kx_X3_greatestStretch l hf0 G g ad bd sc tl tat tb cn cf sn sf tn tf vv ov p1 p2 p3 _ hq) hd_X3_greatestStretch gL_greatestStretch_X3_greatestStretch hP hD hS hA hs hl.1 dL_greatestStretch_7 rfl rfl ⟨(Nat.le_of_ble_eq_true rfl), (Nat.le_of_ble_eq_true rfl)⟩ rfl rfl rfl (Nat.le_of_ble_eq_true rfl) ⟨(Nat.le_of_ble_eq_true rfl), (Nat.le_of_ble_eq_true rfl)⟩ (fun q ce w0 H locs hp0 hP hD hS hce hcv hcl => ?_)
    refine vx_catch (own := RL) (name := exN 1) hown [] (⟨0, 12, 15, 13⟩ : ExceptionTableEntry) [(⟨0, 12, 19, 15⟩ : ExceptionTableEntry)] (htab.trans rfl) (fun z hz => absurd hz List.not_mem_nil) (by decide) (by decide) (hts _ (List.mem_of_getElem? (i := 1) rfl)) (va_Nw.use rfl (hs.2.2.2.1 (exN 1) (by decide))) hce hcv hcl ?_
    refine lv_astore (lv' := [(5, .ref q), (0, .ref (ad 0)), (1, .int p1), (2, .int p2), (3, .int p3), (4, .ref o1)]) hx hb dL_greatestStretch_15 hl (by decide) rfl (fun ls hl => ?_)
    refine lv_iconst (v := 1) hx hb dL_greatestStretch_17 (by decide) ?_
    exact lx_iret hx hb hr hk (congrArg (fun z => (o1, .inl (g 4, 1, .inr (.inl fo))) :: z) hp0) hP hD hS dL_greatestStretch_18
  · refine lv_aload hx hb dL_greatestStretch_0 (lv_at hl 4 rfl) ?_
    refine lv_iconst (v := 0) hx hb dL_greatestStretch_2 (by decide) ?_
    refine lv_aload_n hx hb dL_greatestStretch_3 rfl (lv_at hl 0 rfl) ?_
    refine lv_iload_n hx hb dL_greatestStretch_4 rfl (lv_at hl 1 rfl) ?_
    refine lv_iload_n hx hb dL_greatestStretch_5 rfl (lv_at hl 2 rfl) ?_
    refine lv_iload_n hx hb dL_greatestStretch_6 rfl (lv_at hl 3 rfl) ?_
    refine lx_throw (wr := [(o1, .inl (g 4, 1, .inr (.inl fo)))]) (ci := 3) (As := [.int p1, .int p2, .int p3]) (rest := [.int 0, .ref o1]) X K (kx_X3_greatestStretch l hf0 G g ad bd sc tl tat tb cn cf sn sf tn tf vv ov p1 p2 p3 _ hq) hd_X3_greatestStretch gL_greatestStretch_X3_greatestStretch hP hD hS hA hs hl.1 dL_greatestStretch_7 rfl rfl ⟨(Nat.le_of_ble_eq_true rfl), (Nat.le_of_ble_eq_true rfl)⟩ rfl rfl rfl (Nat.le_of_ble_eq_true rfl) ⟨(Nat.le_of_ble_eq_true rfl), (Nat.le_of_ble_eq_true rfl)⟩ (fun q ce w0 H locs hp0 hP hD hS hce hcv hcl => ?_)
    refine vx_catch (own := RL) (name := exN 2) hown [(⟨0, 12, 15, 13⟩ : ExceptionTableEntry)] (⟨0, 12, 19, 15⟩ : ExceptionTableEntry) [] (htab.trans rfl) (fun z hz => by
      rcases List.mem_cons.mp hz with rfl | hz
      · exact Or.inr ⟨by decide, exN 1, (hts _ (List.mem_of_getElem? (i := 1) rfl)), hnc (2, 1) (by decide)⟩
      exact absurd hz List.not_mem_nil) (by decide) (by decide) (hts _ (List.mem_of_getElem? (i := 2) rfl)) (va_Nw.use rfl (hs.2.2.2.1 (exN 2) (by decide))) hce hcv hcl ?_
    refine lv_astore (lv' := [(5, .ref q), (0, .ref (ad 0)), (1, .int p1), (2, .int p2), (3, .int p3), (4, .ref o1)]) hx hb dL_greatestStretch_19 hl (by decide) rfl (fun ls hl => ?_)
    refine lv_iconst (v := 2) hx hb dL_greatestStretch_21 (by decide) ?_
    exact lx_iret hx hb hr hk (congrArg (fun z => (o1, .inl (g 4, 1, .inr (.inl fo))) :: z) hp0) hP hD hS dL_greatestStretch_22
set_option maxHeartbeats 4000000 in
set_option maxRecDepth 100000 in
theorem kL_leastEase (l : Launch) (G : va_G) (g : Nat → ClassId) (ad : Nat → Nat) (bd : Nat → Nat → Nat) (sc : Int32) (tl : Int32) (tat : Int32) (tb : Nat → Int32) (cn : Nat → Int32) (cf : Nat → Nat → Int32) (sn : Nat → Nat → Int32) (sf : Nat → Nat → Nat → Int32) (tn : Int32) (tf : Nat → Int32) (vv : Nat → Int32) (ov : Nat → Int32) (o1 : Nat) (fo : Nat → Int64) (p1 : Int32) (p2 : Int32) (res : Int32 × Int32 × (Nat → Int32) × (Nat → Int32)) (hq : F_X3_leastEase cn cf tn tf vv p1 p2 = some (.inr res)) : lxC l yL_leastEase wsL_leastEase (rmX 8 162) G g [.ref (ad 0), .int p1, .int p2, .ref o1] ((o1, .inl (g 4, 1, .inr (.inl fo))) :: (wX g ad bd sc tl tat tb cn cf sn sf tn tf vv ov)) (some (.int 0)) (fun w => w = (o1, .inl (g 4, 1, .inr (.inl (vp_updL fo 0 (res.1.toInt64))))) :: (wX g ad bd sc tl tat tb cn cf sn sf res.2.1 res.2.2.1 res.2.2.2 ov)) := by
  refine lxC.of (cc := cL_leastEase) (maxL := 5) (ret := some .int) (by decide) rfl (Nat.le_of_ble_eq_true rfl) ?_
  intro p e s m below meth c ls A X K hA hP hD hS hs hnc htab hl
  obtain ⟨hx, hb, hml, hr, hown, hts, hk⟩ := id X
  have hl : lv_has ls 5 [(0, .ref (ad 0)), (1, .int p1), (2, .int p2), (3, .ref o1)] := hl
  refine lv_aload_n hx hb dL_leastEase_0 rfl (lv_at hl 3 rfl) ?_
  refine lv_iconst (v := 0) hx hb dL_leastEase_1 (by decide) ?_
  refine lv_aload_n hx hb dL_leastEase_2 rfl (lv_at hl 0 rfl) ?_
  refine lv_iload_n hx hb dL_leastEase_3 rfl (lv_at hl 1 rfl) ?_
  refine lv_iload_n hx hb dL_leastEase_4 rfl (lv_at hl 2 rfl) ?_
  refine rwVf (ci := 3) (As := [.int p1, .int p2]) (rest := [.int 0, .ref o1]) X K (k_X3_leastEase l G g ad bd sc tl tat tb cn cf sn sf tn tf vv ov p1 p2 _ hq) hd_X3_leastEase gL_leastEase_X3_leastEase hP hD hS hA foc_hd hl.1 dL_leastEase_5 rfl rfl ⟨(Nat.le_of_ble_eq_true rfl), (Nat.le_of_ble_eq_true rfl)⟩ rfl rfl rfl (Nat.le_of_ble_eq_true rfl) ⟨Nat.zero_le _, Nat.zero_le _⟩ (fun H locs hP hD hS => ?_)
  refine lv_i2l (v := res.1.toInt64) hx hb dL_leastEase_8 rfl ?_
  refine va_last hx hb K.1 hP hD hS 0 4 rfl rfl (vp_in_iff.mpr (by decide)) dL_leastEase_9 (fun H locs hP hD hS => ?_)
  have hP : va_P G vwCl ((o1, .inl (g 4, 1, .inr (.inl (vp_updL fo 0 (res.1.toInt64))))) :: (wX g ad bd sc tl tat tb cn cf sn sf res.2.1 res.2.2.1 res.2.2.2 ov)) H := hP
  have hD : va_D A ((o1, .inl (g 4, 1, .inr (.inl (vp_updL fo 0 (res.1.toInt64))))) :: (wX g ad bd sc tl tat tb cn cf sn sf res.2.1 res.2.2.1 res.2.2.2 ov)) := hD
  refine lv_goto (tgt := 17) hx hb dL_leastEase_10 (by decide) ?_
  refine lv_iconst (v := 0) hx hb dL_leastEase_17 (by decide) ?_
  refine W.widen (k := 1) (n := 6) (Nat.zero_le _) (Nat.zero_le _) ?_
  exact lx_iret hx hb hr hk rfl hP hD hS dL_leastEase_18
set_option maxHeartbeats 4000000 in
set_option maxRecDepth 100000 in
theorem kxL_leastEase (l : Launch) (hf0 : l.stackTraces = false) (G : va_G) (g : Nat → ClassId) (ad : Nat → Nat) (bd : Nat → Nat → Nat) (sc : Int32) (tl : Int32) (tat : Int32) (tb : Nat → Int32) (cn : Nat → Int32) (cf : Nat → Nat → Int32) (sn : Nat → Nat → Int32) (sf : Nat → Nat → Nat → Int32) (tn : Int32) (tf : Nat → Int32) (vv : Nat → Int32) (ov : Nat → Int32) (o1 : Nat) (fo : Nat → Int64) (p1 : Int32) (p2 : Int32) (t t' : Nat) (ht : t = 1 ∧ t' = 1) (hq : F_X3_leastEase cn cf tn tf vv p1 p2 = some (.inl t)) : lxC l yL_leastEase wsL_leastEase (rmX 8 162) G g [.ref (ad 0), .int p1, .int p2, .ref o1] ((o1, .inl (g 4, 1, .inr (.inl fo))) :: (wX g ad bd sc tl tat tb cn cf sn sf tn tf vv ov)) (some (.int (nI t'))) (fun w => w = (o1, .inl (g 4, 1, .inr (.inl fo))) :: (wX g ad bd sc tl tat tb cn cf sn sf tn tf vv ov)) := by
  refine lxC.of (cc := cL_leastEase) (maxL := 5) (ret := some .int) (by decide) rfl (Nat.le_of_ble_eq_true rfl) ?_
  intro p e s m below meth c ls A X K hA hP hD hS hs hnc htab hl
  obtain ⟨hx, hb, hml, hr, hown, hts, hk⟩ := id X
  have hl : lv_has ls 5 [(0, .ref (ad 0)), (1, .int p1), (2, .int p2), (3, .ref o1)] := hl
  obtain ⟨rfl, rfl⟩ := ht
  refine lv_aload_n hx hb dL_leastEase_0 rfl (lv_at hl 3 rfl) ?_
  refine lv_iconst (v := 0) hx hb dL_leastEase_1 (by decide) ?_
  refine lv_aload_n hx hb dL_leastEase_2 rfl (lv_at hl 0 rfl) ?_
  refine lv_iload_n hx hb dL_leastEase_3 rfl (lv_at hl 1 rfl) ?_
  refine lv_iload_n hx hb dL_leastEase_4 rfl (lv_at hl 2 rfl) ?_
  refine lx_throw (wr := [(o1, .inl (g 4, 1, .inr (.inl fo)))]) (ci := 3) (As := [.int p1, .int p2]) (rest := [.int 0, .ref o1]) X K (kx_X3_leastEase l hf0 G g ad bd sc tl tat tb cn cf sn sf tn tf vv ov p1 p2 _ hq) hd_X3_leastEase gL_leastEase_X3_leastEase hP hD hS hA hs hl.1 dL_leastEase_5 rfl rfl ⟨(Nat.le_of_ble_eq_true rfl), (Nat.le_of_ble_eq_true rfl)⟩ rfl rfl rfl (Nat.le_of_ble_eq_true rfl) ⟨(Nat.le_of_ble_eq_true rfl), (Nat.le_of_ble_eq_true rfl)⟩ (fun q ce w0 H locs hp0 hP hD hS hce hcv hcl => ?_)
  refine vx_catch (own := RL) (name := exN 1) hown [] (⟨0, 10, 13, 13⟩ : ExceptionTableEntry) [] (htab.trans rfl) (fun z hz => absurd hz List.not_mem_nil) (by decide) (by decide) (hts _ (List.mem_of_getElem? (i := 1) rfl)) (va_Nw.use rfl (hs.2.2.2.1 (exN 1) (by decide))) hce hcv hcl ?_
  refine lv_astore (lv' := [(4, .ref q), (0, .ref (ad 0)), (1, .int p1), (2, .int p2), (3, .ref o1)]) hx hb dL_leastEase_13 hl (by decide) rfl (fun ls hl => ?_)
  refine lv_iconst (v := 1) hx hb dL_leastEase_15 (by decide) ?_
  exact lx_iret hx hb hr hk (congrArg (fun z => (o1, .inl (g 4, 1, .inr (.inl fo))) :: z) hp0) hP hD hS dL_leastEase_16
set_option maxHeartbeats 4000000 in
set_option maxRecDepth 100000 in
theorem kL_append (l : Launch) (G : va_G) (g : Nat → ClassId) (ad : Nat → Nat) (bd : Nat → Nat → Nat) (sc : Int32) (tl : Int32) (tat : Int32) (tb : Nat → Int32) (cn : Nat → Int32) (cf : Nat → Nat → Int32) (sn : Nat → Nat → Int32) (sf : Nat → Nat → Nat → Int32) (tn : Int32) (tf : Nat → Int32) (vv : Nat → Int32) (ov : Nat → Int32) (o1 : Nat) (fo : Nat → Int64) (p1 : Int32) (res : Int32 × Int32 × (Nat → Int32)) (hq : F_X3_append tl tb p1 = some (.inr res)) : lxC l yL_append wsL_append (rmX 8 133) G g [.ref (ad 0), .int p1, .ref o1] ((o1, .inl (g 4, 1, .inr (.inl fo))) :: (wX g ad bd sc tl tat tb cn cf sn sf tn tf vv ov)) (some (.int 0)) (fun w => w = (o1, .inl (g 4, 1, .inr (.inl (vp_updL fo 0 (res.1.toInt64))))) :: (wX g ad bd sc res.2.1 tat res.2.2 cn cf sn sf tn tf vv ov)) := by
  refine lxC.of (cc := cL_append) (maxL := 4) (ret := some .int) (by decide) rfl (Nat.le_of_ble_eq_true rfl) ?_
  intro p e s m below meth c ls A X K hA hP hD hS hs hnc htab hl
  obtain ⟨hx, hb, hml, hr, hown, hts, hk⟩ := id X
  have hl : lv_has ls 4 [(0, .ref (ad 0)), (1, .int p1), (2, .ref o1)] := hl
  refine lv_aload_n hx hb dL_append_0 rfl (lv_at hl 2 rfl) ?_
  refine lv_iconst (v := 0) hx hb dL_append_1 (by decide) ?_
  refine lv_aload_n hx hb dL_append_2 rfl (lv_at hl 0 rfl) ?_
  refine lv_iload_n hx hb dL_append_3 rfl (lv_at hl 1 rfl) ?_
  refine rwVf (ci := 3) (As := [.int p1]) (rest := [.int 0, .ref o1]) X K (k_X3_append l G g ad bd sc tl tat tb cn cf sn sf tn tf vv ov p1 _ hq) hd_X3_append gL_append_X3_append hP hD hS hA foc_hd hl.1 dL_append_4 rfl rfl ⟨(Nat.le_of_ble_eq_true rfl), (Nat.le_of_ble_eq_true rfl)⟩ rfl rfl rfl (Nat.le_of_ble_eq_true rfl) ⟨Nat.zero_le _, Nat.zero_le _⟩ (fun H locs hP hD hS => ?_)
  refine lv_i2l (v := res.1.toInt64) hx hb dL_append_7 rfl ?_
  refine va_last hx hb K.1 hP hD hS 0 4 rfl rfl (vp_in_iff.mpr (by decide)) dL_append_8 (fun H locs hP hD hS => ?_)
  have hP : va_P G vwCl ((o1, .inl (g 4, 1, .inr (.inl (vp_updL fo 0 (res.1.toInt64))))) :: (wX g ad bd sc res.2.1 tat res.2.2 cn cf sn sf tn tf vv ov)) H := hP
  have hD : va_D A ((o1, .inl (g 4, 1, .inr (.inl (vp_updL fo 0 (res.1.toInt64))))) :: (wX g ad bd sc res.2.1 tat res.2.2 cn cf sn sf tn tf vv ov)) := hD
  refine lv_goto (tgt := 18) hx hb dL_append_9 (by decide) ?_
  refine lv_iconst (v := 0) hx hb dL_append_18 (by decide) ?_
  refine W.widen (k := 1) (n := 6) (Nat.zero_le _) (Nat.zero_le _) ?_
  exact lx_iret hx hb hr hk rfl hP hD hS dL_append_19
set_option maxHeartbeats 4000000 in
set_option maxRecDepth 100000 in
theorem kxL_append (l : Launch) (hf0 : l.stackTraces = false) (G : va_G) (g : Nat → ClassId) (ad : Nat → Nat) (bd : Nat → Nat → Nat) (sc : Int32) (tl : Int32) (tat : Int32) (tb : Nat → Int32) (cn : Nat → Int32) (cf : Nat → Nat → Int32) (sn : Nat → Nat → Int32) (sf : Nat → Nat → Nat → Int32) (tn : Int32) (tf : Nat → Int32) (vv : Nat → Int32) (ov : Nat → Int32) (o1 : Nat) (fo : Nat → Int64) (p1 : Int32) (t t' : Nat) (ht : t = 2 ∧ t' = 1 ∨ t = 3 ∧ t' = 2) (hq : F_X3_append tl tb p1 = some (.inl t)) : lxC l yL_append wsL_append (rmX 8 133) G g [.ref (ad 0), .int p1, .ref o1] ((o1, .inl (g 4, 1, .inr (.inl fo))) :: (wX g ad bd sc tl tat tb cn cf sn sf tn tf vv ov)) (some (.int (nI t'))) (fun w => w = (o1, .inl (g 4, 1, .inr (.inl fo))) :: (wX g ad bd sc tl tat tb cn cf sn sf tn tf vv ov)) := by
  refine lxC.of (cc := cL_append) (maxL := 4) (ret := some .int) (by decide) rfl (Nat.le_of_ble_eq_true rfl) ?_
  intro p e s m below meth c ls A X K hA hP hD hS hs hnc htab hl
  obtain ⟨hx, hb, hml, hr, hown, hts, hk⟩ := id X
  have hl : lv_has ls 4 [(0, .ref (ad 0)), (1, .int p1), (2, .ref o1)] := hl
  rcases (show t = 2 ∧ t' = 1 ∨ t = 3 ∧ t' = 2 by omega) with ⟨rfl, rfl⟩ | ⟨rfl, rfl⟩
  · refine lv_aload_n hx hb dL_append_0 rfl (lv_at hl 2 rfl) ?_
    refine lv_iconst (v := 0) hx hb dL_append_1 (by decide) ?_
    refine lv_aload_n hx hb dL_append_2 rfl (lv_at hl 0 rfl) ?_
    refine lv_iload_n hx hb dL_append_3 rfl (lv_at hl 1 rfl) ?_
    refine lx_throw (wr := [(o1, .inl (g 4, 1, .inr (.inl fo)))]) (ci := 3) (As := [.int p1]) (rest := [.int 0, .ref o1]) X K (kx_X3_append l hf0 G g ad bd sc tl tat tb cn cf sn sf tn tf vv ov p1 _ hq) hd_X3_append gL_append_X3_append hP hD hS hA hs hl.1 dL_append_4 rfl rfl ⟨(Nat.le_of_ble_eq_true rfl), (Nat.le_of_ble_eq_true rfl)⟩ rfl rfl rfl (Nat.le_of_ble_eq_true rfl) ⟨(Nat.le_of_ble_eq_true rfl), (Nat.le_of_ble_eq_true rfl)⟩ (fun q ce w0 H locs hp0 hP hD hS hce hcv hcl => ?_)
    refine vx_catch (own := RL) (name := exN 2) hown [] (⟨0, 9, 12, 15⟩ : ExceptionTableEntry) [(⟨0, 9, 15, 17⟩ : ExceptionTableEntry)] (htab.trans rfl) (fun z hz => absurd hz List.not_mem_nil) (by decide) (by decide) (hts _ (List.mem_of_getElem? (i := 1) rfl)) (va_Nw.use rfl (hs.2.2.2.1 (exN 2) (by decide))) hce hcv hcl ?_
    refine lv_astore_n (lv' := [(3, .ref q), (0, .ref (ad 0)), (1, .int p1), (2, .ref o1)]) hx hb dL_append_12 rfl hl (by decide) rfl (fun ls hl => ?_)
    refine lv_iconst (v := 1) hx hb dL_append_13 (by decide) ?_
    exact lx_iret hx hb hr hk (congrArg (fun z => (o1, .inl (g 4, 1, .inr (.inl fo))) :: z) hp0) hP hD hS dL_append_14
  · refine lv_aload_n hx hb dL_append_0 rfl (lv_at hl 2 rfl) ?_
    refine lv_iconst (v := 0) hx hb dL_append_1 (by decide) ?_
    refine lv_aload_n hx hb dL_append_2 rfl (lv_at hl 0 rfl) ?_
    refine lv_iload_n hx hb dL_append_3 rfl (lv_at hl 1 rfl) ?_
    refine lx_throw (wr := [(o1, .inl (g 4, 1, .inr (.inl fo)))]) (ci := 3) (As := [.int p1]) (rest := [.int 0, .ref o1]) X K (kx_X3_append l hf0 G g ad bd sc tl tat tb cn cf sn sf tn tf vv ov p1 _ hq) hd_X3_append gL_append_X3_append hP hD hS hA hs hl.1 dL_append_4 rfl rfl ⟨(Nat.le_of_ble_eq_true rfl), (Nat.le_of_ble_eq_true rfl)⟩ rfl rfl rfl (Nat.le_of_ble_eq_true rfl) ⟨(Nat.le_of_ble_eq_true rfl), (Nat.le_of_ble_eq_true rfl)⟩ (fun q ce w0 H locs hp0 hP hD hS hce hcv hcl => ?_)
    refine vx_catch (own := RL) (name := exN 3) hown [(⟨0, 9, 12, 15⟩ : ExceptionTableEntry)] (⟨0, 9, 15, 17⟩ : ExceptionTableEntry) [] (htab.trans rfl) (fun z hz => by
      rcases List.mem_cons.mp hz with rfl | hz
      · exact Or.inr ⟨by decide, exN 2, (hts _ (List.mem_of_getElem? (i := 1) rfl)), hnc (3, 2) (by decide)⟩
      exact absurd hz List.not_mem_nil) (by decide) (by decide) (hts _ (List.mem_of_getElem? (i := 2) rfl)) (va_Nw.use rfl (hs.2.2.2.1 (exN 3) (by decide))) hce hcv hcl ?_
    refine lv_astore_n (lv' := [(3, .ref q), (0, .ref (ad 0)), (1, .int p1), (2, .ref o1)]) hx hb dL_append_15 rfl hl (by decide) rfl (fun ls hl => ?_)
    refine lv_iconst (v := 2) hx hb dL_append_16 (by decide) ?_
    exact lx_iret hx hb hr hk (congrArg (fun z => (o1, .inl (g 4, 1, .inr (.inl fo))) :: z) hp0) hP hD hS dL_append_17
set_option maxHeartbeats 4000000 in
set_option maxRecDepth 100000 in
theorem kL_parse (l : Launch) (G : va_G) (g : Nat → ClassId) (ad : Nat → Nat) (bd : Nat → Nat → Nat) (sc : Int32) (tl : Int32) (tat : Int32) (tb : Nat → Int32) (cn : Nat → Int32) (cf : Nat → Nat → Int32) (sn : Nat → Nat → Int32) (sf : Nat → Nat → Nat → Int32) (tn : Int32) (tf : Nat → Int32) (vv : Nat → Int32) (ov : Nat → Int32) (o1 : Nat) (fo : Nat → Int64) (p1 : Int32) (res : Int32 × (Nat → Nat → Nat) × Int32 × Int32 × (Nat → Int32) × (Nat → Nat → Int32) × (Nat → Nat → Int32) × (Nat → Nat → Nat → Int32) × Int32 × (Nat → Int32)) (hq : F_X3_parse bd sc tl tat tb cn cf sn sf tn tf p1 = some (.inr res)) : lxC l yL_parse wsL_parse (rmX 8 145) G g [.ref (ad 0), .int p1, .ref o1] ((o1, .inl (g 4, 1, .inr (.inl fo))) :: (wX g ad bd sc tl tat tb cn cf sn sf tn tf vv ov)) (some (.int 0)) (fun w => w = (o1, .inl (g 4, 1, .inr (.inl (vp_updL fo 0 (res.1.toInt64))))) :: (wX g ad res.2.1 res.2.2.1 tl res.2.2.2.1 tb res.2.2.2.2.1 res.2.2.2.2.2.1 res.2.2.2.2.2.2.1 res.2.2.2.2.2.2.2.1 res.2.2.2.2.2.2.2.2.1 res.2.2.2.2.2.2.2.2.2 vv ov)) := by
  refine lxC.of (cc := cL_parse) (maxL := 4) (ret := some .int) (by decide) rfl (Nat.le_of_ble_eq_true rfl) ?_
  intro p e s m below meth c ls A X K hA hP hD hS hs hnc htab hl
  obtain ⟨hx, hb, hml, hr, hown, hts, hk⟩ := id X
  have hl : lv_has ls 4 [(0, .ref (ad 0)), (1, .int p1), (2, .ref o1)] := hl
  refine lv_aload_n hx hb dL_parse_0 rfl (lv_at hl 2 rfl) ?_
  refine lv_iconst (v := 0) hx hb dL_parse_1 (by decide) ?_
  refine lv_aload_n hx hb dL_parse_2 rfl (lv_at hl 0 rfl) ?_
  refine lv_iload_n hx hb dL_parse_3 rfl (lv_at hl 1 rfl) ?_
  refine rwVf (ci := 3) (As := [.int p1]) (rest := [.int 0, .ref o1]) X K (k_X3_parse l G g ad bd sc tl tat tb cn cf sn sf tn tf vv ov p1 _ hq) hd_X3_parse gL_parse_X3_parse hP hD hS hA foc_hd hl.1 dL_parse_4 rfl rfl ⟨(Nat.le_of_ble_eq_true rfl), (Nat.le_of_ble_eq_true rfl)⟩ rfl rfl rfl (Nat.le_of_ble_eq_true rfl) ⟨Nat.zero_le _, Nat.zero_le _⟩ (fun H locs hP hD hS => ?_)
  refine lv_i2l (v := res.1.toInt64) hx hb dL_parse_7 rfl ?_
  refine va_last hx hb K.1 hP hD hS 0 4 rfl rfl (vp_in_iff.mpr (by decide)) dL_parse_8 (fun H locs hP hD hS => ?_)
  have hP : va_P G vwCl ((o1, .inl (g 4, 1, .inr (.inl (vp_updL fo 0 (res.1.toInt64))))) :: (wX g ad res.2.1 res.2.2.1 tl res.2.2.2.1 tb res.2.2.2.2.1 res.2.2.2.2.2.1 res.2.2.2.2.2.2.1 res.2.2.2.2.2.2.2.1 res.2.2.2.2.2.2.2.2.1 res.2.2.2.2.2.2.2.2.2 vv ov)) H := hP
  have hD : va_D A ((o1, .inl (g 4, 1, .inr (.inl (vp_updL fo 0 (res.1.toInt64))))) :: (wX g ad res.2.1 res.2.2.1 tl res.2.2.2.1 tb res.2.2.2.2.1 res.2.2.2.2.2.1 res.2.2.2.2.2.2.1 res.2.2.2.2.2.2.2.1 res.2.2.2.2.2.2.2.2.1 res.2.2.2.2.2.2.2.2.2 vv ov)) := hD
  refine lv_goto (tgt := 18) hx hb dL_parse_9 (by decide) ?_
  refine lv_iconst (v := 0) hx hb dL_parse_18 (by decide) ?_
  refine W.widen (k := 1) (n := 6) (Nat.zero_le _) (Nat.zero_le _) ?_
  exact lx_iret hx hb hr hk rfl hP hD hS dL_parse_19
set_option maxHeartbeats 4000000 in
set_option maxRecDepth 100000 in
theorem kxL_parse (l : Launch) (hf0 : l.stackTraces = false) (G : va_G) (g : Nat → ClassId) (ad : Nat → Nat) (bd : Nat → Nat → Nat) (sc : Int32) (tl : Int32) (tat : Int32) (tb : Nat → Int32) (cn : Nat → Int32) (cf : Nat → Nat → Int32) (sn : Nat → Nat → Int32) (sf : Nat → Nat → Nat → Int32) (tn : Int32) (tf : Nat → Int32) (vv : Nat → Int32) (ov : Nat → Int32) (o1 : Nat) (fo : Nat → Int64) (p1 : Int32) (t t' : Nat) (ht : t = 1 ∧ t' = 1 ∨ t = 3 ∧ t' = 2) (hq : F_X3_parse bd sc tl tat tb cn cf sn sf tn tf p1 = some (.inl t)) : lxC l yL_parse wsL_parse (rmX 8 145) G g [.ref (ad 0), .int p1, .ref o1] ((o1, .inl (g 4, 1, .inr (.inl fo))) :: (wX g ad bd sc tl tat tb cn cf sn sf tn tf vv ov)) (some (.int (nI t'))) (fun w => ∃ w0, scrX g ad bd sc tl tb cn cf sn sf w0 ∧ w = (o1, .inl (g 4, 1, .inr (.inl fo))) :: w0) := by
  refine lxC.of (cc := cL_parse) (maxL := 4) (ret := some .int) (by decide) rfl (Nat.le_of_ble_eq_true rfl) ?_
  intro p e s m below meth c ls A X K hA hP hD hS hs hnc htab hl
  obtain ⟨hx, hb, hml, hr, hown, hts, hk⟩ := id X
  have hl : lv_has ls 4 [(0, .ref (ad 0)), (1, .int p1), (2, .ref o1)] := hl
  rcases (show t = 1 ∧ t' = 1 ∨ t = 3 ∧ t' = 2 by omega) with ⟨rfl, rfl⟩ | ⟨rfl, rfl⟩
  · refine lv_aload_n hx hb dL_parse_0 rfl (lv_at hl 2 rfl) ?_
    refine lv_iconst (v := 0) hx hb dL_parse_1 (by decide) ?_
    refine lv_aload_n hx hb dL_parse_2 rfl (lv_at hl 0 rfl) ?_
    refine lv_iload_n hx hb dL_parse_3 rfl (lv_at hl 1 rfl) ?_
    refine lx_throw (wr := [(o1, .inl (g 4, 1, .inr (.inl fo)))]) (ci := 3) (As := [.int p1]) (rest := [.int 0, .ref o1]) X K (kx_X3_parse l hf0 G g ad bd sc tl tat tb cn cf sn sf tn tf vv ov p1 _ hq) hd_X3_parse gL_parse_X3_parse hP hD hS hA hs hl.1 dL_parse_4 rfl rfl ⟨(Nat.le_of_ble_eq_true rfl), (Nat.le_of_ble_eq_true rfl)⟩ rfl rfl rfl (Nat.le_of_ble_eq_true rfl) ⟨(Nat.le_of_ble_eq_true rfl), (Nat.le_of_ble_eq_true rfl)⟩ (fun q ce w0 H locs hp0 hP hD hS hce hcv hcl => ?_)
    refine vx_catch (own := RL) (name := exN 1) hown [] (⟨0, 9, 12, 13⟩ : ExceptionTableEntry) [(⟨0, 9, 15, 17⟩ : ExceptionTableEntry)] (htab.trans rfl) (fun z hz => absurd hz List.not_mem_nil) (by decide) (by decide) (hts _ (List.mem_of_getElem? (i := 1) rfl)) (va_Nw.use rfl (hs.2.2.2.1 (exN 1) (by decide))) hce hcv hcl ?_
    refine lv_astore_n (lv' := [(3, .ref q), (0, .ref (ad 0)), (1, .int p1), (2, .ref o1)]) hx hb dL_parse_12 rfl hl (by decide) rfl (fun ls hl => ?_)
    refine lv_iconst (v := 1) hx hb dL_parse_13 (by decide) ?_
    exact lx_iret hx hb hr hk ⟨w0, hp0, rfl⟩ hP hD hS dL_parse_14
  · refine lv_aload_n hx hb dL_parse_0 rfl (lv_at hl 2 rfl) ?_
    refine lv_iconst (v := 0) hx hb dL_parse_1 (by decide) ?_
    refine lv_aload_n hx hb dL_parse_2 rfl (lv_at hl 0 rfl) ?_
    refine lv_iload_n hx hb dL_parse_3 rfl (lv_at hl 1 rfl) ?_
    refine lx_throw (wr := [(o1, .inl (g 4, 1, .inr (.inl fo)))]) (ci := 3) (As := [.int p1]) (rest := [.int 0, .ref o1]) X K (kx_X3_parse l hf0 G g ad bd sc tl tat tb cn cf sn sf tn tf vv ov p1 _ hq) hd_X3_parse gL_parse_X3_parse hP hD hS hA hs hl.1 dL_parse_4 rfl rfl ⟨(Nat.le_of_ble_eq_true rfl), (Nat.le_of_ble_eq_true rfl)⟩ rfl rfl rfl (Nat.le_of_ble_eq_true rfl) ⟨(Nat.le_of_ble_eq_true rfl), (Nat.le_of_ble_eq_true rfl)⟩ (fun q ce w0 H locs hp0 hP hD hS hce hcv hcl => ?_)
    refine vx_catch (own := RL) (name := exN 3) hown [(⟨0, 9, 12, 13⟩ : ExceptionTableEntry)] (⟨0, 9, 15, 17⟩ : ExceptionTableEntry) [] (htab.trans rfl) (fun z hz => by
      rcases List.mem_cons.mp hz with rfl | hz
      · exact Or.inr ⟨by decide, exN 1, (hts _ (List.mem_of_getElem? (i := 1) rfl)), hnc (3, 1) (by decide)⟩
      exact absurd hz List.not_mem_nil) (by decide) (by decide) (hts _ (List.mem_of_getElem? (i := 2) rfl)) (va_Nw.use rfl (hs.2.2.2.1 (exN 3) (by decide))) hce hcv hcl ?_
    refine lv_astore_n (lv' := [(3, .ref q), (0, .ref (ad 0)), (1, .int p1), (2, .ref o1)]) hx hb dL_parse_15 rfl hl (by decide) rfl (fun ls hl => ?_)
    refine lv_iconst (v := 2) hx hb dL_parse_16 (by decide) ?_
    exact lx_iret hx hb hr hk ⟨w0, hp0, rfl⟩ hP hD hS dL_parse_17
set_option maxHeartbeats 4000000 in
set_option maxRecDepth 100000 in
theorem kL_undo (l : Launch) (G : va_G) (g : Nat → ClassId) (ad : Nat → Nat) (bd : Nat → Nat → Nat) (sc : Int32) (tl : Int32) (tat : Int32) (tb : Nat → Int32) (cn : Nat → Int32) (cf : Nat → Nat → Int32) (sn : Nat → Nat → Int32) (sf : Nat → Nat → Nat → Int32) (tn : Int32) (tf : Nat → Int32) (vv : Nat → Int32) (ov : Nat → Int32) (o1 : Nat) (fo : Nat → Int64) (res : Int32 × Int32 × (Nat → Int32) × (Nat → Nat → Int32)) (hq : F_X3_undo sc cn cf sn sf = some (.inr res)) : lxC l yL_undo wsL_undo (rmX 7 110) G g [.ref (ad 0), .ref o1] ((o1, .inl (g 4, 1, .inr (.inl fo))) :: (wX g ad bd sc tl tat tb cn cf sn sf tn tf vv ov)) (some (.int 0)) (fun w => w = (o1, .inl (g 4, 1, .inr (.inl (vp_updL fo 0 (res.1.toInt64))))) :: (wX g ad bd res.2.1 tl tat tb res.2.2.1 res.2.2.2 sn sf tn tf vv ov)) := by
  refine lxC.of (cc := cL_undo) (maxL := 3) (ret := some .int) (by decide) rfl (Nat.le_of_ble_eq_true rfl) ?_
  intro p e s m below meth c ls A X K hA hP hD hS hs hnc htab hl
  obtain ⟨hx, hb, hml, hr, hown, hts, hk⟩ := id X
  have hl : lv_has ls 3 [(0, .ref (ad 0)), (1, .ref o1)] := hl
  refine lv_aload_n hx hb dL_undo_0 rfl (lv_at hl 1 rfl) ?_
  refine lv_iconst (v := 0) hx hb dL_undo_1 (by decide) ?_
  refine lv_aload_n hx hb dL_undo_2 rfl (lv_at hl 0 rfl) ?_
  refine rwVf (ci := 3) (As := []) (rest := [.int 0, .ref o1]) X K (k_X3_undo l G g ad bd sc tl tat tb cn cf sn sf tn tf vv ov _ hq) hd_X3_undo gL_undo_X3_undo hP hD hS hA foc_hd hl.1 dL_undo_3 rfl rfl ⟨(Nat.le_of_ble_eq_true rfl), (Nat.le_of_ble_eq_true rfl)⟩ rfl rfl rfl (Nat.le_of_ble_eq_true rfl) ⟨Nat.zero_le _, Nat.zero_le _⟩ (fun H locs hP hD hS => ?_)
  refine lv_i2l (v := res.1.toInt64) hx hb dL_undo_6 rfl ?_
  refine va_last hx hb K.1 hP hD hS 0 4 rfl rfl (vp_in_iff.mpr (by decide)) dL_undo_7 (fun H locs hP hD hS => ?_)
  have hP : va_P G vwCl ((o1, .inl (g 4, 1, .inr (.inl (vp_updL fo 0 (res.1.toInt64))))) :: (wX g ad bd res.2.1 tl tat tb res.2.2.1 res.2.2.2 sn sf tn tf vv ov)) H := hP
  have hD : va_D A ((o1, .inl (g 4, 1, .inr (.inl (vp_updL fo 0 (res.1.toInt64))))) :: (wX g ad bd res.2.1 tl tat tb res.2.2.1 res.2.2.2 sn sf tn tf vv ov)) := hD
  refine lv_goto (tgt := 14) hx hb dL_undo_8 (by decide) ?_
  refine lv_iconst (v := 0) hx hb dL_undo_14 (by decide) ?_
  refine W.widen (k := 1) (n := 6) (Nat.zero_le _) (Nat.zero_le _) ?_
  exact lx_iret hx hb hr hk rfl hP hD hS dL_undo_15
set_option maxHeartbeats 4000000 in
set_option maxRecDepth 100000 in
theorem kxL_undo (l : Launch) (hf0 : l.stackTraces = false) (G : va_G) (g : Nat → ClassId) (ad : Nat → Nat) (bd : Nat → Nat → Nat) (sc : Int32) (tl : Int32) (tat : Int32) (tb : Nat → Int32) (cn : Nat → Int32) (cf : Nat → Nat → Int32) (sn : Nat → Nat → Int32) (sf : Nat → Nat → Nat → Int32) (tn : Int32) (tf : Nat → Int32) (vv : Nat → Int32) (ov : Nat → Int32) (o1 : Nat) (fo : Nat → Int64) (t t' : Nat) (ht : t = 3 ∧ t' = 1) (hq : F_X3_undo sc cn cf sn sf = some (.inl t)) : lxC l yL_undo wsL_undo (rmX 7 110) G g [.ref (ad 0), .ref o1] ((o1, .inl (g 4, 1, .inr (.inl fo))) :: (wX g ad bd sc tl tat tb cn cf sn sf tn tf vv ov)) (some (.int (nI t'))) (fun w => w = (o1, .inl (g 4, 1, .inr (.inl fo))) :: (wX g ad bd sc tl tat tb cn cf sn sf tn tf vv ov)) := by
  refine lxC.of (cc := cL_undo) (maxL := 3) (ret := some .int) (by decide) rfl (Nat.le_of_ble_eq_true rfl) ?_
  intro p e s m below meth c ls A X K hA hP hD hS hs hnc htab hl
  obtain ⟨hx, hb, hml, hr, hown, hts, hk⟩ := id X
  have hl : lv_has ls 3 [(0, .ref (ad 0)), (1, .ref o1)] := hl
  obtain ⟨rfl, rfl⟩ := ht
  refine lv_aload_n hx hb dL_undo_0 rfl (lv_at hl 1 rfl) ?_
  refine lv_iconst (v := 0) hx hb dL_undo_1 (by decide) ?_
  refine lv_aload_n hx hb dL_undo_2 rfl (lv_at hl 0 rfl) ?_
  refine lx_throw (wr := [(o1, .inl (g 4, 1, .inr (.inl fo)))]) (ci := 3) (As := []) (rest := [.int 0, .ref o1]) X K (kx_X3_undo l hf0 G g ad bd sc tl tat tb cn cf sn sf tn tf vv ov _ hq) hd_X3_undo gL_undo_X3_undo hP hD hS hA hs hl.1 dL_undo_3 rfl rfl ⟨(Nat.le_of_ble_eq_true rfl), (Nat.le_of_ble_eq_true rfl)⟩ rfl rfl rfl (Nat.le_of_ble_eq_true rfl) ⟨(Nat.le_of_ble_eq_true rfl), (Nat.le_of_ble_eq_true rfl)⟩ (fun q ce w0 H locs hp0 hP hD hS hce hcv hcl => ?_)
  refine vx_catch (own := RL) (name := exN 3) hown [] (⟨0, 8, 11, 17⟩ : ExceptionTableEntry) [] (htab.trans rfl) (fun z hz => absurd hz List.not_mem_nil) (by decide) (by decide) (hts _ (List.mem_of_getElem? (i := 1) rfl)) (va_Nw.use rfl (hs.2.2.2.1 (exN 3) (by decide))) hce hcv hcl ?_
  refine lv_astore_n (lv' := [(2, .ref q), (0, .ref (ad 0)), (1, .ref o1)]) hx hb dL_undo_11 rfl hl (by decide) rfl (fun ls hl => ?_)
  refine lv_iconst (v := 1) hx hb dL_undo_12 (by decide) ?_
  exact lx_iret hx hb hr hk (congrArg (fun z => (o1, .inl (g 4, 1, .inr (.inl fo))) :: z) hp0) hP hD hS dL_undo_13

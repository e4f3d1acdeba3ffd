/-! ===== the law's own methods: they call, and catch ===== -/
theorem foc_hd {a : Nat × va_E} {X X' : va_W} : focus (a :: X) X X' (a :: X') := ⟨[a], List.Perm.refl _, List.Perm.refl _⟩
theorem foc_ap {wr wc w1 : va_W} : focus (wr ++ wc) wc w1 (wr ++ w1) := ⟨wr, List.Perm.refl _, List.Perm.refl _⟩
def ncN : List (Nat × Nat) := [(1, 2), (1, 3), (2, 1), (2, 3), (3, 1), (3, 2)]
def ncs (U : State) : Prop := ∀ q ∈ ncN, va_Nc (exN q.1) (exN q.2) U
theorem ncs.warm {s U : State} (hW : s.WarmedH U.vm) (h : ncs s) : ncs U := fun q hq => va_Nc.moved hW.alike (h q hq)
theorem ncs.call {U : State} {f : JFrame} {mk : MethodId} {a : Array Value} (h : ncs U) : ncs (U.calling f mk a) := fun q hq => va_Nc.moved (u := U) (U := U.calling f mk a) (Vm.Alike.refl U.vm) (h q hq)
def lxQ (G : va_G) (A : Nat → Prop) (v : Option Value) (P1 : va_W → Prop) : Array Value → State → Outcome → State → Prop := fun _ st o t => (o = .returned v ∧ ∃ w, P1 w ∧ va_P G vwCl w t.heap ∧ va_D A w) ∧ va_F A st t
def lxP (G : va_G) (g : Nat → ClassId) (av : List Value) (wc : va_W) (sz : Nat) : Array Value → State → Prop := va_Pc av (fun U => U.heap.size = sz ∧ va_P G vwCl wc U.heap ∧ amb G g U ∧ va_D (fun _ => True) wc ∧ exS (va_A wc sz) U U.heap ∧ ncs U)
def lxC (l : Launch) (y : MethodName) (ws : List Cond) (rm : Room) (G : va_G) (g : Nat → ClassId) (av : List Value) (wc : va_W) (v : Option Value) (P1 : va_W → Prop) : Prop := ∀ sz : Nat, Met l y ws rm (lxP G g av wc sz) (lxQ G (va_A wc sz) v P1) 1 6 (va_A wc sz)
abbrev lxM (G : va_G) (A : Nat → Prop) (below : List Frame) (v : Option Value) (P1 : va_W → Prop) (args : Array Value) (s : State) : State → Prop := MQ below (lxQ G A v P1) args s 1 6 A
theorem lxP.blind {G : va_G} {g : Nat → ClassId} {av : List Value} {wc : va_W} {sz : Nat} : FrameBlind (lxP G g av wc sz) := fun _ _ _ _ q => ⟨q.1, q.2.1, q.2.2.1, q.2.2.2.1.call, q.2.2.2.2.1, q.2.2.2.2.2.1.call, q.2.2.2.2.2.2.call⟩
theorem lxC.of {l : Launch} {y : MethodName} {ws ws' : List Cond} {fr lo : Nat} {G : va_G} {g : Nat → ClassId} {av : List Value} {wc : va_W} {v : Option Value} {P1 : va_W → Prop} {cc : ByteArray} {maxL : Nat} {ret : Option FieldType} {hh : List (Nat × Nat × Nat × Nat)} (hy : plainName y.cls = true) (hw : ws = Cond.codeWith y cc maxL ret hh :: ws') (hlen : (lg_sl av).length ≤ maxL)
    (body : ∀ (p : Program) (e : Env) (s : State) (m : MethodId) (below : List Frame) (meth : Method) (c : Code) (ls : Array Slot) (A : Nat → Prop), cx p s m av.toArray meth c cc maxL ret y.cls ws → amb G g s → (∀ q : Nat, s.heap.size ≤ q → A q) → va_P G vwCl wc s.heap → va_D A wc → va_S A s.heap s.heap [] → exS A s s.heap → ncs s → c.exceptionTable.toList = tableOf hh → lv_has ls maxL (lv_args 0 av) → W p l e (rmX fr lo) s m av.toArray below meth c s.heap [] 0 0 (lxM G A below v P1 av.toArray s) (F0 m 0 ls [])) : lxC l y ws (rmX fr lo) G g av wc v P1 := by
  intro sz
  refine va_MetW (cc := cc) (maxL := maxL) (ret := ret) hy hw ?_
  intro p e s m args below meth c s₁ B hml hv
  obtain ⟨rfl, hsz, hP, hK, hD0, hs, hn⟩ := hv
  subst hsz
  have hl := lv_entry av (n := maxL) hlen
  rw [lg_entry_eq]
  have hts := atoms_spec (ws := ws) B.pre
  exact body p e s m below meth c _ _ ⟨B.exec, B.bytes, hml, B.returns, findClass_of_methodNamed B.named, hts, B.notSynchronized⟩ hK (fun q h => Or.inr h) hP (hD0.self (sz := s.heap.size)) va_S.rf hs hn (vx_table (x := y) B (hts _ (by rw [hw]; exact List.mem_cons_self))) hl
section MyRows6
variable {p : Program} {l : Launch} {e : Env} {R : Room} {s : State} {m : MethodId} {args : Array Value} {below : List Frame} {meth : Method} {c : Code} {H : Heap} {locs : List Loc} {cells slots : Nat} {Q : State → Prop} {pc : Nat} {ls : Array Slot}
variable {G : va_G} {g : Nat → ClassId} {A : Nat → Prop} {cc : ByteArray} {nL : Nat} {rt : Option FieldType} {own : String} {Ts : List Cond}
theorem lx_iret {v : Int32} {P1 : va_W → Prop} {w : va_W} (hx : p.tables.exec = Jvm.exec) (hb : c.code = cc) (hr : meth.sig.returnType = some .int) (hk : meth.locks = false) (hp : P1 w) (hP : va_P G vwCl w H) (hD : va_D A w) (hS : va_S A s.heap H locs) (hdg : decode cc pc = .ok (.ireturn, 1)) : W p l e R s m args below meth c H locs 1 6 (lxM G A below (some (.int v)) P1 args s) (F0 m pc ls [.int v]) :=
  W.iret hx hb hr (fun t ht _ => ⟨⟨rfl, w, hp, by rw [ht]; exact hP, hD⟩, hS.F ht⟩) hS.2.2 hdg hk
theorem lx_throw (X : cx p s m args meth c cc nL rt own Ts) (K : amb G g s) {y : MethodName} {ws' wsy : List Cond} {fr lo n index maxL ci N : Nat} {bytes : ByteArray} {ret : Option FieldType} {b : Addr} {As rest st0 fs : List Value} {wc wr : va_W} {T : u_T} {E : String} {P0 : va_W → Prop}
    (hM : exC l y wsy (rmX fr lo) G g (.ref b :: As) wc E P0) (hd : ynm y n) (hT : GoodIn Ts (wsV own index y.cls y wsy)) (hP : va_P G vwCl (wr ++ wc) H) (hD : va_D A (wr ++ wc)) (hS : va_S A s.heap H locs) (hA : ∀ q, s.heap.size ≤ q → A q) (hs : exS A s s.heap) (hls : ls.size = nL) (hdg : decode cc pc = .ok (.invokevirtual index, 3)) (hw : wsy = Cond.code y bytes maxL ret :: ws') (hn : As.length = n) (hR : fr + 1 ≤ R.frames ∧ 8 + (maxL + 11) + lo ≤ R.locals) (hc : vwCl[ci]? = some (y.cls, T, N)) (h0 : wc[0]? = some (b, .inr (ci, fs))) (hst : st0 = As.reverse ++ .ref b :: rest) (hsum : (rest.map fun v => v.category).sum ≤ 8) (hf : 1 ≤ R.cells ∧ 6 ≤ R.slots)
    (kk : ∀ (q : Nat) (ce : Cell) (w0 : va_W) (H1 : Heap) (locs1 : List Loc), P0 w0 → va_P G vwCl (wr ++ w0) H1 → va_D A (wr ++ w0) → va_S A s.heap H1 locs1 → H1[q]? = some ce → ce.vm = .none → s.vm.findClass E = some ce.cls → vx_W p l e R s m args below meth c H1 locs1 1 6 Q (F0 m pc ls rest) q) : W p l e R s m args below meth c H locs 0 0 Q (F0 m pc ls st0) := by
  have hPc : va_P G vwCl wc H := (foc_ap (w1 := wc)).sub hP
  have hDc : va_D A wc := (foc_ap (w1 := wc)).subD hD
  have hF := free_f hD (foc_ap (w1 := wc)) hS hA
  have hr := vx_runV (C := y.cls) (locs := locs) (cells := 0) (slots := 0) (g := F0 m pc ls st0) (rest := rest) (e := e) (below := below) (meth := meth) X.fix (hM H.size) (cwV n X.2.2.2.2.2.1 hT hw rfl rfl ⟨rfl, hd⟩ hR) ⟨exP.blind, va_recv K.1 hPc hc h0, fun U hU hW => ⟨rfl, by rw [hU], by rw [hU]; exact hPc, K.warm hW, hDc.weaken (fun _ _ _ _ => trivial), hs.to hS hU hW hF⟩⟩ rfl hn hls hst (lv_room hsum) hdg ⟨by omega, by omega⟩
  intro T9 hT9 X9
  rcases hr T9 hT9 X9 with ⟨v, st₀, t, T', L, h0, X', hL, e1, e2, hq, st⟩ | ⟨q, st₀, t, T', L, E', ce, h0, X', hL, e1, e2, ⟨w1, hw1, ⟨hE, hP1, hD1⟩, hz, hkk⟩, hce, hcv, hcl, st⟩
  · exact hq.elim
  · subst hE
    rw [h0] at hz hkk
    rw [← e1] at hP1 hz hkk hce
    obtain ⟨hP2, hD2⟩ := join_f hP hD foc_ap hkk hF hP1 hD1
    have hS2 : va_S A s.heap T'.heap (locs ++ L) := ⟨Nat.le_trans hS.1 hz, fun q h1 h2 => by rw [hkk q (Nat.lt_of_lt_of_le h1 hS.1) (fun z => h2 (hF q z))]; exact hS.2.1 q h1 h2, fun q hq => by
        rcases List.mem_append.mp hq with h | h
        · exact hS.2.2 q h
        · exact hF _ (hL q h)⟩
    obtain ⟨t2, a1, b1⟩ := kk q ce w1 T'.heap (locs ++ L) hw1 hP2 hD2 hS2 hce hcv hcl T' rfl X'
    exact ⟨t2, st.trans a1, b1⟩
theorem lxS (X : cx p s m args meth c cc nL rt own Ts) (K : amb G g s) (hs : exS A s s.heap) (hnc : ncs s) {y : MethodName} {ws' wsy : List Cond} {fr lo n index maxL : Nat} {bytes : ByteArray} {ret : Option FieldType} {hh : List (Nat × Nat × Nat × Nat)} {As rest st0 : List Value} {wc wr : va_W} {v : Option Value} {P1 : va_W → Prop}
    (hM : lxC l y wsy (rmX fr lo) G g As wc v P1) (hd : ynm y n) (hT : GoodIn Ts (va_wsS own index y wsy)) (hP : va_P G vwCl (wr ++ wc) H) (hD : va_D A (wr ++ wc)) (hS : va_S A s.heap H locs) (hA : ∀ q, s.heap.size ≤ q → A q) (hls : ls.size = nL) (hdg : decode cc pc = .ok (.invokestatic index, 3)) (hw : wsy = Cond.codeWith y bytes maxL ret hh :: ws') (hn : As.length = n) (hR : fr + 1 ≤ R.frames ∧ 8 + (maxL + 11) + lo ≤ R.locals) (hst : st0 = As.reverse ++ rest) (hsum : (rest.map fun v => v.category).sum ≤ 8) (hf : cells + 1 ≤ R.cells ∧ slots + 6 ≤ R.slots)
    (kk : ∀ (w1 : va_W) (H1 : Heap) (locs1 : List Loc), P1 w1 → va_P G vwCl (wr ++ w1) H1 → va_D A (wr ++ w1) → va_S A s.heap H1 locs1 → W p l e R s m args below meth c H1 locs1 (cells + 1) (slots + 6) Q (F0 m (pc + 3) ls (v.toList ++ rest))) : W p l e R s m args below meth c H locs cells slots Q (F0 m pc ls st0) := by
  have hPc : va_P G vwCl wc H := (foc_ap (w1 := wc)).sub hP
  have hDc : va_D A wc := (foc_ap (w1 := wc)).subD hD
  have hF := free_f hD (foc_ap (w1 := wc)) hS hA
  have hr := vx_runSW (locs := locs) (cells := cells) (slots := slots) (g := F0 m pc ls st0) (rest := rest) (e := e) (below := below) (meth := meth) X.fix (hM H.size) (vx_cwSW n X.2.2.2.2.2.1 hT hw rfl rfl hd hR) ⟨lxP.blind, fun U hU hW => ⟨rfl, by rw [hU], by rw [hU]; exact hPc, K.warm hW, hDc.weaken (fun _ _ _ _ => trivial), hs.to hS hU hW hF, hnc.warm hW⟩⟩ rfl hn hls hst (lv_room hsum) hdg hf
  intro T9 hT9 X9
  obtain ⟨v', st₀, t, T', L, h0, X', hL, e1, e2, ⟨⟨hv, w1, hw1, hP1, hD1⟩, hz, hk⟩, st⟩ := hr T9 hT9 X9
  cases hv
  rw [h0] at hz hk
  rw [← e1] at hP1 hz hk
  obtain ⟨hP2, hD2⟩ := join_f hP hD foc_ap hk hF hP1 hD1
  have hS2 : va_S A s.heap T'.heap (locs ++ L) := ⟨Nat.le_trans hS.1 hz, fun q h1 h2 => by rw [hk q (Nat.lt_of_lt_of_le h1 hS.1) (fun z => h2 (hF q z))]; exact hS.2.1 q h1 h2, fun q hq => by
      rcases List.mem_append.mp hq with h | h
      · exact hS.2.2 q h
      · exact hF _ (hL q h)⟩
  obtain ⟨t2, a1, b1⟩ := kk w1 T'.heap (locs ++ L) hw1 hP2 hD2 hS2 T' rfl X'
  exact ⟨t2, st t2 a1, b1⟩
end MyRows6
theorem foc5 {a b c d f a' b' c' d' f' : Nat × va_E} {X : va_W} : focus (a :: b :: c :: d :: f :: X) [a, b, c, d, f] [a', b', c', d', f'] (a' :: b' :: c' :: d' :: f' :: X) :=
  ⟨X, (List.perm_append_comm (l₁ := [a, b, c, d, f]) (l₂ := X)), (List.perm_append_comm (l₁ := X) (l₂ := [a', b', c', d', f']))⟩
theorem lxC.ofN {l : Launch} {y : MethodName} {ws ws' : List Cond} {fr lo : Nat} {G : va_G} {g : Nat → ClassId} {av : List Value} {wc : va_W} {v : Option Value} {P1 : va_W → Prop} {cc : ByteArray} {maxL : Nat} {ret : Option FieldType} (hy : plainName y.cls = true) (hw : ws = Cond.code y cc maxL ret :: ws') (hlen : (lg_sl av).length ≤ maxL)
    (body : ∀ (p : Program) (e : Env) (s : State) (m : MethodId) (below : List Frame) (meth : Method) (c : Code) (ls : Array Slot) (A : Nat → Prop), cx p s m av.toArray meth c cc maxL ret y.cls ws → amb G g s → (∀ q : Nat, s.heap.size ≤ q → A q) → va_P G vwCl wc s.heap → va_D A wc → va_S A s.heap s.heap [] → exS A s s.heap → ncs s → lv_has ls maxL (lv_args 0 av) → W p l e (rmX fr lo) s m av.toArray below meth c s.heap [] 0 0 (lxM G A below v P1 av.toArray s) (F0 m 0 ls [])) : lxC l y ws (rmX fr lo) G g av wc v P1 := by
  intro sz
  refine Met.ofW (cc := cc) (maxL := maxL) (ret := ret) hy hw ?_
  intro p e s m args below meth c s₁ B hml hv
  obtain ⟨rfl, hsz, hP, hK, hD0, hs, hn⟩ := hv
  subst hsz
  have hl := lv_entry av (n := maxL) hlen
  rw [lg_entry_eq]
  exact body p e s m below meth c _ _ ⟨B.exec, B.bytes, hml, B.returns, findClass_of_methodNamed B.named, atoms_spec (ws := ws) B.pre, B.notSynchronized⟩ hK (fun q h => Or.inr h) hP (hD0.self (sz := s.heap.size)) va_S.rf hs hn hl
theorem roC.ofW {l : Launch} {y : MethodName} {ws ws' : List Cond} {fr lo : Nat} {G : va_G} {g : Nat → ClassId} {av : List Value} {wc : va_W} {v : Option Value} {cc : ByteArray} {maxL : Nat} {ret : Option FieldType} {hh : List (Nat × Nat × Nat × Nat)} (hy : plainName y.cls = true) (hw : ws = Cond.codeWith y cc maxL ret hh :: ws') (hlen : (lg_sl av).length ≤ maxL)
    (body : ∀ (p : Program) (e : Env) (s : State) (m : MethodId) (below : List Frame) (meth : Method) (c : Code) (ls : Array Slot), cx p s m av.toArray meth c cc maxL ret y.cls ws → amb G g s → va_P G vwCl wc s.heap → lv_has ls maxL (lv_args 0 av) → W p l e (rmF fr lo) s m av.toArray below meth c s.heap [] 0 0 (roM below v av.toArray s) (F0 m 0 ls [])) : roC l y ws (rmF fr lo) G g av wc v := by
  refine va_MetW (cc := cc) (maxL := maxL) (ret := ret) hy hw ?_
  intro p e s m args below meth c s₁ B hml hv
  obtain ⟨rfl, hP, hK⟩ := hv
  have hl := lv_entry av (n := maxL) hlen
  rw [lg_entry_eq]
  exact body p e s m below meth c _ ⟨B.exec, B.bytes, hml, B.returns, findClass_of_methodNamed B.named, atoms_spec (ws := ws) B.pre, B.notSynchronized⟩ hK hP hl
section MyRows7
variable {p : Program} {l : Launch} {e : Env} {R : Room} {s : State} {m : MethodId} {args : Array Value} {below : List Frame} {meth : Method} {c : Code} {H H0 : Heap} {locs : List Loc} {cells slots : Nat} {Q : State → Prop} {pc : Nat} {ls : Array Slot}
variable {G : va_G} {g : Nat → ClassId} {A A0 : Nat → Prop} {cc : ByteArray} {nL : Nat} {rt : Option FieldType} {own : String} {Ts : List Cond}
theorem lx_zret {v : Int32} {P1 : va_W → Prop} {w : va_W} (hx : p.tables.exec = Jvm.exec) (hb : c.code = cc) (hr : meth.sig.returnType = some .boolean) (hv : narrow .boolean (.int v) = .int v) (hk : meth.locks = false) (hp : P1 w) (hP : va_P G vwCl w H) (hD : va_D A w) (hS : va_S A s.heap H locs) (hdg : decode cc pc = .ok (.ireturn, 1)) : W p l e R s m args below meth c H locs 1 6 (lxM G A below (some (.int v)) P1 args s) (F0 m pc ls [.int v]) :=
  W.zret hx hb hr hv (fun t ht _ => ⟨⟨rfl, w, hp, by rw [ht]; exact hP, hD⟩, hS.F ht⟩) hS.2.2 hdg hk
theorem roSW (X : cx p s m args meth c cc nL rt own Ts) (K : amb G g s) {y : MethodName} {ws ws' : List Cond} {fr lo n index maxL : Nat} {bytes : ByteArray} {ret : Option FieldType} {hh : List (Nat × Nat × Nat × Nat)} {As rest st0 : List Value} {wc : va_W} {v : Option Value}
    (hM : roC l y ws (rmF fr lo) G g As wc v) (hd : ynm y n) (hT : GoodIn Ts (va_wsS own index y ws)) (hP : va_P G vwCl wc H) (hls : ls.size = nL) (hdg : decode cc pc = .ok (.invokestatic index, 3)) (hw : ws = Cond.codeWith y bytes maxL ret hh :: ws') (hn : As.length = n) (hR : fr + 1 ≤ R.frames ∧ 8 + (maxL + 11) + lo ≤ R.locals) (hst : st0 = As.reverse ++ rest) (hsum : (rest.map fun v => v.category).sum ≤ 8) (hf : cells ≤ R.cells ∧ slots ≤ R.slots)
    (kk : W p l e R s m args below meth c H locs cells slots Q (F0 m (pc + 3) ls (v.toList ++ rest))) : W p l e R s m args below meth c H locs cells slots Q (F0 m pc ls st0) :=
  ro_go (vx_runSW X.fix hM (vx_cwSW n X.2.2.2.2.2.1 hT hw rfl rfl hd hR) ⟨roP.blind, fun U hU hW => ⟨rfl, by rw [hU]; exact hP, K.warm hW⟩⟩ rfl hn hls hst (lv_room hsum) hdg hf) kk
theorem rwS (X : cx p s m args meth c cc nL rt own Ts) (K : amb G g s) {y : MethodName} {ws' wsy : List Cond} {fr lo n index maxL : Nat} {bytes : ByteArray} {ret : Option FieldType} {As rest st0 : List Value} {ws wc wr w1 : va_W} {v : Option Value}
    (hM : rwC l y wsy (rmF fr lo) G g As wc v w1) (hd : ynm y n) (hT : GoodIn Ts (va_wsS own index y wsy)) (hP : va_P G vwCl ws H) (hD : va_D A0 ws) (hS : va_S A0 H0 H locs) (hA : ∀ q, H0.size ≤ q → A0 q) (isC isR : List Nat) (hC : isC.map (fun i => ws[i]?) = wc.map some) (hR' : isR.map (fun i => ws[i]?) = wr.map some) (hdis : va_nd isC = true ∧ va_nd isR = true ∧ ∀ i ∈ isR, i ∉ isC) (hls : ls.size = nL) (hdg : decode cc pc = .ok (.invokestatic index, 3)) (hw : wsy = Cond.code y bytes maxL ret :: ws') (hn : As.length = n) (hR : fr + 1 ≤ R.frames ∧ 8 + (maxL + 11) + lo ≤ R.locals) (hst : st0 = As.reverse ++ rest) (hsum : (rest.map fun v => v.category).sum ≤ 8) (hf : cells ≤ R.cells ∧ slots ≤ R.slots)
    (kk : ∀ (H1 : Heap) (locs1 : List Loc), va_P G vwCl (wr ++ w1) H1 → va_D A0 (wr ++ w1) → va_S A0 H0 H1 locs1 → W p l e R s m args below meth c H1 locs1 cells slots Q (F0 m (pc + 3) ls (v.toList ++ rest))) : W p l e R s m args below meth c H locs cells slots Q (F0 m pc ls st0) := by
  have hPc : va_P G vwCl wc H := hP.sub isC (by
    have h1 : isC.filterMap (fun i => ws[i]?) = (isC.map (fun i => ws[i]?)).filterMap id := by rw [List.filterMap_map]; rfl
    rw [h1, hC, List.filterMap_map]
    exact List.filterMap_some)
  have hDc : va_D A0 wc := hD.sub isC hdis.1 hC
  exact rw_go (va_runS X.fix (hM H.size) (va_cwS n X.2.2.2.2.2.1 hT hw rfl rfl hd hR) ⟨rwP.blind, fun U hU hW => ⟨rfl, by rw [hU], by rw [hU]; exact hPc, K.warm hW, hDc.weaken (fun _ _ _ _ => trivial)⟩⟩ rfl hn hls hst (lv_room hsum) hdg hf) hP hD hS hA isC isR hC hR' hdis.2.1 hdis.2.2 kk
theorem rwSf (X : cx p s m args meth c cc nL rt own Ts) (K : amb G g s) {y : MethodName} {ws' wsy : List Cond} {fr lo n index maxL : Nat} {bytes : ByteArray} {ret : Option FieldType} {As rest st0 : List Value} {ws wc w1 ws1 : va_W} {v : Option Value}
    (hM : rwC l y wsy (rmF fr lo) G g As wc v w1) (hd : ynm y n) (hT : GoodIn Ts (va_wsS own index y wsy)) (hP : va_P G vwCl ws H) (hD : va_D A0 ws) (hS : va_S A0 H0 H locs) (hA : ∀ q, H0.size ≤ q → A0 q) (f : focus ws wc w1 ws1) (hls : ls.size = nL) (hdg : decode cc pc = .ok (.invokestatic index, 3)) (hw : wsy = Cond.code y bytes maxL ret :: ws') (hn : As.length = n) (hR : fr + 1 ≤ R.frames ∧ 8 + (maxL + 11) + lo ≤ R.locals) (hst : st0 = As.reverse ++ rest) (hsum : (rest.map fun v => v.category).sum ≤ 8) (hf : cells ≤ R.cells ∧ slots ≤ R.slots)
    (kk : ∀ (H1 : Heap) (locs1 : List Loc), va_P G vwCl ws1 H1 → va_D A0 ws1 → va_S A0 H0 H1 locs1 → W p l e R s m args below meth c H1 locs1 cells slots Q (F0 m (pc + 3) ls (v.toList ++ rest))) : W p l e R s m args below meth c H locs cells slots Q (F0 m pc ls st0) := by
  have hPc : va_P G vwCl wc H := f.sub hP
  have hDc : va_D A0 wc := f.subD hD
  exact rw_gof (va_runS X.fix (hM H.size) (va_cwS n X.2.2.2.2.2.1 hT hw rfl rfl hd hR) ⟨rwP.blind, fun U hU hW => ⟨rfl, by rw [hU], by rw [hU]; exact hPc, K.warm hW, hDc.weaken (fun _ _ _ _ => trivial)⟩⟩ rfl hn hls hst (lv_room hsum) hdg hf) hP hD hS hA f kk
end MyRows7
def xcd (t : Nat) : Int32 := if t = 1 then -10000001 else if t = 2 then -10000002 else -10000003
theorem hd_X3_addKey : ynm yX3_addKey 4 := by unfold ynm; decide +kernel
theorem hd_X3_removeKey : ynm yX3_removeKey 2 := by unfold ynm; decide +kernel
theorem hd_X3_setKey : ynm yX3_setKey 4 := by unfold ynm; decide +kernel
theorem hd_X3_moveKey : ynm yX3_moveKey 3 := by unfold ynm; decide +kernel
theorem hd_X3_setTangent : ynm yX3_setTangent 4 := by unfold ynm; decide +kernel
theorem hd_X3_lock : ynm yX3_lock 3 := by unfold ynm; decide +kernel
theorem hd_X3_stretch : ynm yX3_stretch 4 := by unfold ynm; decide +kernel
theorem hd_X3_copy : ynm yX3_copy 3 := by unfold ynm; decide +kernel
theorem hd_X3_key : ynm yX3_key 3 := by unfold ynm; decide +kernel
theorem hd_X3_value : ynm yX3_value 2 := by unfold ynm; decide +kernel
def F_L_adds (bd : Nat → Nat → Nat) (sc : Int32) (cn : Nat → Int32) (cf : Nat → Nat → Int32) (sn : Nat → Nat → Int32) (sf : Nat → Nat → Nat → Int32) (p1 : Int32) (p2 : Int32) (p3 : Int32) (p4 : Int32) : Option (Int32 × (Nat → Nat → Nat) × Int32 × (Nat → Int32) × (Nat → Nat → Int32) × (Nat → Nat → Int32) × (Nat → Nat → Nat → Int32)) := (F_X3_addKey bd sc cn cf sn sf p1 p2 p3 p4).bind fun r => match r with | .inl t => (if t = 1 ∨ t = 2 ∨ t = 3 then some (xcd t, bd, sc, cn, cf, sn, sf) else none) | .inr r => some r
set_option maxHeartbeats 4000000 in
set_option maxRecDepth 100000 in
theorem kL_adds (l : Launch) (G : va_G) (g : Nat → ClassId) (ad : Nat → Nat) (bd : Nat → Nat → Nat) (sc : Int32) (tl : Int32) (tat : Int32) (tb : Nat → Int32) (cn : Nat → Int32) (cf : Nat → Nat → Int32) (sn : Nat → Nat → Int32) (sf : Nat → Nat → Nat → Int32) (tn : Int32) (tf : Nat → Int32) (vv : Nat → Int32) (ov : Nat → Int32) (p1 : Int32) (p2 : Int32) (p3 : Int32) (p4 : Int32) (res : Int32 × (Nat → Nat → Nat) × Int32 × (Nat → Int32) × (Nat → Nat → Int32) × (Nat → Nat → Int32) × (Nat → Nat → Nat → Int32)) (hq : F_X3_addKey bd sc cn cf sn sf p1 p2 p3 p4 = some (.inr res)) : lxC l yL_adds wsL_adds (rmX 8 137) G g [.ref (ad 0), .int p1, .int p2, .int p3, .int p4] (wX g ad bd sc tl tat tb cn cf sn sf tn tf vv ov) (some (.int res.1)) (fun w => w = (wX g ad res.2.1 res.2.2.1 tl tat tb res.2.2.2.1 res.2.2.2.2.1 res.2.2.2.2.2.1 res.2.2.2.2.2.2 tn tf vv ov)) := by
  refine lxC.of (cc := cL_adds) (maxL := 6) (ret := some .int) (by decide) rfl (Nat.le_of_ble_eq_true rfl) ?_
  intro p e s m below meth c ls A X K hA hP hD hS hs hnc htab hl
  obtain ⟨hx, hb, hml, hr, hown, hts, hk⟩ := id X
  have hl : lv_has ls 6 [(0, .ref (ad 0)), (1, .int p1), (2, .int p2), (3, .int p3), (4, .int p4)] := hl
  refine lv_aload_n hx hb dL_adds_0 rfl (lv_at hl 0 rfl) ?_
  refine lv_iload_n hx hb dL_adds_1 rfl (lv_at hl 1 rfl) ?_
  refine lv_iload_n hx hb dL_adds_2 rfl (lv_at hl 2 rfl) ?_
  refine lv_iload_n hx hb dL_adds_3 rfl (lv_at hl 3 rfl) ?_
  refine lv_iload hx hb dL_adds_4 (lv_at hl 4 rfl) ?_
  refine rwVf (ci := 3) (As := [.int p1, .int p2, .int p3, .int p4]) (rest := []) X K (k_X3_addKey l G g ad bd sc tl tat tb cn cf sn sf tn tf vv ov p1 p2 p3 p4 _ hq) hd_X3_addKey gL_adds_X3_addKey hP hD hS hA foc_id hl.1 dL_adds_6 rfl rfl ⟨(Nat.le_of_ble_eq_true rfl), (Nat.le_of_ble_eq_true rfl)⟩ rfl rfl rfl (Nat.le_of_ble_eq_true rfl) ⟨Nat.zero_le _, Nat.zero_le _⟩ (fun H locs hP hD hS => ?_)
  have hP : va_P G vwCl (wX g ad res.2.1 res.2.2.1 tl tat tb res.2.2.2.1 res.2.2.2.2.1 res.2.2.2.2.2.1 res.2.2.2.2.2.2 tn tf vv ov) H := hP
  have hD : va_D A (wX g ad res.2.1 res.2.2.1 tl tat tb res.2.2.2.1 res.2.2.2.2.1 res.2.2.2.2.2.1 res.2.2.2.2.2.2 tn tf vv ov) := hD
  refine W.widen (k := 1) (n := 6) (Nat.zero_le _) (Nat.zero_le _) ?_
  exact lx_iret hx hb hr hk rfl hP hD hS dL_adds_9
set_option maxHeartbeats 4000000 in
set_option maxRecDepth 100000 in
theorem kxL_adds (l : Launch) (hf0 : l.stackTraces = false) (G : va_G) (g : Nat → ClassId) (ad : Nat → Nat) (bd : Nat → Nat → Nat) (sc : Int32) (tl : Int32) (tat : Int32) (tb : Nat → Int32) (cn : Nat → Int32) (cf : Nat → Nat → Int32) (sn : Nat → Nat → Int32) (sf : Nat → Nat → Nat → Int32) (tn : Int32) (tf : Nat → Int32) (vv : Nat → Int32) (ov : Nat → Int32) (p1 : Int32) (p2 : Int32) (p3 : Int32) (p4 : Int32) (t : Nat) (ht : t = 1 ∨ t = 2 ∨ t = 3) (hq : F_X3_addKey bd sc cn cf sn sf p1 p2 p3 p4 = some (.inl t)) : lxC l yL_adds wsL_adds (rmX 8 137) G g [.ref (ad 0), .int p1, .int p2, .int p3, .int p4] (wX g ad bd sc tl tat tb cn cf sn sf tn tf vv ov) (some (.int (xcd t))) (fun w => w = (wX g ad bd sc tl tat tb cn cf sn sf tn tf vv ov)) := by
  refine lxC.of (cc := cL_adds) (maxL := 6) (ret := some .int) (by decide) rfl (Nat.le_of_ble_eq_true rfl) ?_
  intro p e s m below meth c ls A X K hA hP hD hS hs hnc htab hl
  obtain ⟨hx, hb, hml, hr, hown, hts, hk⟩ := id X
  have hl : lv_has ls 6 [(0, .ref (ad 0)), (1, .int p1), (2, .int p2), (3, .int p3), (4, .int p4)] := hl
  rcases ht with rfl | rfl | rfl
  · rw [show xcd 1 = (-10000001 : Int32) from rfl]
    refine lv_aload_n hx hb dL_adds_0 rfl (lv_at hl 0 rfl) ?_
    refine lv_iload_n hx hb dL_adds_1 rfl (lv_at hl 1 rfl) ?_
    refine lv_iload_n hx hb dL_adds_2 rfl (lv_at hl 2 rfl) ?_
    refine lv_iload_n hx hb dL_adds_3 rfl (lv_at hl 3 rfl) ?_
    refine lv_iload hx hb dL_adds_4 (lv_at hl 4 rfl) ?_
    refine lx_throw (wr := []) (ci := 3) (As := [.int p1, .int p2, .int p3, .int p4]) (rest := []) X K (kx_X3_addKey l hf0 G g ad bd sc tl tat tb cn cf sn sf tn tf vv ov p1 p2 p3 p4 _ hq) hd_X3_addKey gL_adds_X3_addKey hP hD hS hA hs hl.1 dL_adds_6 rfl rfl ⟨(Nat.le_of_ble_eq_true rfl), (Nat.le_of_ble_eq_true rfl)⟩ rfl rfl rfl (Nat.le_of_ble_eq_true rfl) ⟨(Nat.le_of_ble_eq_true rfl), (Nat.le_of_ble_eq_true rfl)⟩ (fun q ce w0 H locs hp0 hP hD hS hce hcv hcl => ?_)
    refine vx_catch (own := RL) (name := exN 1) hown [] (⟨0, 9, 10, 94⟩ : ExceptionTableEntry) [(⟨0, 9, 15, 96⟩ : ExceptionTableEntry), (⟨0, 9, 20, 98⟩ : ExceptionTableEntry)] (htab.trans rfl) (fun z hz => absurd hz List.not_mem_nil) (by decide) (by decide) (hts _ (List.mem_of_getElem? (i := 1) rfl)) (va_Nw.use rfl (hs.2.2.2.1 (exN 1) (by decide))) hce hcv hcl ?_
    refine lv_astore (lv' := [(5, .ref q), (0, .ref (ad 0)), (1, .int p1), (2, .int p2), (3, .int p3), (4, .int p4)]) hx hb dL_adds_10 hl (by decide) rfl (fun ls hl => ?_)
    refine lv_ldc (v := (-10000001)) hx hb hown (hts _ (List.mem_of_getElem? (i := 4) rfl)) dL_adds_12 ?_
    exact lx_iret hx hb hr hk hp0 hP hD hS dL_adds_14
  · rw [show xcd 2 = (-10000002 : Int32) from rfl]
    refine lv_aload_n hx hb dL_adds_0 rfl (lv_at hl 0 rfl) ?_
    refine lv_iload_n hx hb dL_adds_1 rfl (lv_at hl 1 rfl) ?_
    refine lv_iload_n hx hb dL_adds_2 rfl (lv_at hl 2 rfl) ?_
    refine lv_iload_n hx hb dL_adds_3 rfl (lv_at hl 3 rfl) ?_
    refine lv_iload hx hb dL_adds_4 (lv_at hl 4 rfl) ?_
    refine lx_throw (wr := []) (ci := 3) (As := [.int p1, .int p2, .int p3, .int p4]) (rest := []) X K (kx_X3_addKey l hf0 G g ad bd sc tl tat tb cn cf sn sf tn tf vv ov p1 p2 p3 p4 _ hq) hd_X3_addKey gL_adds_X3_addKey hP hD hS hA hs hl.1 dL_adds_6 rfl rfl ⟨(Nat.le_of_ble_eq_true rfl), (Nat.le_of_ble_eq_true rfl)⟩ rfl rfl rfl (Nat.le_of_ble_eq_true rfl) ⟨(Nat.le_of_ble_eq_true rfl), (Nat.le_of_ble_eq_true rfl)⟩ (fun q ce w0 H locs hp0 hP hD hS hce hcv hcl => ?_)
    refine vx_catch (own := RL) (name := exN 2) hown [(⟨0, 9, 10, 94⟩ : ExceptionTableEntry)] (⟨0, 9, 15, 96⟩ : ExceptionTableEntry) [(⟨0, 9, 20, 98⟩ : ExceptionTableEntry)] (htab.trans rfl) (fun z hz => by
      rcases List.mem_cons.mp hz with rfl | hz
      · exact Or.inr ⟨by decide, exN 1, (hts _ (List.mem_of_getElem? (i := 1) rfl)), hnc (2, 1) (by decide)⟩
      exact absurd hz List.not_mem_nil) (by decide) (by decide) (hts _ (List.mem_of_getElem? (i := 2) rfl)) (va_Nw.use rfl (hs.2.2.2.1 (exN 2) (by decide))) hce hcv hcl ?_
    refine lv_astore (lv' := [(5, .ref q), (0, .ref (ad 0)), (1, .int p1), (2, .int p2), (3, .int p3), (4, .int p4)]) hx hb dL_adds_15 hl (by decide) rfl (fun ls hl => ?_)
    refine lv_ldc (v := (-10000002)) hx hb hown (hts _ (List.mem_of_getElem? (i := 5) rfl)) dL_adds_17 ?_
    exact lx_iret hx hb hr hk hp0 hP hD hS dL_adds_19
  · rw [show xcd 3 = (-10000003 : Int32) from rfl]
    refine lv_aload_n hx hb dL_adds_0 rfl (lv_at hl 0 rfl) ?_
    refine lv_iload_n hx hb dL_adds_1 rfl (lv_at hl 1 rfl) ?_
    refine lv_iload_n hx hb dL_adds_2 rfl (lv_at hl 2 rfl) ?_
    refine lv_iload_n hx hb dL_adds_3 rfl (lv_at hl 3 rfl) ?_
    refine lv_iload hx hb dL_adds_4 (lv_at hl 4 rfl) ?_
    refine lx_throw (wr := []) (ci := 3) (As := [.int p1, .int p2, .int p3, .int p4]) (rest := []) X K (kx_X3_addKey l hf0 G g ad bd sc tl tat tb cn cf sn sf tn tf vv ov p1 p2 p3 p4 _ hq) hd_X3_addKey gL_adds_X3_addKey hP hD hS hA hs hl.1 dL_adds_6 rfl rfl ⟨(Nat.le_of_ble_eq_true rfl), (Nat.le_of_ble_eq_true rfl)⟩ rfl rfl rfl (Nat.le_of_ble_eq_true rfl) ⟨(Nat.le_of_ble_eq_true rfl), (Nat.le_of_ble_eq_true rfl)⟩ (fun q ce w0 H locs hp0 hP hD hS hce hcv hcl => ?_)
    refine vx_catch (own := RL) (name := exN 3) hown [(⟨0, 9, 10, 94⟩ : ExceptionTableEntry), (⟨0, 9, 15, 96⟩ : ExceptionTableEntry)] (⟨0, 9, 20, 98⟩ : ExceptionTableEntry) [] (htab.trans rfl) (fun z hz => by
      rcases List.mem_cons.mp hz with rfl | hz
      · exact Or.inr ⟨by decide, exN 1, (hts _ (List.mem_of_getElem? (i := 1) rfl)), hnc (3, 1) (by decide)⟩
      rcases List.mem_cons.mp hz with rfl | hz
      · exact Or.inr ⟨by decide, exN 2, (hts _ (List.mem_of_getElem? (i := 2) rfl)), hnc (3, 2) (by decide)⟩
      exact absurd hz List.not_mem_nil) (by decide) (by decide) (hts _ (List.mem_of_getElem? (i := 3) rfl)) (va_Nw.use rfl (hs.2.2.2.1 (exN 3) (by decide))) hce hcv hcl ?_
    refine lv_astore (lv' := [(5, .ref q), (0, .ref (ad 0)), (1, .int p1), (2, .int p2), (3, .int p3), (4, .int p4)]) hx hb dL_adds_20 hl (by decide) rfl (fun ls hl => ?_)
    refine lv_ldc (v := (-10000003)) hx hb hown (hts _ (List.mem_of_getElem? (i := 6) rfl)) dL_adds_22 ?_
    exact lx_iret hx hb hr hk hp0 hP hD hS dL_adds_24
theorem k_L_adds (l : Launch) (hf0 : l.stackTraces = false) (G : va_G) (g : Nat → ClassId) (ad : Nat → Nat) (bd : Nat → Nat → Nat) (sc : Int32) (tl : Int32) (tat : Int32) (tb : Nat → Int32) (cn : Nat → Int32) (cf : Nat → Nat → Int32) (sn : Nat → Nat → Int32) (sf : Nat → Nat → Nat → Int32) (tn : Int32) (tf : Nat → Int32) (vv : Nat → Int32) (ov : Nat → Int32) (p1 : Int32) (p2 : Int32) (p3 : Int32) (p4 : Int32) (res : Int32 × (Nat → Nat → Nat) × Int32 × (Nat → Int32) × (Nat → Nat → Int32) × (Nat → Nat → Int32) × (Nat → Nat → Nat → Int32)) (hq : F_L_adds bd sc cn cf sn sf p1 p2 p3 p4 = some res) : lxC l yL_adds wsL_adds (rmX 8 137) G g [.ref (ad 0), .int p1, .int p2, .int p3, .int p4] (wX g ad bd sc tl tat tb cn cf sn sf tn tf vv ov) (some (.int res.1)) (fun w => w = (wX g ad res.2.1 res.2.2.1 tl tat tb res.2.2.2.1 res.2.2.2.2.1 res.2.2.2.2.2.1 res.2.2.2.2.2.2 tn tf vv ov)) := by
  unfold F_L_adds at hq
  obtain ⟨r, hr, hq⟩ := q_bd hq
  cases r with
  | inl t =>
    by_cases h : t = 1 ∨ t = 2 ∨ t = 3
    · have hq := q_if_t hq h
      obtain rfl := q_rt hq
      exact kxL_adds l hf0 G g ad bd sc tl tat tb cn cf sn sf tn tf vv ov p1 p2 p3 p4 t h hr
    · exact q_no (q_if_f hq h)
  | inr r =>
    obtain rfl := q_rt hq
    exact kL_adds l G g ad bd sc tl tat tb cn cf sn sf tn tf vv ov p1 p2 p3 p4 _ hr
def F_L_drops (bd : Nat → Nat → Nat) (sc : Int32) (cn : Nat → Int32) (cf : Nat → Nat → Int32) (sn : Nat → Nat → Int32) (sf : Nat → Nat → Nat → Int32) (p1 : Int32) (p2 : Int32) : Option (Int32 × (Nat → Nat → Nat) × Int32 × (Nat → Int32) × (Nat → Nat → Int32) × (Nat → Nat → Int32) × (Nat → Nat → Nat → Int32)) := (F_X3_removeKey bd sc cn cf sn sf p1 p2).bind fun r => match r with | .inl t => (if t = 1 ∨ t = 3 then some (xcd t, bd, sc, cn, cf, sn, sf) else none) | .inr r => some r
set_option maxHeartbeats 4000000 in
set_option maxRecDepth 100000 in
theorem kL_drops (l : Launch) (G : va_G) (g : Nat → ClassId) (ad : Nat → Nat) (bd : Nat → Nat → Nat) (sc : Int32) (tl : Int32) (tat : Int32) (tb : Nat → Int32) (cn : Nat → Int32) (cf : Nat → Nat → Int32) (sn : Nat → Nat → Int32) (sf : Nat → Nat → Nat → Int32) (tn : Int32) (tf : Nat → Int32) (vv : Nat → Int32) (ov : Nat → Int32) (p1 : Int32) (p2 : Int32) (res : Int32 × (Nat → Nat → Nat) × Int32 × (Nat → Int32) × (Nat → Nat → Int32) × (Nat → Nat → Int32) × (Nat → Nat → Nat → Int32)) (hq : F_X3_removeKey bd sc cn cf sn sf p1 p2 = some (.inr res)) : lxC l yL_drops wsL_drops (rmX 8 134) G g [.ref (ad 0), .int p1, .int p2] (wX g ad bd sc tl tat tb cn cf sn sf tn tf vv ov) (some (.int res.1)) (fun w => w = (wX g ad res.2.1 res.2.2.1 tl tat tb res.2.2.2.1 res.2.2.2.2.1 res.2.2.2.2.2.1 res.2.2.2.2.2.2 tn tf vv ov)) := by
  refine lxC.of (cc := cL_drops) (maxL := 4) (ret := some .int) (by decide) rfl (Nat.le_of_ble_eq_true rfl) ?_
  intro p e s m below meth c ls A X K hA hP hD hS hs hnc htab hl
  obtain ⟨hx, hb, hml, hr, hown, hts, hk⟩ := id X
  have hl : lv_has ls 4 [(0, .ref (ad 0)), (1, .int p1), (2, .int p2)] := hl
  refine lv_aload_n hx hb dL_drops_0 rfl (lv_at hl 0 rfl) ?_
  refine lv_iload_n hx hb dL_drops_1 rfl (lv_at hl 1 rfl) ?_
  refine lv_iload_n hx hb dL_drops_2 rfl (lv_at hl 2 rfl) ?_
  refine rwVf (ci := 3) (As := [.int p1, .int p2]) (rest := []) X K (k_X3_removeKey l G g ad bd sc tl tat tb cn cf sn sf tn tf vv ov p1 p2 _ hq) hd_X3_removeKey gL_drops_X3_removeKey hP hD hS hA foc_id hl.1 dL_drops_3 rfl rfl ⟨(Nat.le_of_ble_eq_true rfl), (Nat.le_of_ble_eq_true rfl)⟩ rfl rfl rfl (Nat.le_of_ble_eq_true rfl) ⟨Nat.zero_le _, Nat.zero_le _⟩ (fun H locs hP hD hS => ?_)
  have hP : va_P G vwCl (wX g ad res.2.1 res.2.2.1 tl tat tb res.2.2.2.1 res.2.2.2.2.1 res.2.2.2.2.2.1 res.2.2.2.2.2.2 tn tf vv ov) H := hP
  have hD : va_D A (wX g ad res.2.1 res.2.2.1 tl tat tb res.2.2.2.1 res.2.2.2.2.1 res.2.2.2.2.2.1 res.2.2.2.2.2.2 tn tf vv ov) := hD
  refine W.widen (k := 1) (n := 6) (Nat.zero_le _) (Nat.zero_le _) ?_
  exact lx_iret hx hb hr hk rfl hP hD hS dL_drops_6
set_option maxHeartbeats 4000000 in
set_option maxRecDepth 100000 in
theorem kxL_drops (l : Launch) (hf0 : l.stackTraces = false) (G : va_G) (g : Nat → ClassId) (ad : Nat → Nat) (bd : Nat → Nat → Nat) (sc : Int32) (tl : Int32) (tat : Int32) (tb : Nat → Int32) (cn : Nat → Int32) (cf : Nat → Nat → Int32) (sn : Nat → Nat → Int32) (sf : Nat → Nat → Nat → Int32) (tn : Int32) (tf : Nat → Int32) (vv : Nat → Int32) (ov : Nat → Int32) (p1 : Int32) (p2 : Int32) (t : Nat) (ht : t = 1 ∨ t = 3) (hq : F_X3_removeKey bd sc cn cf sn sf p1 p2 = some (.inl t)) : lxC l yL_drops wsL_drops (rmX 8 134) G g [.ref (ad 0), .int p1, .int p2] (wX g ad bd sc tl tat tb cn cf sn sf tn tf vv ov) (some (.int (xcd t))) (fun w => w = (wX g ad bd sc tl tat tb cn cf sn sf tn tf vv ov)) := by
  refine lxC.of (cc := cL_drops) (maxL := 4) (ret := some .int) (by decide) rfl (Nat.le_of_ble_eq_true rfl) ?_
  intro p e s m below meth c ls A X K hA hP hD hS hs hnc htab hl
  obtain ⟨hx, hb, hml, hr, hown, hts, hk⟩ := id X
  have hl : lv_has ls 4 [(0, .ref (ad 0)), (1, .int p1), (2, .int p2)] := hl
  rcases ht with rfl | rfl
  · rw [show xcd 1 = (-10000001 : Int32) from rfl]
    refine lv_aload_n hx hb dL_drops_0 rfl (lv_at hl 0 rfl) ?_
    refine lv_iload_n hx hb dL_drops_1 rfl (lv_at hl 1 rfl) ?_
    refine lv_iload_n hx hb dL_drops_2 rfl (lv_at hl 2 rfl) ?_
    refine lx_throw (wr := []) (ci := 3) (As := [.int p1, .int p2]) (rest := []) X K (kx_X3_removeKey l hf0 G g ad bd sc tl tat tb cn cf sn sf tn tf vv ov p1 p2 _ hq) hd_X3_removeKey gL_drops_X3_removeKey hP hD hS hA hs hl.1 dL_drops_3 rfl rfl ⟨(Nat.le_of_ble_eq_true rfl), (Nat.le_of_ble_eq_true rfl)⟩ rfl rfl rfl (Nat.le_of_ble_eq_true rfl) ⟨(Nat.le_of_ble_eq_true rfl), (Nat.le_of_ble_eq_true rfl)⟩ (fun q ce w0 H locs hp0 hP hD hS hce hcv hcl => ?_)
    refine vx_catch (own := RL) (name := exN 1) hown [] (⟨0, 6, 7, 94⟩ : ExceptionTableEntry) [(⟨0, 6, 11, 98⟩ : ExceptionTableEntry)] (htab.trans rfl) (fun z hz => absurd hz List.not_mem_nil) (by decide) (by decide) (hts _ (List.mem_of_getElem? (i := 1) rfl)) (va_Nw.use rfl (hs.2.2.2.1 (exN 1) (by decide))) hce hcv hcl ?_
    refine lv_astore_n (lv' := [(3, .ref q), (0, .ref (ad 0)), (1, .int p1), (2, .int p2)]) hx hb dL_drops_7 rfl hl (by decide) rfl (fun ls hl => ?_)
    refine lv_ldc (v := (-10000001)) hx hb hown (hts _ (List.mem_of_getElem? (i := 3) rfl)) dL_drops_8 ?_
    exact lx_iret hx hb hr hk hp0 hP hD hS dL_drops_10
  · rw [show xcd 3 = (-10000003 : Int32) from rfl]
    refine lv_aload_n hx hb dL_drops_0 rfl (lv_at hl 0 rfl) ?_
    refine lv_iload_n hx hb dL_drops_1 rfl (lv_at hl 1 rfl) ?_
    refine lv_iload_n hx hb dL_drops_2 rfl (lv_at hl 2 rfl) ?_
    refine lx_throw (wr := []) (ci := 3) (As := [.int p1, .int p2]) (rest := []) X K (kx_X3_removeKey l hf0 G g ad bd sc tl tat tb cn cf sn sf tn tf vv ov p1 p2 _ hq) hd_X3_removeKey gL_drops_X3_removeKey hP hD hS hA hs hl.1 dL_drops_3 rfl rfl ⟨(Nat.le_of_ble_eq_true rfl), (Nat.le_of_ble_eq_true rfl)⟩ rfl rfl rfl (Nat.le_of_ble_eq_true rfl) ⟨(Nat.le_of_ble_eq_true rfl), (Nat.le_of_ble_eq_true rfl)⟩ (fun q ce w0 H locs hp0 hP hD hS hce hcv hcl => ?_)
    refine vx_catch (own := RL) (name := exN 3) hown [(⟨0, 6, 7, 94⟩ : ExceptionTableEntry)] (⟨0, 6, 11, 98⟩ : ExceptionTableEntry) [] (htab.trans rfl) (fun z hz => by
      rcases List.mem_cons.mp hz with rfl | hz
      · exact Or.inr ⟨by decide, exN 1, (hts _ (List.mem_of_getElem? (i := 1) rfl)), hnc (3, 1) (by decide)⟩
      exact absurd hz List.not_mem_nil) (by decide) (by decide) (hts _ (List.mem_of_getElem? (i := 2) rfl)) (va_Nw.use rfl (hs.2.2.2.1 (exN 3) (by decide))) hce hcv hcl ?_
    refine lv_astore_n (lv' := [(3, .ref q), (0, .ref (ad 0)), (1, .int p1), (2, .int p2)]) hx hb dL_drops_11 rfl hl (by decide) rfl (fun ls hl => ?_)
    refine lv_ldc (v := (-10000003)) hx hb hown (hts _ (List.mem_of_getElem? (i := 4) rfl)) dL_drops_12 ?_
    exact lx_iret hx hb hr hk hp0 hP hD hS dL_drops_14
theorem k_L_drops (l : Launch) (hf0 : l.stackTraces = false) (G : va_G) (g : Nat → ClassId) (ad : Nat → Nat) (bd : Nat → Nat → Nat) (sc : Int32) (tl : Int32) (tat : Int32) (tb : Nat → Int32) (cn : Nat → Int32) (cf : Nat → Nat → Int32) (sn : Nat → Nat → Int32) (sf : Nat → Nat → Nat → Int32) (tn : Int32) (tf : Nat → Int32) (vv : Nat → Int32) (ov : Nat → Int32) (p1 : Int32) (p2 : Int32) (res : Int32 × (Nat → Nat → Nat) × Int32 × (Nat → Int32) × (Nat → Nat → Int32) × (Nat → Nat → Int32) × (Nat → Nat → Nat → Int32)) (hq : F_L_drops bd sc cn cf sn sf p1 p2 = some res) : lxC l yL_drops wsL_drops (rmX 8 134) G g [.ref (ad 0), .int p1, .int p2] (wX g ad bd sc tl tat tb cn cf sn sf tn tf vv ov) (some (.int res.1)) (fun w => w = (wX g ad res.2.1 res.2.2.1 tl tat tb res.2.2.2.1 res.2.2.2.2.1 res.2.2.2.2.2.1 res.2.2.2.2.2.2 tn tf vv ov)) := by
  unfold F_L_drops at hq
  obtain ⟨r, hr, hq⟩ := q_bd hq
  cases r with
  | inl t =>
    by_cases h : t = 1 ∨ t = 3
    · have hq := q_if_t hq h
      obtain rfl := q_rt hq
      exact kxL_drops l hf0 G g ad bd sc tl tat tb cn cf sn sf tn tf vv ov p1 p2 t h hr
    · exact q_no (q_if_f hq h)
  | inr r =>
    obtain rfl := q_rt hq
    exact kL_drops l G g ad bd sc tl tat tb cn cf sn sf tn tf vv ov p1 p2 _ hr
def F_L_sets (bd : Nat → Nat → Nat) (sc : Int32) (cn : Nat → Int32) (cf : Nat → Nat → Int32) (sn : Nat → Nat → Int32) (sf : Nat → Nat → Nat → Int32) (p1 : Int32) (p2 : Int32) (p3 : Int32) (p4 : Int32) : Option (Int32 × (Nat → Nat → Nat) × Int32 × (Nat → Nat → Int32) × (Nat → Nat → Int32) × (Nat → Nat → Nat → Int32)) := (F_X3_setKey bd sc cn cf sn sf p1 p2 p3 p4).bind fun r => match r with | .inl t => (if t = 1 ∨ t = 2 ∨ t = 3 then some (xcd t, bd, sc, cf, sn, sf) else none) | .inr r => some r
set_option maxHeartbeats 4000000 in
set_option maxRecDepth 100000 in
theorem kL_sets (l : Launch) (G : va_G) (g : Nat → ClassId) (ad : Nat → Nat) (bd : Nat → Nat → Nat) (sc : Int32) (tl : Int32) (tat : Int32) (tb : Nat → Int32) (cn : Nat → Int32) (cf : Nat → Nat → Int32) (sn : Nat → Nat → Int32) (sf : Nat → Nat → Nat → Int32) (tn : Int32) (tf : Nat → Int32) (vv : Nat → Int32) (ov : Nat → Int32) (p1 : Int32) (p2 : Int32) (p3 : Int32) (p4 : Int32) (res : Int32 × (Nat → Nat → Nat) × Int32 × (Nat → Nat → Int32) × (Nat → Nat → Int32) × (Nat → Nat → Nat → Int32)) (hq : F_X3_setKey bd sc cn cf sn sf p1 p2 p3 p4 = some (.inr res)) : lxC l yL_sets wsL_sets (rmX 8 138) G g [.ref (ad 0), .int p1, .int p2, .int p3, .int p4] (wX g ad bd sc tl tat tb cn cf sn sf tn tf vv ov) (some (.int res.1)) (fun w => w = (wX g ad res.2.1 res.2.2.1 tl tat tb cn res.2.2.2.1 res.2.2.2.2.1 res.2.2.2.2.2 tn tf vv ov)) := by
  refine lxC.of (cc := cL_sets) (maxL := 6) (ret := some .int) (by decide) rfl (Nat.le_of_ble_eq_true rfl) ?_
  intro p e s m below meth c ls A X K hA hP hD hS hs hnc htab hl
  obtain ⟨hx, hb, hml, hr, hown, hts, hk⟩ := id X
  have hl : lv_has ls 6 [(0, .ref (ad 0)), (1, .int p1), (2, .int p2), (3, .int p3), (4, .int p4)] := hl
  refine lv_aload_n hx hb dL_sets_0 rfl (lv_at hl 0 rfl) ?_
  refine lv_iload_n hx hb dL_sets_1 rfl (lv_at hl 1 rfl) ?_
  refine lv_iload_n hx hb dL_sets_2 rfl (lv_at hl 2 rfl) ?_
  refine lv_iload_n hx hb dL_sets_3 rfl (lv_at hl 3 rfl) ?_
  refine lv_iload hx hb dL_sets_4 (lv_at hl 4 rfl) ?_
  refine rwVf (ci := 3) (As := [.int p1, .int p2, .int p3, .int p4]) (rest := []) X K (k_X3_setKey l G g ad bd sc tl tat tb cn cf sn sf tn tf vv ov p1 p2 p3 p4 _ hq) hd_X3_setKey gL_sets_X3_setKey hP hD hS hA foc_id hl.1 dL_sets_6 rfl rfl ⟨(Nat.le_of_ble_eq_true rfl), (Nat.le_of_ble_eq_true rfl)⟩ rfl rfl rfl (Nat.le_of_ble_eq_true rfl) ⟨Nat.zero_le _, Nat.zero_le _⟩ (fun H locs hP hD hS => ?_)
  have hP : va_P G vwCl (wX g ad res.2.1 res.2.2.1 tl tat tb cn res.2.2.2.1 res.2.2.2.2.1 res.2.2.2.2.2 tn tf vv ov) H := hP
  have hD : va_D A (wX g ad res.2.1 res.2.2.1 tl tat tb cn res.2.2.2.1 res.2.2.2.2.1 res.2.2.2.2.2 tn tf vv ov) := hD
  refine W.widen (k := 1) (n := 6) (Nat.zero_le _) (Nat.zero_le _) ?_
  exact lx_iret hx hb hr hk rfl hP hD hS dL_sets_9
set_option maxHeartbeats 4000000 in
set_option maxRecDepth 100000 in
theorem kxL_sets (l : Launch) (hf0 : l.stackTraces = false) (G : va_G) (g : Nat → ClassId) (ad : Nat → Nat) (bd : Nat → Nat → Nat) (sc : Int32) (tl : Int32) (tat : Int32) (tb : Nat → Int32) (cn : Nat → Int32) (cf : Nat → Nat → Int32) (sn : Nat → Nat → Int32) (sf : Nat → Nat → Nat → Int32) (tn : Int32) (tf : Nat → Int32) (vv : Nat → Int32) (ov : Nat → Int32) (p1 : Int32) (p2 : Int32) (p3 : Int32) (p4 : Int32) (t : Nat) (ht : t = 1 ∨ t = 2 ∨ t = 3) (hq : F_X3_setKey bd sc cn cf sn sf p1 p2 p3 p4 = some (.inl t)) : lxC l yL_sets wsL_sets (rmX 8 138) G g [.ref (ad 0), .int p1, .int p2, .int p3, .int p4] (wX g ad bd sc tl tat tb cn cf sn sf tn tf vv ov) (some (.int (xcd t))) (fun w => w = (wX g ad bd sc tl tat tb cn cf sn sf tn tf vv ov)) := by
  refine lxC.of (cc := cL_sets) (maxL := 6) (ret := some .int) (by decide) rfl (Nat.le_of_ble_eq_true rfl) ?_
  intro p e s m below meth c ls A X K hA hP hD hS hs hnc htab hl
  obtain ⟨hx, hb, hml, hr, hown, hts, hk⟩ := id X
  have hl : lv_has ls 6 [(0, .ref (ad 0)), (1, .int p1), (2, .int p2), (3, .int p3), (4, .int p4)] := hl
  rcases ht with rfl | rfl | rfl
  · rw [show xcd 1 = (-10000001 : Int32) from rfl]
    refine lv_aload_n hx hb dL_sets_0 rfl (lv_at hl 0 rfl) ?_
    refine lv_iload_n hx hb dL_sets_1 rfl (lv_at hl 1 rfl) ?_
    refine lv_iload_n hx hb dL_sets_2 rfl (lv_at hl 2 rfl) ?_
    refine lv_iload_n hx hb dL_sets_3 rfl (lv_at hl 3 rfl) ?_
    refine lv_iload hx hb dL_sets_4 (lv_at hl 4 rfl) ?_
    refine lx_throw (wr := []) (ci := 3) (As := [.int p1, .int p2, .int p3, .int p4]) (rest := []) X K (kx_X3_setKey l hf0 G g ad bd sc tl tat tb cn cf sn sf tn tf vv ov p1 p2 p3 p4 _ hq) hd_X3_setKey gL_sets_X3_setKey hP hD hS hA hs hl.1 dL_sets_6 rfl rfl ⟨(Nat.le_of_ble_eq_true rfl), (Nat.le_of_ble_eq_true rfl)⟩ rfl rfl rfl (Nat.le_of_ble_eq_true rfl) ⟨(Nat.le_of_ble_eq_true rfl), (Nat.le_of_ble_eq_true rfl)⟩ (fun q ce w0 H locs hp0 hP hD hS hce hcv hcl => ?_)
    refine vx_catch (own := RL) (name := exN 1) hown [] (⟨0, 9, 10, 94⟩ : ExceptionTableEntry) [(⟨0, 9, 15, 96⟩ : ExceptionTableEntry), (⟨0, 9, 20, 98⟩ : ExceptionTableEntry)] (htab.trans rfl) (fun z hz => absurd hz List.not_mem_nil) (by decide) (by decide) (hts _ (List.mem_of_getElem? (i := 1) rfl)) (va_Nw.use rfl (hs.2.2.2.1 (exN 1) (by decide))) hce hcv hcl ?_
    refine lv_astore (lv' := [(5, .ref q), (0, .ref (ad 0)), (1, .int p1), (2, .int p2), (3, .int p3), (4, .int p4)]) hx hb dL_sets_10 hl (by decide) rfl (fun ls hl => ?_)
    refine lv_ldc (v := (-10000001)) hx hb hown (hts _ (List.mem_of_getElem? (i := 4) rfl)) dL_sets_12 ?_
    exact lx_iret hx hb hr hk hp0 hP hD hS dL_sets_14
  · rw [show xcd 2 = (-10000002 : Int32) from rfl]
    refine lv_aload_n hx hb dL_sets_0 rfl (lv_at hl 0 rfl) ?_
    refine lv_iload_n hx hb dL_sets_1 rfl (lv_at hl 1 rfl) ?_
    refine lv_iload_n hx hb dL_sets_2 rfl (lv_at hl 2 rfl) ?_
    refine lv_iload_n hx hb dL_sets_3 rfl (lv_at hl 3 rfl) ?_
    refine lv_iload hx hb dL_sets_4 (lv_at hl 4 rfl) ?_
    refine lx_throw (wr := []) (ci := 3) (As := [.int p1, .int p2, .int p3, .int p4]) (rest := []) X K (kx_X3_setKey l hf0 G g ad bd sc tl tat tb cn cf sn sf tn tf vv ov p1 p2 p3 p4 _ hq) hd_X3_setKey gL_sets_X3_setKey hP hD hS hA hs hl.1 dL_sets_6 rfl rfl ⟨(Nat.le_of_ble_eq_true rfl), (Nat.le_of_ble_eq_true rfl)⟩ rfl rfl rfl (Nat.le_of_ble_eq_true rfl) ⟨(Nat.le_of_ble_eq_true rfl), (Nat.le_of_ble_eq_true rfl)⟩ (fun q ce w0 H locs hp0 hP hD hS hce hcv hcl => ?_)
    refine vx_catch (own := RL) (name := exN 2) hown [(⟨0, 9, 10, 94⟩ : ExceptionTableEntry)] (⟨0, 9, 15, 96⟩ : ExceptionTableEntry) [(⟨0, 9, 20, 98⟩ : ExceptionTableEntry)] (htab.trans rfl) (fun z hz => by
      rcases List.mem_cons.mp hz with rfl | hz
      · exact Or.inr ⟨by decide, exN 1, (hts _ (List.mem_of_getElem? (i := 1) rfl)), hnc (2, 1) (by decide)⟩
      exact absurd hz List.not_mem_nil) (by decide) (by decide) (hts _ (List.mem_of_getElem? (i := 2) rfl)) (va_Nw.use rfl (hs.2.2.2.1 (exN 2) (by decide))) hce hcv hcl ?_
    refine lv_astore (lv' := [(5, .ref q), (0, .ref (ad 0)), (1, .int p1), (2, .int p2), (3, .int p3), (4, .int p4)]) hx hb dL_sets_15 hl (by decide) rfl (fun ls hl => ?_)
    refine lv_ldc (v := (-10000002)) hx hb hown (hts _ (List.mem_of_getElem? (i := 5) rfl)) dL_sets_17 ?_
    exact lx_iret hx hb hr hk hp0 hP hD hS dL_sets_19
  · rw [show xcd 3 = (-10000003 : Int32) from rfl]
    refine lv_aload_n hx hb dL_sets_0 rfl (lv_at hl 0 rfl) ?_
    refine lv_iload_n hx hb dL_sets_1 rfl (lv_at hl 1 rfl) ?_
    refine lv_iload_n hx hb dL_sets_2 rfl (lv_at hl 2 rfl) ?_
    refine lv_iload_n hx hb dL_sets_3 rfl (lv_at hl 3 rfl) ?_
    refine lv_iload hx hb dL_sets_4 (lv_at hl 4 rfl) ?_
    refine lx_throw (wr := []) (ci := 3) (As := [.int p1, .int p2, .int p3, .int p4]) (rest := []) X K (kx_X3_setKey l hf0 G g ad bd sc tl tat tb cn cf sn sf tn tf vv ov p1 p2 p3 p4 _ hq) hd_X3_setKey gL_sets_X3_setKey hP hD hS hA hs hl.1 dL_sets_6 rfl rfl ⟨(Nat.le_of_ble_eq_true rfl), (Nat.le_of_ble_eq_true rfl)⟩ rfl rfl rfl (Nat.le_of_ble_eq_true rfl) ⟨(Nat.le_of_ble_eq_true rfl), (Nat.le_of_ble_eq_true rfl)⟩ (fun q ce w0 H locs hp0 hP hD hS hce hcv hcl => ?_)
    refine vx_catch (own := RL) (name := exN 3) hown [(⟨0, 9, 10, 94⟩ : ExceptionTableEntry), (⟨0, 9, 15, 96⟩ : ExceptionTableEntry)] (⟨0, 9, 20, 98⟩ : ExceptionTableEntry) [] (htab.trans rfl) (fun z hz => by
      rcases List.mem_cons.mp hz with rfl | hz
      · exact Or.inr ⟨by decide, exN 1, (hts _ (List.mem_of_getElem? (i := 1) rfl)), hnc (3, 1) (by decide)⟩
      rcases List.mem_cons.mp hz with rfl | hz
      · exact Or.inr ⟨by decide, exN 2, (hts _ (List.mem_of_getElem? (i := 2) rfl)), hnc (3, 2) (by decide)⟩
      exact absurd hz List.not_mem_nil) (by decide) (by decide) (hts _ (List.mem_of_getElem? (i := 3) rfl)) (va_Nw.use rfl (hs.2.2.2.1 (exN 3) (by decide))) hce hcv hcl ?_
    refine lv_astore (lv' := [(5, .ref q), (0, .ref (ad 0)), (1, .int p1), (2, .int p2), (3, .int p3), (4, .int p4)]) hx hb dL_sets_20 hl (by decide) rfl (fun ls hl => ?_)
    refine lv_ldc (v := (-10000003)) hx hb hown (hts _ (List.mem_of_getElem? (i := 6) rfl)) dL_sets_22 ?_
    exact lx_iret hx hb hr hk hp0 hP hD hS dL_sets_24
theorem k_L_sets (l : Launch) (hf0 : l.stackTraces = false) (G : va_G) (g : Nat → ClassId) (ad : Nat → Nat) (bd : Nat → Nat → Nat) (sc : Int32) (tl : Int32) (tat : Int32) (tb : Nat → Int32) (cn : Nat → Int32) (cf : Nat → Nat → Int32) (sn : Nat → Nat → Int32) (sf : Nat → Nat → Nat → Int32) (tn : Int32) (tf : Nat → Int32) (vv : Nat → Int32) (ov : Nat → Int32) (p1 : Int32) (p2 : Int32) (p3 : Int32) (p4 : Int32) (res : Int32 × (Nat → Nat → Nat) × Int32 × (Nat → Nat → Int32) × (Nat → Nat → Int32) × (Nat → Nat → Nat → Int32)) (hq : F_L_sets bd sc cn cf sn sf p1 p2 p3 p4 = some res) : lxC l yL_sets wsL_sets (rmX 8 138) G g [.ref (ad 0), .int p1, .int p2, .int p3, .int p4] (wX g ad bd sc tl tat tb cn cf sn sf tn tf vv ov) (some (.int res.1)) (fun w => w = (wX g ad res.2.1 res.2.2.1 tl tat tb cn res.2.2.2.1 res.2.2.2.2.1 res.2.2.2.2.2 tn tf vv ov)) := by
  unfold F_L_sets at hq
  obtain ⟨r, hr, hq⟩ := q_bd hq
  cases r with
  | inl t =>
    by_cases h : t = 1 ∨ t = 2 ∨ t = 3
    · have hq := q_if_t hq h
      obtain rfl := q_rt hq
      exact kxL_sets l hf0 G g ad bd sc tl tat tb cn cf sn sf tn tf vv ov p1 p2 p3 p4 t h hr
    · exact q_no (q_if_f hq h)
  | inr r =>
    obtain rfl := q_rt hq
    exact kL_sets l G g ad bd sc tl tat tb cn cf sn sf tn tf vv ov p1 p2 p3 p4 _ hr
def F_L_moves (bd : Nat → Nat → Nat) (sc : Int32) (cn : Nat → Int32) (cf : Nat → Nat → Int32) (sn : Nat → Nat → Int32) (sf : Nat → Nat → Nat → Int32) (p1 : Int32) (p2 : Int32) (p3 : Int32) : Option (Int32 × (Nat → Nat → Nat) × Int32 × (Nat → Int32) × (Nat → Nat → Int32) × (Nat → Nat → Int32) × (Nat → Nat → Nat → Int32)) := (F_X3_moveKey bd sc cn cf sn sf p1 p2 p3).bind fun r => match r with | .inl t => (if t = 1 ∨ t = 2 ∨ t = 3 then some (xcd t, bd, sc, cn, cf, sn, sf) else none) | .inr r => some r
set_option maxHeartbeats 4000000 in
set_option maxRecDepth 100000 in
theorem kL_moves (l : Launch) (G : va_G) (g : Nat → ClassId) (ad : Nat → Nat) (bd : Nat → Nat → Nat) (sc : Int32) (tl : Int32) (tat : Int32) (tb : Nat → Int32) (cn : Nat → Int32) (cf : Nat → Nat → Int32) (sn : Nat → Nat → Int32) (sf : Nat → Nat → Nat → Int32) (tn : Int32) (tf : Nat → Int32) (vv : Nat → Int32) (ov : Nat → Int32) (p1 : Int32) (p2 : Int32) (p3 : Int32) (res : Int32 × (Nat → Nat → Nat) × Int32 × (Nat → Int32) × (Nat → Nat → Int32) × (Nat → Nat → Int32) × (Nat → Nat → Nat → Int32)) (hq : F_X3_moveKey bd sc cn cf sn sf p1 p2 p3 = some (.inr res)) : lxC l yL_moves wsL_moves (rmX 8 137) G g [.ref (ad 0), .int p1, .int p2, .int p3] (wX g ad bd sc tl tat tb cn cf sn sf tn tf vv ov) (some (.int res.1)) (fun w => w = (wX g ad res.2.1 res.2.2.1 tl tat tb res.2.2.2.1 res.2.2.2.2.1 res.2.2.2.2.2.1 res.2.2.2.2.2.2 tn tf vv ov)) := by
  refine lxC.of (cc := cL_moves) (maxL := 5) (ret := some .int) (by decide) rfl (Nat.le_of_ble_eq_true rfl) ?_
  intro p e s m below meth c ls A X K hA hP hD hS hs hnc htab hl
  obtain ⟨hx, hb, hml, hr, hown, hts, hk⟩ := id X
  have hl : lv_has ls 5 [(0, .ref (ad 0)), (1, .int p1), (2, .int p2), (3, .int p3)] := hl
  refine lv_aload_n hx hb dL_moves_0 rfl (lv_at hl 0 rfl) ?_
  refine lv_iload_n hx hb dL_moves_1 rfl (lv_at hl 1 rfl) ?_
  refine lv_iload_n hx hb dL_moves_2 rfl (lv_at hl 2 rfl) ?_
  refine lv_iload_n hx hb dL_moves_3 rfl (lv_at hl 3 rfl) ?_
  refine rwVf (ci := 3) (As := [.int p1, .int p2, .int p3]) (rest := []) X K (k_X3_moveKey l G g ad bd sc tl tat tb cn cf sn sf tn tf vv ov p1 p2 p3 _ hq) hd_X3_moveKey gL_moves_X3_moveKey hP hD hS hA foc_id hl.1 dL_moves_4 rfl rfl ⟨(Nat.le_of_ble_eq_true rfl), (Nat.le_of_ble_eq_true rfl)⟩ rfl rfl rfl (Nat.le_of_ble_eq_true rfl) ⟨Nat.zero_le _, Nat.zero_le _⟩ (fun H locs hP hD hS => ?_)
  have hP : va_P G vwCl (wX g ad res.2.1 res.2.2.1 tl tat tb res.2.2.2.1 res.2.2.2.2.1 res.2.2.2.2.2.1 res.2.2.2.2.2.2 tn tf vv ov) H := hP
  have hD : va_D A (wX g ad res.2.1 res.2.2.1 tl tat tb res.2.2.2.1 res.2.2.2.2.1 res.2.2.2.2.2.1 res.2.2.2.2.2.2 tn tf vv ov) := hD
  refine W.widen (k := 1) (n := 6) (Nat.zero_le _) (Nat.zero_le _) ?_
  exact lx_iret hx hb hr hk rfl hP hD hS dL_moves_7
set_option maxHeartbeats 4000000 in
set_option maxRecDepth 100000 in
theorem kxL_moves (l : Launch) (hf0 : l.stackTraces = false) (G : va_G) (g : Nat → ClassId) (ad : Nat → Nat) (bd : Nat → Nat → Nat) (sc : Int32) (tl : Int32) (tat : Int32) (tb : Nat → Int32) (cn : Nat → Int32) (cf : Nat → Nat → Int32) (sn : Nat → Nat → Int32) (sf : Nat → Nat → Nat → Int32) (tn : Int32) (tf : Nat → Int32) (vv : Nat → Int32) (ov : Nat → Int32) (p1 : Int32) (p2 : Int32) (p3 : Int32) (t : Nat) (ht : t = 1 ∨ t = 2 ∨ t = 3) (hq : F_X3_moveKey bd sc cn cf sn sf p1 p2 p3 = some (.inl t)) : lxC l yL_moves wsL_moves (rmX 8 137) G g [.ref (ad 0), .int p1, .int p2, .int p3] (wX g ad bd sc tl tat tb cn cf sn sf tn tf vv ov) (some (.int (xcd t))) (fun w => w = (wX g ad bd sc tl tat tb cn cf sn sf tn tf vv ov)) := by
  refine lxC.of (cc := cL_moves) (maxL := 5) (ret := some .int) (by decide) rfl (Nat.le_of_ble_eq_true rfl) ?_
  intro p e s m below meth c ls A X K hA hP hD hS hs hnc htab hl
  obtain ⟨hx, hb, hml, hr, hown, hts, hk⟩ := id X
  have hl : lv_has ls 5 [(0, .ref (ad 0)), (1, .int p1), (2, .int p2), (3, .int p3)] := hl
  rcases ht with rfl | rfl | rfl
  · rw [show xcd 1 = (-10000001 : Int32) from rfl]
    refine lv_aload_n hx hb dL_moves_0 rfl (lv_at hl 0 rfl) ?_
    refine lv_iload_n hx hb dL_moves_1 rfl (lv_at hl 1 rfl) ?_
    refine lv_iload_n hx hb dL_moves_2 rfl (lv_at hl 2 rfl) ?_
    refine lv_iload_n hx hb dL_moves_3 rfl (lv_at hl 3 rfl) ?_
    refine lx_throw (wr := []) (ci := 3) (As := [.int p1, .int p2, .int p3]) (rest := []) X K (kx_X3_moveKey l hf0 G g ad bd sc tl tat tb cn cf sn sf tn tf vv ov p1 p2 p3 _ hq) hd_X3_moveKey gL_moves_X3_moveKey hP hD hS hA hs hl.1 dL_moves_4 rfl rfl ⟨(Nat.le_of_ble_eq_true rfl), (Nat.le_of_ble_eq_true rfl)⟩ rfl rfl rfl (Nat.le_of_ble_eq_true rfl) ⟨(Nat.le_of_ble_eq_true rfl), (Nat.le_of_ble_eq_true rfl)⟩ (fun q ce w0 H locs hp0 hP hD hS hce hcv hcl => ?_)
    refine vx_catch (own := RL) (name := exN 1) hown [] (⟨0, 7, 8, 94⟩ : ExceptionTableEntry) [(⟨0, 7, 13, 96⟩ : ExceptionTableEntry), (⟨0, 7, 18, 98⟩ : ExceptionTableEntry)] (htab.trans rfl) (fun z hz => absurd hz List.not_mem_nil) (by decide) (by decide) (hts _ (List.mem_of_getElem? (i := 1) rfl)) (va_Nw.use rfl (hs.2.2.2.1 (exN 1) (by decide))) hce hcv hcl ?_
    refine lv_astore (lv' := [(4, .ref q), (0, .ref (ad 0)), (1, .int p1), (2, .int p2), (3, .int p3)]) hx hb dL_moves_8 hl (by decide) rfl (fun ls hl => ?_)
    refine lv_ldc (v := (-10000001)) hx hb hown (hts _ (List.mem_of_getElem? (i := 4) rfl)) dL_moves_10 ?_
    exact lx_iret hx hb hr hk hp0 hP hD hS dL_moves_12
  · rw [show xcd 2 = (-10000002 : Int32) from rfl]
    refine lv_aload_n hx hb dL_moves_0 rfl (lv_at hl 0 rfl) ?_
    refine lv_iload_n hx hb dL_moves_1 rfl (lv_at hl 1 rfl) ?_
    refine lv_iload_n hx hb dL_moves_2 rfl (lv_at hl 2 rfl) ?_
    refine lv_iload_n hx hb dL_moves_3 rfl (lv_at hl 3 rfl) ?_
    refine lx_throw (wr := []) (ci := 3) (As := [.int p1, .int p2, .int p3]) (rest := []) X K (kx_X3_moveKey l hf0 G g ad bd sc tl tat tb cn cf sn sf tn tf vv ov p1 p2 p3 _ hq) hd_X3_moveKey gL_moves_X3_moveKey hP hD hS hA hs hl.1 dL_moves_4 rfl rfl ⟨(Nat.le_of_ble_eq_true rfl), (Nat.le_of_ble_eq_true rfl)⟩ rfl rfl rfl (Nat.le_of_ble_eq_true rfl) ⟨(Nat.le_of_ble_eq_true rfl), (Nat.le_of_ble_eq_true rfl)⟩ (fun q ce w0 H locs hp0 hP hD hS hce hcv hcl => ?_)
    refine vx_catch (own := RL) (name := exN 2) hown [(⟨0, 7, 8, 94⟩ : ExceptionTableEntry)] (⟨0, 7, 13, 96⟩ : ExceptionTableEntry) [(⟨0, 7, 18, 98⟩ : ExceptionTableEntry)] (htab.trans rfl) (fun z hz => by
      rcases List.mem_cons.mp hz with rfl | hz
      · exact Or.inr ⟨by decide, exN 1, (hts _ (List.mem_of_getElem? (i := 1) rfl)), hnc (2, 1) (by decide)⟩
      exact absurd hz List.not_mem_nil) (by decide) (by decide) (hts _ (List.mem_of_getElem? (i := 2) rfl)) (va_Nw.use rfl (hs.2.2.2.1 (exN 2) (by decide))) hce hcv hcl ?_
    refine lv_astore (lv' := [(4, .ref q), (0, .ref (ad 0)), (1, .int p1), (2, .int p2), (3, .int p3)]) hx hb dL_moves_13 hl (by decide) rfl (fun ls hl => ?_)
    refine lv_ldc (v := (-10000002)) hx hb hown (hts _ (List.mem_of_getElem? (i := 5) rfl)) dL_moves_15 ?_
    exact lx_iret hx hb hr hk hp0 hP hD hS dL_moves_17
  · rw [show xcd 3 = (-10000003 : Int32) from rfl]
    refine lv_aload_n hx hb dL_moves_0 rfl (lv_at hl 0 rfl) ?_
    refine lv_iload_n hx hb dL_moves_1 rfl (lv_at hl 1 rfl) ?_
    refine lv_iload_n hx hb dL_moves_2 rfl (lv_at hl 2 rfl) ?_
    refine lv_iload_n hx hb dL_moves_3 rfl (lv_at hl 3 rfl) ?_
    refine lx_throw (wr := []) (ci := 3) (As := [.int p1, .int p2, .int p3]) (rest := []) X K (kx_X3_moveKey l hf0 G g ad bd sc tl tat tb cn cf sn sf tn tf vv ov p1 p2 p3 _ hq) hd_X3_moveKey gL_moves_X3_moveKey hP hD hS hA hs hl.1 dL_moves_4 rfl rfl ⟨(Nat.le_of_ble_eq_true rfl), (Nat.le_of_ble_eq_true rfl)⟩ rfl rfl rfl (Nat.le_of_ble_eq_true rfl) ⟨(Nat.le_of_ble_eq_true rfl), (Nat.le_of_ble_eq_true rfl)⟩ (fun q ce w0 H locs hp0 hP hD hS hce hcv hcl => ?_)
    refine vx_catch (own := RL) (name := exN 3) hown [(⟨0, 7, 8, 94⟩ : ExceptionTableEntry), (⟨0, 7, 13, 96⟩ : ExceptionTableEntry)] (⟨0, 7, 18, 98⟩ : ExceptionTableEntry) [] (htab.trans rfl) (fun z hz => by
      rcases List.mem_cons.mp hz with rfl | hz
      · exact Or.inr ⟨by decide, exN 1, (hts _ (List.mem_of_getElem? (i := 1) rfl)), hnc (3, 1) (by decide)⟩
      rcases List.mem_cons.mp hz with rfl | hz
      · exact Or.inr ⟨by decide, exN 2, (hts _ (List.mem_of_getElem? (i := 2) rfl)), hnc (3, 2) (by decide)⟩
      exact absurd hz List.not_mem_nil) (by decide) (by decide) (hts _ (List.mem_of_getElem? (i := 3) rfl)) (va_Nw.use rfl (hs.2.2.2.1 (exN 3) (by decide))) hce hcv hcl ?_
    refine lv_astore (lv' := [(4, .ref q), (0, .ref (ad 0)), (1, .int p1), (2, .int p2), (3, .int p3)]) hx hb dL_moves_18 hl (by decide) rfl (fun ls hl => ?_)
    refine lv_ldc (v := (-10000003)) hx hb hown (hts _ (List.mem_of_getElem? (i := 6) rfl)) dL_moves_20 ?_
    exact lx_iret hx hb hr hk hp0 hP hD hS dL_moves_22
theorem k_L_moves (l : Launch) (hf0 : l.stackTraces = false) (G : va_G) (g : Nat → ClassId) (ad : Nat → Nat) (bd : Nat → Nat → Nat) (sc : Int32) (tl : Int32) (tat : Int32) (tb : Nat → Int32) (cn : Nat → Int32) (cf : Nat → Nat → Int32) (sn : Nat → Nat → Int32) (sf : Nat → Nat → Nat → Int32) (tn : Int32) (tf : Nat → Int32) (vv : Nat → Int32) (ov : Nat → Int32) (p1 : Int32) (p2 : Int32) (p3 : Int32) (res : Int32 × (Nat → Nat → Nat) × Int32 × (Nat → Int32) × (Nat → Nat → Int32) × (Nat → Nat → Int32) × (Nat → Nat → Nat → Int32)) (hq : F_L_moves bd sc cn cf sn sf p1 p2 p3 = some res) : lxC l yL_moves wsL_moves (rmX 8 137) G g [.ref (ad 0), .int p1, .int p2, .int p3] (wX g ad bd sc tl tat tb cn cf sn sf tn tf vv ov) (some (.int res.1)) (fun w => w = (wX g ad res.2.1 res.2.2.1 tl tat tb res.2.2.2.1 res.2.2.2.2.1 res.2.2.2.2.2.1 res.2.2.2.2.2.2 tn tf vv ov)) := by
  unfold F_L_moves at hq
  obtain ⟨r, hr, hq⟩ := q_bd hq
  cases r with
  | inl t =>
    by_cases h : t = 1 ∨ t = 2 ∨ t = 3
    · have hq := q_if_t hq h
      obtain rfl := q_rt hq
      exact kxL_moves l hf0 G g ad bd sc tl tat tb cn cf sn sf tn tf vv ov p1 p2 p3 t h hr
    · exact q_no (q_if_f hq h)
  | inr r =>
    obtain rfl := q_rt hq
    exact kL_moves l G g ad bd sc tl tat tb cn cf sn sf tn tf vv ov p1 p2 p3 _ hr
def F_L_leans (bd : Nat → Nat → Nat) (sc : Int32) (cn : Nat → Int32) (cf : Nat → Nat → Int32) (sn : Nat → Nat → Int32) (sf : Nat → Nat → Nat → Int32) (p1 : Int32) (p2 : Int32) (p3 : Int32) (p4 : Int32) : Option (Int32 × (Nat → Nat → Nat) × Int32 × (Nat → Nat → Int32) × (Nat → Nat → Int32) × (Nat → Nat → Nat → Int32)) := (F_X3_setTangent bd sc cn cf sn sf p1 p2 p3 p4).bind fun r => match r with | .inl t => (if t = 1 ∨ t = 2 ∨ t = 3 then some (xcd t, bd, sc, cf, sn, sf) else none) | .inr r => some r
set_option maxHeartbeats 4000000 in
set_option maxRecDepth 100000 in
theorem kL_leans (l : Launch) (G : va_G) (g : Nat → ClassId) (ad : Nat → Nat) (bd : Nat → Nat → Nat) (sc : Int32) (tl : Int32) (tat : Int32) (tb : Nat → Int32) (cn : Nat → Int32) (cf : Nat → Nat → Int32) (sn : Nat → Nat → Int32) (sf : Nat → Nat → Nat → Int32) (tn : Int32) (tf : Nat → Int32) (vv : Nat → Int32) (ov : Nat → Int32) (p1 : Int32) (p2 : Int32) (p3 : Int32) (p4 : Int32) (res : Int32 × (Nat → Nat → Nat) × Int32 × (Nat → Nat → Int32) × (Nat → Nat → Int32) × (Nat → Nat → Nat → Int32)) (hq : F_X3_setTangent bd sc cn cf sn sf p1 p2 p3 p4 = some (.inr res)) : lxC l yL_leans wsL_leans (rmX 8 138) G g [.ref (ad 0), .int p1, .int p2, .int p3, .int p4] (wX g ad bd sc tl tat tb cn cf sn sf tn tf vv ov) (some (.int res.1)) (fun w => w = (wX g ad res.2.1 res.2.2.1 tl tat tb cn res.2.2.2.1 res.2.2.2.2.1 res.2.2.2.2.2 tn tf vv ov)) := by
  refine lxC.of (cc := cL_leans) (maxL := 6) (ret := some .int) (by decide) rfl (Nat.le_of_ble_eq_true rfl) ?_
  intro p e s m below meth c ls A X K hA hP hD hS hs hnc htab hl
  obtain ⟨hx, hb, hml, hr, hown, hts, hk⟩ := id X
  have hl : lv_has ls 6 [(0, .ref (ad 0)), (1, .int p1), (2, .int p2), (3, .int p3), (4, .int p4)] := hl
  refine lv_aload_n hx hb dL_leans_0 rfl (lv_at hl 0 rfl) ?_
  refine lv_iload_n hx hb dL_leans_1 rfl (lv_at hl 1 rfl) ?_
  refine lv_iload_n hx hb dL_leans_2 rfl (lv_at hl 2 rfl) ?_
  refine lv_iload_n hx hb dL_leans_3 rfl (lv_at hl 3 rfl) ?_
  refine lv_iload hx hb dL_leans_4 (lv_at hl 4 rfl) ?_
  refine rwVf (ci := 3) (As := [.int p1, .int p2, .int p3, .int p4]) (rest := []) X K (k_X3_setTangent l G g ad bd sc tl tat tb cn cf sn sf tn tf vv ov p1 p2 p3 p4 _ hq) hd_X3_setTangent gL_leans_X3_setTangent hP hD hS hA foc_id hl.1 dL_leans_6 rfl rfl ⟨(Nat.le_of_ble_eq_true rfl), (Nat.le_of_ble_eq_true rfl)⟩ rfl rfl rfl (Nat.le_of_ble_eq_true rfl) ⟨Nat.zero_le _, Nat.zero_le _⟩ (fun H locs hP hD hS => ?_)
  have hP : va_P G vwCl (wX g ad res.2.1 res.2.2.1 tl tat tb cn res.2.2.2.1 res.2.2.2.2.1 res.2.2.2.2.2 tn tf vv ov) H := hP
  have hD : va_D A (wX g ad res.2.1 res.2.2.1 tl tat tb cn res.2.2.2.1 res.2.2.2.2.1 res.2.2.2.2.2 tn tf vv ov) := hD
  refine W.widen (k := 1) (n := 6) (Nat.zero_le _) (Nat.zero_le _) ?_
  exact lx_iret hx hb hr hk rfl hP hD hS dL_leans_9
set_option maxHeartbeats 4000000 in
set_option maxRecDepth 100000 in
theorem kxL_leans (l : Launch) (hf0 : l.stackTraces = false) (G : va_G) (g : Nat → ClassId) (ad : Nat → Nat) (bd : Nat → Nat → Nat) (sc : Int32) (tl : Int32) (tat : Int32) (tb : Nat → Int32) (cn : Nat → Int32) (cf : Nat → Nat → Int32) (sn : Nat → Nat → Int32) (sf : Nat → Nat → Nat → Int32) (tn : Int32) (tf : Nat → Int32) (vv : Nat → Int32) (ov : Nat → Int32) (p1 : Int32) (p2 : Int32) (p3 : Int32) (p4 : Int32) (t : Nat) (ht : t = 1 ∨ t = 2 ∨ t = 3) (hq : F_X3_setTangent bd sc cn cf sn sf p1 p2 p3 p4 = some (.inl t)) : lxC l yL_leans wsL_leans (rmX 8 138) G g [.ref (ad 0), .int p1, .int p2, .int p3, .int p4] (wX g ad bd sc tl tat tb cn cf sn sf tn tf vv ov) (some (.int (xcd t))) (fun w => w = (wX g ad bd sc tl tat tb cn cf sn sf tn tf vv ov)) := by
  refine lxC.of (cc := cL_leans) (maxL := 6) (ret := some .int) (by decide) rfl (Nat.le_of_ble_eq_true rfl) ?_
  intro p e s m below meth c ls A X K hA hP hD hS hs hnc htab hl
  obtain ⟨hx, hb, hml, hr, hown, hts, hk⟩ := id X
  have hl : lv_has ls 6 [(0, .ref (ad 0)), (1, .int p1), (2, .int p2), (3, .int p3), (4, .int p4)] := hl
  rcases ht with rfl | rfl | rfl
  · rw [show xcd 1 = (-10000001 : Int32) from rfl]
    refine lv_aload_n hx hb dL_leans_0 rfl (lv_at hl 0 rfl) ?_
    refine lv_iload_n hx hb dL_leans_1 rfl (lv_at hl 1 rfl) ?_
    refine lv_iload_n hx hb dL_leans_2 rfl (lv_at hl 2 rfl) ?_
    refine lv_iload_n hx hb dL_leans_3 rfl (lv_at hl 3 rfl) ?_
    refine lv_iload hx hb dL_leans_4 (lv_at hl 4 rfl) ?_
    refine lx_throw (wr := []) (ci := 3) (As := [.int p1, .int p2, .int p3, .int p4]) (rest := []) X K (kx_X3_setTangent l hf0 G g ad bd sc tl tat tb cn cf sn sf tn tf vv ov p1 p2 p3 p4 _ hq) hd_X3_setTangent gL_leans_X3_setTangent hP hD hS hA hs hl.1 dL_leans_6 rfl rfl ⟨(Nat.le_of_ble_eq_true rfl), (Nat.le_of_ble_eq_true rfl)⟩ rfl rfl rfl (Nat.le_of_ble_eq_true rfl) ⟨(Nat.le_of_ble_eq_true rfl), (Nat.le_of_ble_eq_true rfl)⟩ (fun q ce w0 H locs hp0 hP hD hS hce hcv hcl => ?_)
    refine vx_catch (own := RL) (name := exN 1) hown [] (⟨0, 9, 10, 94⟩ : ExceptionTableEntry) [(⟨0, 9, 15, 96⟩ : ExceptionTableEntry), (⟨0, 9, 20, 98⟩ : ExceptionTableEntry)] (htab.trans rfl) (fun z hz => absurd hz List.not_mem_nil) (by decide) (by decide) (hts _ (List.mem_of_getElem? (i := 1) rfl)) (va_Nw.use rfl (hs.2.2.2.1 (exN 1) (by decide))) hce hcv hcl ?_
    refine lv_astore (lv' := [(5, .ref q), (0, .ref (ad 0)), (1, .int p1), (2, .int p2), (3, .int p3), (4, .int p4)]) hx hb dL_leans_10 hl (by decide) rfl (fun ls hl => ?_)
    refine lv_ldc (v := (-10000001)) hx hb hown (hts _ (List.mem_of_getElem? (i := 4) rfl)) dL_leans_12 ?_
    exact lx_iret hx hb hr hk hp0 hP hD hS dL_leans_14
  · rw [show xcd 2 = (-10000002 : Int32) from rfl]
    refine lv_aload_n hx hb dL_leans_0 rfl (lv_at hl 0 rfl) ?_
    refine lv_iload_n hx hb dL_leans_1 rfl (lv_at hl 1 rfl) ?_
    refine lv_iload_n hx hb dL_leans_2 rfl (lv_at hl 2 rfl) ?_
    refine lv_iload_n hx hb dL_leans_3 rfl (lv_at hl 3 rfl) ?_
    refine lv_iload hx hb dL_leans_4 (lv_at hl 4 rfl) ?_
    refine lx_throw (wr := []) (ci := 3) (As := [.int p1, .int p2, .int p3, .int p4]) (rest := []) X K (kx_X3_setTangent l hf0 G g ad bd sc tl tat tb cn cf sn sf tn tf vv ov p1 p2 p3 p4 _ hq) hd_X3_setTangent gL_leans_X3_setTangent hP hD hS hA hs hl.1 dL_leans_6 rfl rfl ⟨(Nat.le_of_ble_eq_true rfl), (Nat.le_of_ble_eq_true rfl)⟩ rfl rfl rfl (Nat.le_of_ble_eq_true rfl) ⟨(Nat.le_of_ble_eq_true rfl), (Nat.le_of_ble_eq_true rfl)⟩ (fun q ce w0 H locs hp0 hP hD hS hce hcv hcl => ?_)
    refine vx_catch (own := RL) (name := exN 2) hown [(⟨0, 9, 10, 94⟩ : ExceptionTableEntry)] (⟨0, 9, 15, 96⟩ : ExceptionTableEntry) [(⟨0, 9, 20, 98⟩ : ExceptionTableEntry)] (htab.trans rfl) (fun z hz => by
      rcases List.mem_cons.mp hz with rfl | hz
      · exact Or.inr ⟨by decide, exN 1, (hts _ (List.mem_of_getElem? (i := 1) rfl)), hnc (2, 1) (by decide)⟩
      exact absurd hz List.not_mem_nil) (by decide) (by decide) (hts _ (List.mem_of_getElem? (i := 2) rfl)) (va_Nw.use rfl (hs.2.2.2.1 (exN 2) (by decide))) hce hcv hcl ?_
    refine lv_astore (lv' := [(5, .ref q), (0, .ref (ad 0)), (1, .int p1), (2, .int p2), (3, .int p3), (4, .int p4)]) hx hb dL_leans_15 hl (by decide) rfl (fun ls hl => ?_)
    refine lv_ldc (v := (-10000002)) hx hb hown (hts _ (List.mem_of_getElem? (i := 5) rfl)) dL_leans_17 ?_
    exact lx_iret hx hb hr hk hp0 hP hD hS dL_leans_19
  · rw [show xcd 3 = (-10000003 : Int32) from rfl]
    refine lv_aload_n hx hb dL_leans_0 rfl (lv_at hl 0 rfl) ?_
    refine lv_iload_n hx hb dL_leans_1 rfl (lv_at hl 1 rfl) ?_
    refine lv_iload_n hx hb dL_leans_2 rfl (lv_at hl 2 rfl) ?_
    refine lv_iload_n hx hb dL_leans_3 rfl (lv_at hl 3 rfl) ?_
    refine lv_iload hx hb dL_leans_4 (lv_at hl 4 rfl) ?_
    refine lx_throw (wr := []) (ci := 3) (As := [.int p1, .int p2, .int p3, .int p4]) (rest := []) X K (kx_X3_setTangent l hf0 G g ad bd sc tl tat tb cn cf sn sf tn tf vv ov p1 p2 p3 p4 _ hq) hd_X3_setTangent gL_leans_X3_setTangent hP hD hS hA hs hl.1 dL_leans_6 rfl rfl ⟨(Nat.le_of_ble_eq_true rfl), (Nat.le_of_ble_eq_true rfl)⟩ rfl rfl rfl (Nat.le_of_ble_eq_true rfl) ⟨(Nat.le_of_ble_eq_true rfl), (Nat.le_of_ble_eq_true rfl)⟩ (fun q ce w0 H locs hp0 hP hD hS hce hcv hcl => ?_)
    refine vx_catch (own := RL) (name := exN 3) hown [(⟨0, 9, 10, 94⟩ : ExceptionTableEntry), (⟨0, 9, 15, 96⟩ : ExceptionTableEntry)] (⟨0, 9, 20, 98⟩ : ExceptionTableEntry) [] (htab.trans rfl) (fun z hz => by
      rcases List.mem_cons.mp hz with rfl | hz
      · exact Or.inr ⟨by decide, exN 1, (hts _ (List.mem_of_getElem? (i := 1) rfl)), hnc (3, 1) (by decide)⟩
      rcases List.mem_cons.mp hz with rfl | hz
      · exact Or.inr ⟨by decide, exN 2, (hts _ (List.mem_of_getElem? (i := 2) rfl)), hnc (3, 2) (by decide)⟩
      exact absurd hz List.not_mem_nil) (by decide) (by decide) (hts _ (List.mem_of_getElem? (i := 3) rfl)) (va_Nw.use rfl (hs.2.2.2.1 (exN 3) (by decide))) hce hcv hcl ?_
    refine lv_astore (lv' := [(5, .ref q), (0, .ref (ad 0)), (1, .int p1), (2, .int p2), (3, .int p3), (4, .int p4)]) hx hb dL_leans_20 hl (by decide) rfl (fun ls hl => ?_)
    refine lv_ldc (v := (-10000003)) hx hb hown (hts _ (List.mem_of_getElem? (i := 6) rfl)) dL_leans_22 ?_
    exact lx_iret hx hb hr hk hp0 hP hD hS dL_leans_24
theorem k_L_leans (l : Launch) (hf0 : l.stackTraces = false) (G : va_G) (g : Nat → ClassId) (ad : Nat → Nat) (bd : Nat → Nat → Nat) (sc : Int32) (tl : Int32) (tat : Int32) (tb : Nat → Int32) (cn : Nat → Int32) (cf : Nat → Nat → Int32) (sn : Nat → Nat → Int32) (sf : Nat → Nat → Nat → Int32) (tn : Int32) (tf : Nat → Int32) (vv : Nat → Int32) (ov : Nat → Int32) (p1 : Int32) (p2 : Int32) (p3 : Int32) (p4 : Int32) (res : Int32 × (Nat → Nat → Nat) × Int32 × (Nat → Nat → Int32) × (Nat → Nat → Int32) × (Nat → Nat → Nat → Int32)) (hq : F_L_leans bd sc cn cf sn sf p1 p2 p3 p4 = some res) : lxC l yL_leans wsL_leans (rmX 8 138) G g [.ref (ad 0), .int p1, .int p2, .int p3, .int p4] (wX g ad bd sc tl tat tb cn cf sn sf tn tf vv ov) (some (.int res.1)) (fun w => w = (wX g ad res.2.1 res.2.2.1 tl tat tb cn res.2.2.2.1 res.2.2.2.2.1 res.2.2.2.2.2 tn tf vv ov)) := by
  unfold F_L_leans at hq
  obtain ⟨r, hr, hq⟩ := q_bd hq
  cases r with
  | inl t =>
    by_cases h : t = 1 ∨ t = 2 ∨ t = 3
    · have hq := q_if_t hq h
      obtain rfl := q_rt hq
      exact kxL_leans l hf0 G g ad bd sc tl tat tb cn cf sn sf tn tf vv ov p1 p2 p3 p4 t h hr
    · exact q_no (q_if_f hq h)
  | inr r =>
    obtain rfl := q_rt hq
    exact kL_leans l G g ad bd sc tl tat tb cn cf sn sf tn tf vv ov p1 p2 p3 p4 _ hr
def F_L_locks (bd : Nat → Nat → Nat) (sc : Int32) (cn : Nat → Int32) (cf : Nat → Nat → Int32) (sn : Nat → Nat → Int32) (sf : Nat → Nat → Nat → Int32) (p1 : Int32) (p2 : Int32) (p3 : Int32) : Option (Int32 × (Nat → Nat → Nat) × Int32 × (Nat → Nat → Int32) × (Nat → Nat → Int32) × (Nat → Nat → Nat → Int32)) := (F_X3_lock bd sc cn cf sn sf p1 p2 p3).bind fun r => match r with | .inl t => (if t = 1 then some (xcd t, bd, sc, cf, sn, sf) else none) | .inr r => some r
set_option maxHeartbeats 4000000 in
set_option maxRecDepth 100000 in
theorem kL_locks (l : Launch) (G : va_G) (g : Nat → ClassId) (ad : Nat → Nat) (bd : Nat → Nat → Nat) (sc : Int32) (tl : Int32) (tat : Int32) (tb : Nat → Int32) (cn : Nat → Int32) (cf : Nat → Nat → Int32) (sn : Nat → Nat → Int32) (sf : Nat → Nat → Nat → Int32) (tn : Int32) (tf : Nat → Int32) (vv : Nat → Int32) (ov : Nat → Int32) (p1 : Int32) (p2 : Int32) (p3 : Int32) (res : Int32 × (Nat → Nat → Nat) × Int32 × (Nat → Nat → Int32) × (Nat → Nat → Int32) × (Nat → Nat → Nat → Int32)) (hq : F_X3_lock bd sc cn cf sn sf p1 p2 p3 = some (.inr res)) : lxC l yL_locks wsL_locks (rmX 8 136) G g [.ref (ad 0), .int p1, .int p2, .int p3] (wX g ad bd sc tl tat tb cn cf sn sf tn tf vv ov) (some (.int res.1)) (fun w => w = (wX g ad res.2.1 res.2.2.1 tl tat tb cn res.2.2.2.1 res.2.2.2.2.1 res.2.2.2.2.2 tn tf vv ov)) := by
  refine lxC.of (cc := cL_locks) (maxL := 5) (ret := some .int) (by decide) rfl (Nat.le_of_ble_eq_true rfl) ?_
  intro p e s m below meth c ls A X K hA hP hD hS hs hnc htab hl
  obtain ⟨hx, hb, hml, hr, hown, hts, hk⟩ := id X
  have hl : lv_has ls 5 [(0, .ref (ad 0)), (1, .int p1), (2, .int p2), (3, .int p3)] := hl
  refine lv_aload_n hx hb dL_locks_0 rfl (lv_at hl 0 rfl) ?_
  refine lv_iload_n hx hb dL_locks_1 rfl (lv_at hl 1 rfl) ?_
  refine lv_iload_n hx hb dL_locks_2 rfl (lv_at hl 2 rfl) ?_
  refine lv_iload_n hx hb dL_locks_3 rfl (lv_at hl 3 rfl) ?_
  refine rwVf (ci := 3) (As := [.int p1, .int p2, .int p3]) (rest := []) X K (k_X3_lock l G g ad bd sc tl tat tb cn cf sn sf tn tf vv ov p1 p2 p3 _ hq) hd_X3_lock gL_locks_X3_lock hP hD hS hA foc_id hl.1 dL_locks_4 rfl rfl ⟨(Nat.le_of_ble_eq_true rfl), (Nat.le_of_ble_eq_true rfl)⟩ rfl rfl rfl (Nat.le_of_ble_eq_true rfl) ⟨Nat.zero_le _, Nat.zero_le _⟩ (fun H locs hP hD hS => ?_)
  have hP : va_P G vwCl (wX g ad res.2.1 res.2.2.1 tl tat tb cn res.2.2.2.1 res.2.2.2.2.1 res.2.2.2.2.2 tn tf vv ov) H := hP
  have hD : va_D A (wX g ad res.2.1 res.2.2.1 tl tat tb cn res.2.2.2.1 res.2.2.2.2.1 res.2.2.2.2.2 tn tf vv ov) := hD
  refine W.widen (k := 1) (n := 6) (Nat.zero_le _) (Nat.zero_le _) ?_
  exact lx_iret hx hb hr hk rfl hP hD hS dL_locks_7
set_option maxHeartbeats 4000000 in
set_option maxRecDepth 100000 in
theorem kxL_locks (l : Launch) (hf0 : l.stackTraces = false) (G : va_G) (g : Nat → ClassId) (ad : Nat → Nat) (bd : Nat → Nat → Nat) (sc : Int32) (tl : Int32) (tat : Int32) (tb : Nat → Int32) (cn : Nat → Int32) (cf : Nat → Nat → Int32) (sn : Nat → Nat → Int32) (sf : Nat → Nat → Nat → Int32) (tn : Int32) (tf : Nat → Int32) (vv : Nat → Int32) (ov : Nat → Int32) (p1 : Int32) (p2 : Int32) (p3 : Int32) (t : Nat) (ht : t = 1) (hq : F_X3_lock bd sc cn cf sn sf p1 p2 p3 = some (.inl t)) : lxC l yL_locks wsL_locks (rmX 8 136) G g [.ref (ad 0), .int p1, .int p2, .int p3] (wX g ad bd sc tl tat tb cn cf sn sf tn tf vv ov) (some (.int (xcd t))) (fun w => w = (wX g ad bd sc tl tat tb cn cf sn sf tn tf vv ov)) := by
  refine lxC.of (cc := cL_locks) (maxL := 5) (ret := some .int) (by decide) rfl (Nat.le_of_ble_eq_true rfl) ?_
  intro p e s m below meth c ls A X K hA hP hD hS hs hnc htab hl
  obtain ⟨hx, hb, hml, hr, hown, hts, hk⟩ := id X
  have hl : lv_has ls 5 [(0, .ref (ad 0)), (1, .int p1), (2, .int p2), (3, .int p3)] := hl
  obtain rfl := ht
  rw [show xcd 1 = (-10000001 : Int32) from rfl]
  refine lv_aload_n hx hb dL_locks_0 rfl (lv_at hl 0 rfl) ?_
  refine lv_iload_n hx hb dL_locks_1 rfl (lv_at hl 1 rfl) ?_
  refine lv_iload_n hx hb dL_locks_2 rfl (lv_at hl 2 rfl) ?_
  refine lv_iload_n hx hb dL_locks_3 rfl (lv_at hl 3 rfl) ?_
  refine lx_throw (wr := []) (ci := 3) (As := [.int p1, .int p2, .int p3]) (rest := []) X K (kx_X3_lock l hf0 G g ad bd sc tl tat tb cn cf sn sf tn tf vv ov p1 p2 p3 _ hq) hd_X3_lock gL_locks_X3_lock hP hD hS hA hs hl.1 dL_locks_4 rfl rfl ⟨(Nat.le_of_ble_eq_true rfl), (Nat.le_of_ble_eq_true rfl)⟩ rfl rfl rfl (Nat.le_of_ble_eq_true rfl) ⟨(Nat.le_of_ble_eq_true rfl), (Nat.le_of_ble_eq_true rfl)⟩ (fun q ce w0 H locs hp0 hP hD hS hce hcv hcl => ?_)
  refine vx_catch (own := RL) (name := exN 1) hown [] (⟨0, 7, 8, 94⟩ : ExceptionTableEntry) [] (htab.trans rfl) (fun z hz => absurd hz List.not_mem_nil) (by decide) (by decide) (hts _ (List.mem_of_getElem? (i := 1) rfl)) (va_Nw.use rfl (hs.2.2.2.1 (exN 1) (by decide))) hce hcv hcl ?_
  refine lv_astore (lv' := [(4, .ref q), (0, .ref (ad 0)), (1, .int p1), (2, .int p2), (3, .int p3)]) hx hb dL_locks_8 hl (by decide) rfl (fun ls hl => ?_)
  refine lv_ldc (v := (-10000001)) hx hb hown (hts _ (List.mem_of_getElem? (i := 2) rfl)) dL_locks_10 ?_
  exact lx_iret hx hb hr hk hp0 hP hD hS dL_locks_12
theorem k_L_locks (l : Launch) (hf0 : l.stackTraces = false) (G : va_G) (g : Nat → ClassId) (ad : Nat → Nat) (bd : Nat → Nat → Nat) (sc : Int32) (tl : Int32) (tat : Int32) (tb : Nat → Int32) (cn : Nat → Int32) (cf : Nat → Nat → Int32) (sn : Nat → Nat → Int32) (sf : Nat → Nat → Nat → Int32) (tn : Int32) (tf : Nat → Int32) (vv : Nat → Int32) (ov : Nat → Int32) (p1 : Int32) (p2 : Int32) (p3 : Int32) (res : Int32 × (Nat → Nat → Nat) × Int32 × (Nat → Nat → Int32) × (Nat → Nat → Int32) × (Nat → Nat → Nat → Int32)) (hq : F_L_locks bd sc cn cf sn sf p1 p2 p3 = some res) : lxC l yL_locks wsL_locks (rmX 8 136) G g [.ref (ad 0), .int p1, .int p2, .int p3] (wX g ad bd sc tl tat tb cn cf sn sf tn tf vv ov) (some (.int res.1)) (fun w => w = (wX g ad res.2.1 res.2.2.1 tl tat tb cn res.2.2.2.1 res.2.2.2.2.1 res.2.2.2.2.2 tn tf vv ov)) := by
  unfold F_L_locks at hq
  obtain ⟨r, hr, hq⟩ := q_bd hq
  cases r with
  | inl t =>
    by_cases h : t = 1
    · have hq := q_if_t hq h
      obtain rfl := q_rt hq
      exact kxL_locks l hf0 G g ad bd sc tl tat tb cn cf sn sf tn tf vv ov p1 p2 p3 t h hr
    · exact q_no (q_if_f hq h)
  | inr r =>
    obtain rfl := q_rt hq
    exact kL_locks l G g ad bd sc tl tat tb cn cf sn sf tn tf vv ov p1 p2 p3 _ hr
def F_L_stretches (bd : Nat → Nat → Nat) (sc : Int32) (cn : Nat → Int32) (cf : Nat → Nat → Int32) (sn : Nat → Nat → Int32) (sf : Nat → Nat → Nat → Int32) (p1 : Int32) (p2 : Int32) (p3 : Int32) (p4 : Int32) : Option (Int32 × (Nat → Nat → Nat) × Int32 × (Nat → Nat → Int32) × (Nat → Nat → Int32) × (Nat → Nat → Nat → Int32)) := (F_X3_stretch bd sc cn cf sn sf p1 p2 p3 p4).bind fun r => match r with | .inl t => (if t = 1 ∨ t = 2 ∨ t = 3 then some (xcd t, bd, sc, cf, sn, sf) else none) | .inr r => some r
set_option maxHeartbeats 4000000 in
set_option maxRecDepth 100000 in
theorem kL_stretches (l : Launch) (G : va_G) (g : Nat → ClassId) (ad : Nat → Nat) (bd : Nat → Nat → Nat) (sc : Int32) (tl : Int32) (tat : Int32) (tb : Nat → Int32) (cn : Nat → Int32) (cf : Nat → Nat → Int32) (sn : Nat → Nat → Int32) (sf : Nat → Nat → Nat → Int32) (tn : Int32) (tf : Nat → Int32) (vv : Nat → Int32) (ov : Nat → Int32) (p1 : Int32) (p2 : Int32) (p3 : Int32) (p4 : Int32) (res : Int32 × (Nat → Nat → Nat) × Int32 × (Nat → Nat → Int32) × (Nat → Nat → Int32) × (Nat → Nat → Nat → Int32)) (hq : F_X3_stretch bd sc cn cf sn sf p1 p2 p3 p4 = some (.inr res)) : lxC l yL_stretches wsL_stretches (rmX 9 158) G g [.ref (ad 0), .int p1, .int p2, .int p3, .int p4] (wX g ad bd sc tl tat tb cn cf sn sf tn tf vv ov) (some (.int res.1)) (fun w => w = (wX g ad res.2.1 res.2.2.1 tl tat tb cn res.2.2.2.1 res.2.2.2.2.1 res.2.2.2.2.2 tn tf vv ov)) := by
  refine lxC.of (cc := cL_stretches) (maxL := 6) (ret := some .int) (by decide) rfl (Nat.le_of_ble_eq_true rfl) ?_
  intro p e s m below meth c ls A X K hA hP hD hS hs hnc htab hl
  obtain ⟨hx, hb, hml, hr, hown, hts, hk⟩ := id X
  have hl : lv_has ls 6 [(0, .ref (ad 0)), (1, .int p1), (2, .int p2), (3, .int p3), (4, .int p4)] := hl
  refine lv_aload_n hx hb dL_stretches_0 rfl (lv_at hl 0 rfl) ?_
  refine lv_iload_n hx hb dL_stretches_1 rfl (lv_at hl 1 rfl) ?_
  refine lv_iload_n hx hb dL_stretches_2 rfl (lv_at hl 2 rfl) ?_
  refine lv_iload_n hx hb dL_stretches_3 rfl (lv_at hl 3 rfl) ?_
  refine lv_iload hx hb dL_stretches_4 (lv_at hl 4 rfl) ?_
  refine rwVf (ci := 3) (As := [.int p1, .int p2, .int p3, .int p4]) (rest := []) X K (k_X3_stretch l G g ad bd sc tl tat tb cn cf sn sf tn tf vv ov p1 p2 p3 p4 _ hq) hd_X3_stretch gL_stretches_X3_stretch hP hD hS hA foc_id hl.1 dL_stretches_6 rfl rfl ⟨(Nat.le_of_ble_eq_true rfl), (Nat.le_of_ble_eq_true rfl)⟩ rfl rfl rfl (Nat.le_of_ble_eq_true rfl) ⟨Nat.zero_le _, Nat.zero_le _⟩ (fun H locs hP hD hS => ?_)
  have hP : va_P G vwCl (wX g ad res.2.1 res.2.2.1 tl tat tb cn res.2.2.2.1 res.2.2.2.2.1 res.2.2.2.2.2 tn tf vv ov) H := hP
  have hD : va_D A (wX g ad res.2.1 res.2.2.1 tl tat tb cn res.2.2.2.1 res.2.2.2.2.1 res.2.2.2.2.2 tn tf vv ov) := hD
  refine W.widen (k := 1) (n := 6) (Nat.zero_le _) (Nat.zero_le _) ?_
  exact lx_iret hx hb hr hk rfl hP hD hS dL_stretches_9
set_option maxHeartbeats 4000000 in
set_option maxRecDepth 100000 in
theorem kxL_stretches (l : Launch) (hf0 : l.stackTraces = false) (G : va_G) (g : Nat → ClassId) (ad : Nat → Nat) (bd : Nat → Nat → Nat) (sc : Int32) (tl : Int32) (tat : Int32) (tb : Nat → Int32) (cn : Nat → Int32) (cf : Nat → Nat → Int32) (sn : Nat → Nat → Int32) (sf : Nat → Nat → Nat → Int32) (tn : Int32) (tf : Nat → Int32) (vv : Nat → Int32) (ov : Nat → Int32) (p1 : Int32) (p2 : Int32) (p3 : Int32) (p4 : Int32) (t : Nat) (ht : t = 1 ∨ t = 2 ∨ t = 3) (hq : F_X3_stretch bd sc cn cf sn sf p1 p2 p3 p4 = some (.inl t)) : lxC l yL_stretches wsL_stretches (rmX 9 158) G g [.ref (ad 0), .int p1, .int p2, .int p3, .int p4] (wX g ad bd sc tl tat tb cn cf sn sf tn tf vv ov) (some (.int (xcd t))) (fun w => w = (wX g ad bd sc tl tat tb cn cf sn sf tn tf vv ov)) := by
  refine lxC.of (cc := cL_stretches) (maxL := 6) (ret := some .int) (by decide) rfl (Nat.le_of_ble_eq_true rfl) ?_
  intro p e s m below meth c ls A X K hA hP hD hS hs hnc htab hl
  obtain ⟨hx, hb, hml, hr, hown, hts, hk⟩ := id X
  have hl : lv_has ls 6 [(0, .ref (ad 0)), (1, .int p1), (2, .int p2), (3, .int p3), (4, .int p4)] := hl
  rcases ht with rfl | rfl | rfl
  · rw [show xcd 1 = (-10000001 : Int32) from rfl]
    refine lv_aload_n hx hb dL_stretches_0 rfl (lv_at hl 0 rfl) ?_
    refine lv_iload_n hx hb dL_stretches_1 rfl (lv_at hl 1 rfl) ?_
    refine lv_iload_n hx hb dL_stretches_2 rfl (lv_at hl 2 rfl) ?_
    refine lv_iload_n hx hb dL_stretches_3 rfl (lv_at hl 3 rfl) ?_
    refine lv_iload hx hb dL_stretches_4 (lv_at hl 4 rfl) ?_
    refine lx_throw (wr := []) (ci := 3) (As := [.int p1, .int p2, .int p3, .int p4]) (rest := []) X K (kx_X3_stretch l hf0 G g ad bd sc tl tat tb cn cf sn sf tn tf vv ov p1 p2 p3 p4 _ hq) hd_X3_stretch gL_stretches_X3_stretch hP hD hS hA hs hl.1 dL_stretches_6 rfl rfl ⟨(Nat.le_of_ble_eq_true rfl), (Nat.le_of_ble_eq_true rfl)⟩ rfl rfl rfl (Nat.le_of_ble_eq_true rfl) ⟨(Nat.le_of_ble_eq_true rfl), (Nat.le_of_ble_eq_true rfl)⟩ (fun q ce w0 H locs hp0 hP hD hS hce hcv hcl => ?_)
    refine vx_catch (own := RL) (name := exN 1) hown [] (⟨0, 9, 10, 94⟩ : ExceptionTableEntry) [(⟨0, 9, 15, 96⟩ : ExceptionTableEntry), (⟨0, 9, 20, 98⟩ : ExceptionTableEntry)] (htab.trans rfl) (fun z hz => absurd hz List.not_mem_nil) (by decide) (by decide) (hts _ (List.mem_of_getElem? (i := 1) rfl)) (va_Nw.use rfl (hs.2.2.2.1 (exN 1) (by decide))) hce hcv hcl ?_
    refine lv_astore (lv' := [(5, .ref q), (0, .ref (ad 0)), (1, .int p1), (2, .int p2), (3, .int p3), (4, .int p4)]) hx hb dL_stretches_10 hl (by decide) rfl (fun ls hl => ?_)
    refine lv_ldc (v := (-10000001)) hx hb hown (hts _ (List.mem_of_getElem? (i := 4) rfl)) dL_stretches_12 ?_
    exact lx_iret hx hb hr hk hp0 hP hD hS dL_stretches_14
  · rw [show xcd 2 = (-10000002 : Int32) from rfl]
    refine lv_aload_n hx hb dL_stretches_0 rfl (lv_at hl 0 rfl) ?_
    refine lv_iload_n hx hb dL_stretches_1 rfl (lv_at hl 1 rfl) ?_
    refine lv_iload_n hx hb dL_stretches_2 rfl (lv_at hl 2 rfl) ?_
    refine lv_iload_n hx hb dL_stretches_3 rfl (lv_at hl 3 rfl) ?_
    refine lv_iload hx hb dL_stretches_4 (lv_at hl 4 rfl) ?_
    refine lx_throw (wr := []) (ci := 3) (As := [.int p1, .int p2, .int p3, .int p4]) (rest := []) X K (kx_X3_stretch l hf0 G g ad bd sc tl tat tb cn cf sn sf tn tf vv ov p1 p2 p3 p4 _ hq) hd_X3_stretch gL_stretches_X3_stretch hP hD hS hA hs hl.1 dL_stretches_6 rfl rfl ⟨(Nat.le_of_ble_eq_true rfl), (Nat.le_of_ble_eq_true rfl)⟩ rfl rfl rfl (Nat.le_of_ble_eq_true rfl) ⟨(Nat.le_of_ble_eq_true rfl), (Nat.le_of_ble_eq_true rfl)⟩ (fun q ce w0 H locs hp0 hP hD hS hce hcv hcl => ?_)
    refine vx_catch (own := RL) (name := exN 2) hown [(⟨0, 9, 10, 94⟩ : ExceptionTableEntry)] (⟨0, 9, 15, 96⟩ : ExceptionTableEntry) [(⟨0, 9, 20, 98⟩ : ExceptionTableEntry)] (htab.trans rfl) (fun z hz => by
      rcases List.mem_cons.mp hz with rfl | hz
      · exact Or.inr ⟨by decide, exN 1, (hts _ (List.mem_of_getElem? (i := 1) rfl)), hnc (2, 1) (by decide)⟩
      exact absurd hz List.not_mem_nil) (by decide) (by decide) (hts _ (List.mem_of_getElem? (i := 2) rfl)) (va_Nw.use rfl (hs.2.2.2.1 (exN 2) (by decide))) hce hcv hcl ?_
    refine lv_astore (lv' := [(5, .ref q), (0, .ref (ad 0)), (1, .int p1), (2, .int p2), (3, .int p3), (4, .int p4)]) hx hb dL_stretches_15 hl (by decide) rfl (fun ls hl => ?_)
    refine lv_ldc (v := (-10000002)) hx hb hown (hts _ (List.mem_of_getElem? (i := 5) rfl)) dL_stretches_17 ?_
    exact lx_iret hx hb hr hk hp0 hP hD hS dL_stretches_19
  · rw [show xcd 3 = (-10000003 : Int32) from rfl]
    refine lv_aload_n hx hb dL_stretches_0 rfl (lv_at hl 0 rfl) ?_
    refine lv_iload_n hx hb dL_stretches_1 rfl (lv_at hl 1 rfl) ?_
    refine lv_iload_n hx hb dL_stretches_2 rfl (lv_at hl 2 rfl) ?_
    refine lv_iload_n hx hb dL_stretches_3 rfl (lv_at hl 3 rfl) ?_
    refine lv_iload hx hb dL_stretches_4 (lv_at hl 4 rfl) ?_
    refine lx_throw (wr := []) (ci := 3) (As := [.int p1, .int p2, .int p3, .int p4]) (rest := []) X K (kx_X3_stretch l hf0 G g ad bd sc tl tat tb cn cf sn sf tn tf vv ov p1 p2 p3 p4 _ hq) hd_X3_stretch gL_stretches_X3_stretch hP hD hS hA hs hl.1 dL_stretches_6 rfl rfl ⟨(Nat.le_of_ble_eq_true rfl), (Nat.le_of_ble_eq_true rfl)⟩ rfl rfl rfl (Nat.le_of_ble_eq_true rfl) ⟨(Nat.le_of_ble_eq_true rfl), (Nat.le_of_ble_eq_true rfl)⟩ (fun q ce w0 H locs hp0 hP hD hS hce hcv hcl => ?_)
    refine vx_catch (own := RL) (name := exN 3) hown [(⟨0, 9, 10, 94⟩ : ExceptionTableEntry), (⟨0, 9, 15, 96⟩ : ExceptionTableEntry)] (⟨0, 9, 20, 98⟩ : ExceptionTableEntry) [] (htab.trans rfl) (fun z hz => by
      rcases List.mem_cons.mp hz with rfl | hz
      · exact Or.inr ⟨by decide, exN 1, (hts _ (List.mem_of_getElem? (i := 1) rfl)), hnc (3, 1) (by decide)⟩
      rcases List.mem_cons.mp hz with rfl | hz
      · exact Or.inr ⟨by decide, exN 2, (hts _ (List.mem_of_getElem? (i := 2) rfl)), hnc (3, 2) (by decide)⟩
      exact absurd hz List.not_mem_nil) (by decide) (by decide) (hts _ (List.mem_of_getElem? (i := 3) rfl)) (va_Nw.use rfl (hs.2.2.2.1 (exN 3) (by decide))) hce hcv hcl ?_
    refine lv_astore (lv' := [(5, .ref q), (0, .ref (ad 0)), (1, .int p1), (2, .int p2), (3, .int p3), (4, .int p4)]) hx hb dL_stretches_20 hl (by decide) rfl (fun ls hl => ?_)
    refine lv_ldc (v := (-10000003)) hx hb hown (hts _ (List.mem_of_getElem? (i := 6) rfl)) dL_stretches_22 ?_
    exact lx_iret hx hb hr hk hp0 hP hD hS dL_stretches_24
theorem k_L_stretches (l : Launch) (hf0 : l.stackTraces = false) (G : va_G) (g : Nat → ClassId) (ad : Nat → Nat) (bd : Nat → Nat → Nat) (sc : Int32) (tl : Int32) (tat : Int32) (tb : Nat → Int32) (cn : Nat → Int32) (cf : Nat → Nat → Int32) (sn : Nat → Nat → Int32) (sf : Nat → Nat → Nat → Int32) (tn : Int32) (tf : Nat → Int32) (vv : Nat → Int32) (ov : Nat → Int32) (p1 : Int32) (p2 : Int32) (p3 : Int32) (p4 : Int32) (res : Int32 × (Nat → Nat → Nat) × Int32 × (Nat → Nat → Int32) × (Nat → Nat → Int32) × (Nat → Nat → Nat → Int32)) (hq : F_L_stretches bd sc cn cf sn sf p1 p2 p3 p4 = some res) : lxC l yL_stretches wsL_stretches (rmX 9 158) G g [.ref (ad 0), .int p1, .int p2, .int p3, .int p4] (wX g ad bd sc tl tat tb cn cf sn sf tn tf vv ov) (some (.int res.1)) (fun w => w = (wX g ad res.2.1 res.2.2.1 tl tat tb cn res.2.2.2.1 res.2.2.2.2.1 res.2.2.2.2.2 tn tf vv ov)) := by
  unfold F_L_stretches at hq
  obtain ⟨r, hr, hq⟩ := q_bd hq
  cases r with
  | inl t =>
    by_cases h : t = 1 ∨ t = 2 ∨ t = 3
    · have hq := q_if_t hq h
      obtain rfl := q_rt hq
      exact kxL_stretches l hf0 G g ad bd sc tl tat tb cn cf sn sf tn tf vv ov p1 p2 p3 p4 t h hr
    · exact q_no (q_if_f hq h)
  | inr r =>
    obtain rfl := q_rt hq
    exact kL_stretches l G g ad bd sc tl tat tb cn cf sn sf tn tf vv ov p1 p2 p3 p4 _ hr
def F_L_copies (bd : Nat → Nat → Nat) (sc : Int32) (cn : Nat → Int32) (cf : Nat → Nat → Int32) (sn : Nat → Nat → Int32) (sf : Nat → Nat → Nat → Int32) (p1 : Int32) (p2 : Int32) (p3 : Int32) : Option (Int32 × (Nat → Nat → Nat) × Int32 × (Nat → Int32) × (Nat → Nat → Int32) × (Nat → Nat → Int32) × (Nat → Nat → Nat → Int32)) := (F_X3_copy bd sc cn cf sn sf p1 p2 p3).bind fun r => match r with | .inl t => (if t = 1 ∨ t = 2 ∨ t = 3 then some (xcd t, bd, sc, cn, cf, sn, sf) else none) | .inr r => some r
set_option maxHeartbeats 4000000 in
set_option maxRecDepth 100000 in
theorem kL_copies (l : Launch) (G : va_G) (g : Nat → ClassId) (ad : Nat → Nat) (bd : Nat → Nat → Nat) (sc : Int32) (tl : Int32) (tat : Int32) (tb : Nat → Int32) (cn : Nat → Int32) (cf : Nat → Nat → Int32) (sn : Nat → Nat → Int32) (sf : Nat → Nat → Nat → Int32) (tn : Int32) (tf : Nat → Int32) (vv : Nat → Int32) (ov : Nat → Int32) (p1 : Int32) (p2 : Int32) (p3 : Int32) (res : Int32 × (Nat → Nat → Nat) × Int32 × (Nat → Int32) × (Nat → Nat → Int32) × (Nat → Nat → Int32) × (Nat → Nat → Nat → Int32)) (hq : F_X3_copy bd sc cn cf sn sf p1 p2 p3 = some (.inr res)) : lxC l yL_copies wsL_copies (rmX 8 137) G g [.ref (ad 0), .int p1, .int p2, .int p3] (wX g ad bd sc tl tat tb cn cf sn sf tn tf vv ov) (some (.int res.1)) (fun w => w = (wX g ad res.2.1 res.2.2.1 tl tat tb res.2.2.2.1 res.2.2.2.2.1 res.2.2.2.2.2.1 res.2.2.2.2.2.2 tn tf vv ov)) := by
  refine lxC.of (cc := cL_copies) (maxL := 5) (ret := some .int) (by decide) rfl (Nat.le_of_ble_eq_true rfl) ?_
  intro p e s m below meth c ls A X K hA hP hD hS hs hnc htab hl
  obtain ⟨hx, hb, hml, hr, hown, hts, hk⟩ := id X
  have hl : lv_has ls 5 [(0, .ref (ad 0)), (1, .int p1), (2, .int p2), (3, .int p3)] := hl
  refine lv_aload_n hx hb dL_copies_0 rfl (lv_at hl 0 rfl) ?_
  refine lv_iload_n hx hb dL_copies_1 rfl (lv_at hl 1 rfl) ?_
  refine lv_iload_n hx hb dL_copies_2 rfl (lv_at hl 2 rfl) ?_
  refine lv_iload_n hx hb dL_copies_3 rfl (lv_at hl 3 rfl) ?_
  refine rwVf (ci := 3) (As := [.int p1, .int p2, .int p3]) (rest := []) X K (k_X3_copy l G g ad bd sc tl tat tb cn cf sn sf tn tf vv ov p1 p2 p3 _ hq) hd_X3_copy gL_copies_X3_copy hP hD hS hA foc_id hl.1 dL_copies_4 rfl rfl ⟨(Nat.le_of_ble_eq_true rfl), (Nat.le_of_ble_eq_true rfl)⟩ rfl rfl rfl (Nat.le_of_ble_eq_true rfl) ⟨Nat.zero_le _, Nat.zero_le _⟩ (fun H locs hP hD hS => ?_)
  have hP : va_P G vwCl (wX g ad res.2.1 res.2.2.1 tl tat tb res.2.2.2.1 res.2.2.2.2.1 res.2.2.2.2.2.1 res.2.2.2.2.2.2 tn tf vv ov) H := hP
  have hD : va_D A (wX g ad res.2.1 res.2.2.1 tl tat tb res.2.2.2.1 res.2.2.2.2.1 res.2.2.2.2.2.1 res.2.2.2.2.2.2 tn tf vv ov) := hD
  refine W.widen (k := 1) (n := 6) (Nat.zero_le _) (Nat.zero_le _) ?_
  exact lx_iret hx hb hr hk rfl hP hD hS dL_copies_7
set_option maxHeartbeats 4000000 in
set_option maxRecDepth 100000 in
theorem kxL_copies (l : Launch) (hf0 : l.stackTraces = false) (G : va_G) (g : Nat → ClassId) (ad : Nat → Nat) (bd : Nat → Nat → Nat) (sc : Int32) (tl : Int32) (tat : Int32) (tb : Nat → Int32) (cn : Nat → Int32) (cf : Nat → Nat → Int32) (sn : Nat → Nat → Int32) (sf : Nat → Nat → Nat → Int32) (tn : Int32) (tf : Nat → Int32) (vv : Nat → Int32) (ov : Nat → Int32) (p1 : Int32) (p2 : Int32) (p3 : Int32) (t : Nat) (ht : t = 1 ∨ t = 2 ∨ t = 3) (hq : F_X3_copy bd sc cn cf sn sf p1 p2 p3 = some (.inl t)) : lxC l yL_copies wsL_copies (rmX 8 137) G g [.ref (ad 0), .int p1, .int p2, .int p3] (wX g ad bd sc tl tat tb cn cf sn sf tn tf vv ov) (some (.int (xcd t))) (fun w => w = (wX g ad bd sc tl tat tb cn cf sn sf tn tf vv ov)) := by
  refine lxC.of (cc := cL_copies) (maxL := 5) (ret := some .int) (by decide) rfl (Nat.le_of_ble_eq_true rfl) ?_
  intro p e s m below meth c ls A X K hA hP hD hS hs hnc htab hl
  obtain ⟨hx, hb, hml, hr, hown, hts, hk⟩ := id X
  have hl : lv_has ls 5 [(0, .ref (ad 0)), (1, .int p1), (2, .int p2), (3, .int p3)] := hl
  rcases ht with rfl | rfl | rfl
  · rw [show xcd 1 = (-10000001 : Int32) from rfl]
    refine lv_aload_n hx hb dL_copies_0 rfl (lv_at hl 0 rfl) ?_
    refine lv_iload_n hx hb dL_copies_1 rfl (lv_at hl 1 rfl) ?_
    refine lv_iload_n hx hb dL_copies_2 rfl (lv_at hl 2 rfl) ?_
    refine lv_iload_n hx hb dL_copies_3 rfl (lv_at hl 3 rfl) ?_
    refine lx_throw (wr := []) (ci := 3) (As := [.int p1, .int p2, .int p3]) (rest := []) X K (kx_X3_copy l hf0 G g ad bd sc tl tat tb cn cf sn sf tn tf vv ov p1 p2 p3 _ hq) hd_X3_copy gL_copies_X3_copy hP hD hS hA hs hl.1 dL_copies_4 rfl rfl ⟨(Nat.le_of_ble_eq_true rfl), (Nat.le_of_ble_eq_true rfl)⟩ rfl rfl rfl (Nat.le_of_ble_eq_true rfl) ⟨(Nat.le_of_ble_eq_true rfl), (Nat.le_of_ble_eq_true rfl)⟩ (fun q ce w0 H locs hp0 hP hD hS hce hcv hcl => ?_)
    refine vx_catch (own := RL) (name := exN 1) hown [] (⟨0, 7, 8, 94⟩ : ExceptionTableEntry) [(⟨0, 7, 13, 96⟩ : ExceptionTableEntry), (⟨0, 7, 18, 98⟩ : ExceptionTableEntry)] (htab.trans rfl) (fun z hz => absurd hz List.not_mem_nil) (by decide) (by decide) (hts _ (List.mem_of_getElem? (i := 1) rfl)) (va_Nw.use rfl (hs.2.2.2.1 (exN 1) (by decide))) hce hcv hcl ?_
    refine lv_astore (lv' := [(4, .ref q), (0, .ref (ad 0)), (1, .int p1), (2, .int p2), (3, .int p3)]) hx hb dL_copies_8 hl (by decide) rfl (fun ls hl => ?_)
    refine lv_ldc (v := (-10000001)) hx hb hown (hts _ (List.mem_of_getElem? (i := 4) rfl)) dL_copies_10 ?_
    exact lx_iret hx hb hr hk hp0 hP hD hS dL_copies_12
  · rw [show xcd 2 = (-10000002 : Int32) from rfl]
    refine lv_aload_n hx hb dL_copies_0 rfl (lv_at hl 0 rfl) ?_
    refine lv_iload_n hx hb dL_copies_1 rfl (lv_at hl 1 rfl) ?_
    refine lv_iload_n hx hb dL_copies_2 rfl (lv_at hl 2 rfl) ?_
    refine lv_iload_n hx hb dL_copies_3 rfl (lv_at hl 3 rfl) ?_
    refine lx_throw (wr := []) (ci := 3) (As := [.int p1, .int p2, .int p3]) (rest := []) X K (kx_X3_copy l hf0 G g ad bd sc tl tat tb cn cf sn sf tn tf vv ov p1 p2 p3 _ hq) hd_X3_copy gL_copies_X3_copy hP hD hS hA hs hl.1 dL_copies_4 rfl rfl ⟨(Nat.le_of_ble_eq_true rfl), (Nat.le_of_ble_eq_true rfl)⟩ rfl rfl rfl (Nat.le_of_ble_eq_true rfl) ⟨(Nat.le_of_ble_eq_true rfl), (Nat.le_of_ble_eq_true rfl)⟩ (fun q ce w0 H locs hp0 hP hD hS hce hcv hcl => ?_)
    refine vx_catch (own := RL) (name := exN 2) hown [(⟨0, 7, 8, 94⟩ : ExceptionTableEntry)] (⟨0, 7, 13, 96⟩ : ExceptionTableEntry) [(⟨0, 7, 18, 98⟩ : ExceptionTableEntry)] (htab.trans rfl) (fun z hz => by
      rcases List.mem_cons.mp hz with rfl | hz
      · exact Or.inr ⟨by decide, exN 1, (hts _ (List.mem_of_getElem? (i := 1) rfl)), hnc (2, 1) (by decide)⟩
      exact absurd hz List.not_mem_nil) (by decide) (by decide) (hts _ (List.mem_of_getElem? (i := 2) rfl)) (va_Nw.use rfl (hs.2.2.2.1 (exN 2) (by decide))) hce hcv hcl ?_
    refine lv_astore (lv' := [(4, .ref q), (0, .ref (ad 0)), (1, .int p1), (2, .int p2), (3, .int p3)]) hx hb dL_copies_13 hl (by decide) rfl (fun ls hl => ?_)
    refine lv_ldc (v := (-10000002)) hx hb hown (hts _ (List.mem_of_getElem? (i := 5) rfl)) dL_copies_15 ?_
    exact lx_iret hx hb hr hk hp0 hP hD hS dL_copies_17
  · rw [show xcd 3 = (-10000003 : Int32) from rfl]
    refine lv_aload_n hx hb dL_copies_0 rfl (lv_at hl 0 rfl) ?_
    refine lv_iload_n hx hb dL_copies_1 rfl (lv_at hl 1 rfl) ?_
    refine lv_iload_n hx hb dL_copies_2 rfl (lv_at hl 2 rfl) ?_
    refine lv_iload_n hx hb dL_copies_3 rfl (lv_at hl 3 rfl) ?_
    refine lx_throw (wr := []) (ci := 3) (As := [.int p1, .int p2, .int p3]) (rest := []) X K (kx_X3_copy l hf0 G g ad bd sc tl tat tb cn cf sn sf tn tf vv ov p1 p2 p3 _ hq) hd_X3_copy gL_copies_X3_copy hP hD hS hA hs hl.1 dL_copies_4 rfl rfl ⟨(Nat.le_of_ble_eq_true rfl), (Nat.le_of_ble_eq_true rfl)⟩ rfl rfl rfl (Nat.le_of_ble_eq_true rfl) ⟨(Nat.le_of_ble_eq_true rfl), (Nat.le_of_ble_eq_true rfl)⟩ (fun q ce w0 H locs hp0 hP hD hS hce hcv hcl => ?_)
    refine vx_catch (own := RL) (name := exN 3) hown [(⟨0, 7, 8, 94⟩ : ExceptionTableEntry), (⟨0, 7, 13, 96⟩ : ExceptionTableEntry)] (⟨0, 7, 18, 98⟩ : ExceptionTableEntry) [] (htab.trans rfl) (fun z hz => by
      rcases List.mem_cons.mp hz with rfl | hz
      · exact Or.inr ⟨by decide, exN 1, (hts _ (List.mem_of_getElem? (i := 1) rfl)), hnc (3, 1) (by decide)⟩
      rcases List.mem_cons.mp hz with rfl | hz
      · exact Or.inr ⟨by decide, exN 2, (hts _ (List.mem_of_getElem? (i := 2) rfl)), hnc (3, 2) (by decide)⟩
      exact absurd hz List.not_mem_nil) (by decide) (by decide) (hts _ (List.mem_of_getElem? (i := 3) rfl)) (va_Nw.use rfl (hs.2.2.2.1 (exN 3) (by decide))) hce hcv hcl ?_
    refine lv_astore (lv' := [(4, .ref q), (0, .ref (ad 0)), (1, .int p1), (2, .int p2), (3, .int p3)]) hx hb dL_copies_18 hl (by decide) rfl (fun ls hl => ?_)
    refine lv_ldc (v := (-10000003)) hx hb hown (hts _ (List.mem_of_getElem? (i := 6) rfl)) dL_copies_20 ?_
    exact lx_iret hx hb hr hk hp0 hP hD hS dL_copies_22
theorem k_L_copies (l : Launch) (hf0 : l.stackTraces = false) (G : va_G) (g : Nat → ClassId) (ad : Nat → Nat) (bd : Nat → Nat → Nat) (sc : Int32) (tl : Int32) (tat : Int32) (tb : Nat → Int32) (cn : Nat → Int32) (cf : Nat → Nat → Int32) (sn : Nat → Nat → Int32) (sf : Nat → Nat → Nat → Int32) (tn : Int32) (tf : Nat → Int32) (vv : Nat → Int32) (ov : Nat → Int32) (p1 : Int32) (p2 : Int32) (p3 : Int32) (res : Int32 × (Nat → Nat → Nat) × Int32 × (Nat → Int32) × (Nat → Nat → Int32) × (Nat → Nat → Int32) × (Nat → Nat → Nat → Int32)) (hq : F_L_copies bd sc cn cf sn sf p1 p2 p3 = some res) : lxC l yL_copies wsL_copies (rmX 8 137) G g [.ref (ad 0), .int p1, .int p2, .int p3] (wX g ad bd sc tl tat tb cn cf sn sf tn tf vv ov) (some (.int res.1)) (fun w => w = (wX g ad res.2.1 res.2.2.1 tl tat tb res.2.2.2.1 res.2.2.2.2.1 res.2.2.2.2.2.1 res.2.2.2.2.2.2 tn tf vv ov)) := by
  unfold F_L_copies at hq
  obtain ⟨r, hr, hq⟩ := q_bd hq
  cases r with
  | inl t =>
    by_cases h : t = 1 ∨ t = 2 ∨ t = 3
    · have hq := q_if_t hq h
      obtain rfl := q_rt hq
      exact kxL_copies l hf0 G g ad bd sc tl tat tb cn cf sn sf tn tf vv ov p1 p2 p3 t h hr
    · exact q_no (q_if_f hq h)
  | inr r =>
    obtain rfl := q_rt hq
    exact kL_copies l G g ad bd sc tl tat tb cn cf sn sf tn tf vv ov p1 p2 p3 _ hr
def F_L_keyOf (cn : Nat → Int32) (cf : Nat → Nat → Int32) (p1 : Int32) (p2 : Int32) (p3 : Int32) : Option (Int32) := (F_X3_key cn cf p1 p2 p3).bind fun r => match r with | .inl _ => none | .inr r => some r
set_option maxHeartbeats 4000000 in
set_option maxRecDepth 100000 in
theorem k_L_keyOf (l : Launch) (G : va_G) (g : Nat → ClassId) (ad : Nat → Nat) (bd : Nat → Nat → Nat) (sc : Int32) (tl : Int32) (tat : Int32) (tb : Nat → Int32) (cn : Nat → Int32) (cf : Nat → Nat → Int32) (sn : Nat → Nat → Int32) (sf : Nat → Nat → Nat → Int32) (tn : Int32) (tf : Nat → Int32) (vv : Nat → Int32) (ov : Nat → Int32) (p1 : Int32) (p2 : Int32) (p3 : Int32) (res : Int32) (hq : F_L_keyOf cn cf p1 p2 p3 = some res) : roC l yL_keyOf wsL_keyOf (rmF 4 93) G g [.ref (ad 0), .int p1, .int p2, .int p3] (wX g ad bd sc tl tat tb cn cf sn sf tn tf vv ov) (some (.int res)) := by
  have hq : F_X3_key cn cf p1 p2 p3 = some (.inr res) := by
    unfold F_L_keyOf at hq
    obtain ⟨r, hr, hq⟩ := q_bd hq
    cases r with
    | inl t => exact q_no hq
    | inr r => rw [← q_rt hq]; exact hr
  refine roC.ofW (cc := cL_keyOf) (maxL := 5) (ret := some .int) (by decide) rfl (Nat.le_of_ble_eq_true rfl) ?_
  intro p e s m below meth c ls X K hP hl
  obtain ⟨hx, hb, hml, hr, hown, hts, hk⟩ := id X
  have hl : lv_has ls 5 [(0, .ref (ad 0)), (1, .int p1), (2, .int p2), (3, .int p3)] := hl
  refine lv_aload_n hx hb dL_keyOf_0 rfl (lv_at hl 0 rfl) ?_
  refine lv_iload_n hx hb dL_keyOf_1 rfl (lv_at hl 1 rfl) ?_
  refine lv_iload_n hx hb dL_keyOf_2 rfl (lv_at hl 2 rfl) ?_
  refine lv_iload_n hx hb dL_keyOf_3 rfl (lv_at hl 3 rfl) ?_
  refine roV (ci := 3) (As := [.int p1, .int p2, .int p3]) (rest := []) X K (k_X3_key l G g ad bd sc tl tat tb cn cf sn sf tn tf vv ov p1 p2 p3 _ hq) hd_X3_key gL_keyOf_X3_key hP hl.1 dL_keyOf_4 rfl rfl ⟨(Nat.le_of_ble_eq_true rfl), (Nat.le_of_ble_eq_true rfl)⟩ rfl rfl rfl (Nat.le_of_ble_eq_true rfl) ⟨Nat.zero_le _, Nat.zero_le _⟩ ?_
  exact ro_iret hx hb hr hk dL_keyOf_7
set_option maxHeartbeats 4000000 in
set_option maxRecDepth 100000 in
theorem kxL_keyOf (l : Launch) (hf0 : l.stackTraces = false) (G : va_G) (g : Nat → ClassId) (ad : Nat → Nat) (bd : Nat → Nat → Nat) (sc : Int32) (tl : Int32) (tat : Int32) (tb : Nat → Int32) (cn : Nat → Int32) (cf : Nat → Nat → Int32) (sn : Nat → Nat → Int32) (sf : Nat → Nat → Nat → Int32) (tn : Int32) (tf : Nat → Int32) (vv : Nat → Int32) (ov : Nat → Int32) (p1 : Int32) (p2 : Int32) (p3 : Int32) (t : Nat) (ht : t = 1 ∨ t = 2) (hq : F_X3_key cn cf p1 p2 p3 = some (.inl t)) : lxC l yL_keyOf wsL_keyOf (rmX 8 136) G g [.ref (ad 0), .int p1, .int p2, .int p3] (wX g ad bd sc tl tat tb cn cf sn sf tn tf vv ov) (some (.int (xcd t))) (fun w => w = (wX g ad bd sc tl tat tb cn cf sn sf tn tf vv ov)) := by
  refine lxC.of (cc := cL_keyOf) (maxL := 5) (ret := some .int) (by decide) rfl (Nat.le_of_ble_eq_true rfl) ?_
  intro p e s m below meth c ls A X K hA hP hD hS hs hnc htab hl
  obtain ⟨hx, hb, hml, hr, hown, hts, hk⟩ := id X
  have hl : lv_has ls 5 [(0, .ref (ad 0)), (1, .int p1), (2, .int p2), (3, .int p3)] := hl
  rcases ht with rfl | rfl
  · rw [show xcd 1 = (-10000001 : Int32) from rfl]
    refine lv_aload_n hx hb dL_keyOf_0 rfl (lv_at hl 0 rfl) ?_
    refine lv_iload_n hx hb dL_keyOf_1 rfl (lv_at hl 1 rfl) ?_
    refine lv_iload_n hx hb dL_keyOf_2 rfl (lv_at hl 2 rfl) ?_
    refine lv_iload_n hx hb dL_keyOf_3 rfl (lv_at hl 3 rfl) ?_
    refine lx_throw (wr := []) (ci := 3) (As := [.int p1, .int p2, .int p3]) (rest := []) X K (kx_X3_key l hf0 G g ad bd sc tl tat tb cn cf sn sf tn tf vv ov p1 p2 p3 _ hq) hd_X3_key gL_keyOf_X3_key hP hD hS hA hs hl.1 dL_keyOf_4 rfl rfl ⟨(Nat.le_of_ble_eq_true rfl), (Nat.le_of_ble_eq_true rfl)⟩ rfl rfl rfl (Nat.le_of_ble_eq_true rfl) ⟨(Nat.le_of_ble_eq_true rfl), (Nat.le_of_ble_eq_true rfl)⟩ (fun q ce w0 H locs hp0 hP hD hS hce hcv hcl => ?_)
    refine vx_catch (own := RL) (name := exN 1) hown [] (⟨0, 7, 8, 94⟩ : ExceptionTableEntry) [(⟨0, 7, 13, 96⟩ : ExceptionTableEntry)] (htab.trans rfl) (fun z hz => absurd hz List.not_mem_nil) (by decide) (by decide) (hts _ (List.mem_of_getElem? (i := 1) rfl)) (va_Nw.use rfl (hs.2.2.2.1 (exN 1) (by decide))) hce hcv hcl ?_
    refine lv_astore (lv' := [(4, .ref q), (0, .ref (ad 0)), (1, .int p1), (2, .int p2), (3, .int p3)]) hx hb dL_keyOf_8 hl (by decide) rfl (fun ls hl => ?_)
    refine lv_ldc (v := (-10000001)) hx hb hown (hts _ (List.mem_of_getElem? (i := 3) rfl)) dL_keyOf_10 ?_
    exact lx_iret hx hb hr hk hp0 hP hD hS dL_keyOf_12
  · rw [show xcd 2 = (-10000002 : Int32) from rfl]
    refine lv_aload_n hx hb dL_keyOf_0 rfl (lv_at hl 0 rfl) ?_
    refine lv_iload_n hx hb dL_keyOf_1 rfl (lv_at hl 1 rfl) ?_
    refine lv_iload_n hx hb dL_keyOf_2 rfl (lv_at hl 2 rfl) ?_
    refine lv_iload_n hx hb dL_keyOf_3 rfl (lv_at hl 3 rfl) ?_
    refine lx_throw (wr := []) (ci := 3) (As := [.int p1, .int p2, .int p3]) (rest := []) X K (kx_X3_key l hf0 G g ad bd sc tl tat tb cn cf sn sf tn tf vv ov p1 p2 p3 _ hq) hd_X3_key gL_keyOf_X3_key hP hD hS hA hs hl.1 dL_keyOf_4 rfl rfl ⟨(Nat.le_of_ble_eq_true rfl), (Nat.le_of_ble_eq_true rfl)⟩ rfl rfl rfl (Nat.le_of_ble_eq_true rfl) ⟨(Nat.le_of_ble_eq_true rfl), (Nat.le_of_ble_eq_true rfl)⟩ (fun q ce w0 H locs hp0 hP hD hS hce hcv hcl => ?_)
    refine vx_catch (own := RL) (name := exN 2) hown [(⟨0, 7, 8, 94⟩ : ExceptionTableEntry)] (⟨0, 7, 13, 96⟩ : ExceptionTableEntry) [] (htab.trans rfl) (fun z hz => by
      rcases List.mem_cons.mp hz with rfl | hz
      · exact Or.inr ⟨by decide, exN 1, (hts _ (List.mem_of_getElem? (i := 1) rfl)), hnc (2, 1) (by decide)⟩
      exact absurd hz List.not_mem_nil) (by decide) (by decide) (hts _ (List.mem_of_getElem? (i := 2) rfl)) (va_Nw.use rfl (hs.2.2.2.1 (exN 2) (by decide))) hce hcv hcl ?_
    refine lv_astore (lv' := [(4, .ref q), (0, .ref (ad 0)), (1, .int p1), (2, .int p2), (3, .int p3)]) hx hb dL_keyOf_13 hl (by decide) rfl (fun ls hl => ?_)
    refine lv_ldc (v := (-10000002)) hx hb hown (hts _ (List.mem_of_getElem? (i := 4) rfl)) dL_keyOf_15 ?_
    exact lx_iret hx hb hr hk hp0 hP hD hS dL_keyOf_17
def F_L_valueOf (cn : Nat → Int32) (cf : Nat → Nat → Int32) (p1 : Int32) (p2 : Int32) : Option (Int32) := (F_X3_value cn cf p1 p2).bind fun r => match r with | .inl _ => none | .inr r => some r
set_option maxHeartbeats 4000000 in
set_option maxRecDepth 100000 in
theorem k_L_valueOf (l : Launch) (G : va_G) (g : Nat → ClassId) (ad : Nat → Nat) (bd : Nat → Nat → Nat) (sc : Int32) (tl : Int32) (tat : Int32) (tb : Nat → Int32) (cn : Nat → Int32) (cf : Nat → Nat → Int32) (sn : Nat → Nat → Int32) (sf : Nat → Nat → Nat → Int32) (tn : Int32) (tf : Nat → Int32) (vv : Nat → Int32) (ov : Nat → Int32) (p1 : Int32) (p2 : Int32) (res : Int32) (hq : F_L_valueOf cn cf p1 p2 = some res) : roC l yL_valueOf wsL_valueOf (rmF 5 124) G g [.ref (ad 0), .int p1, .int p2] (wX g ad bd sc tl tat tb cn cf sn sf tn tf vv ov) (some (.int res)) := by
  have hq : F_X3_value cn cf p1 p2 = some (.inr res) := by
    unfold F_L_valueOf at hq
    obtain ⟨r, hr, hq⟩ := q_bd hq
    cases r with
    | inl t => exact q_no hq
    | inr r => rw [← q_rt hq]; exact hr
  refine roC.ofW (cc := cL_valueOf) (maxL := 4) (ret := some .int) (by decide) rfl (Nat.le_of_ble_eq_true rfl) ?_
  intro p e s m below meth c ls X K hP hl
  obtain ⟨hx, hb, hml, hr, hown, hts, hk⟩ := id X
  have hl : lv_has ls 4 [(0, .ref (ad 0)), (1, .int p1), (2, .int p2)] := hl
  refine lv_aload_n hx hb dL_valueOf_0 rfl (lv_at hl 0 rfl) ?_
  refine lv_iload_n hx hb dL_valueOf_1 rfl (lv_at hl 1 rfl) ?_
  refine lv_iload_n hx hb dL_valueOf_2 rfl (lv_at hl 2 rfl) ?_
  refine roV (ci := 3) (As := [.int p1, .int p2]) (rest := []) X K (k_X3_value l G g ad bd sc tl tat tb cn cf sn sf tn tf vv ov p1 p2 _ hq) hd_X3_value gL_valueOf_X3_value hP hl.1 dL_valueOf_3 rfl rfl ⟨(Nat.le_of_ble_eq_true rfl), (Nat.le_of_ble_eq_true rfl)⟩ rfl rfl rfl (Nat.le_of_ble_eq_true rfl) ⟨Nat.zero_le _, Nat.zero_le _⟩ ?_
  exact ro_iret hx hb hr hk dL_valueOf_6
set_option maxHeartbeats 4000000 in
set_option maxRecDepth 100000 in
theorem kxL_valueOf (l : Launch) (hf0 : l.stackTraces = false) (G : va_G) (g : Nat → ClassId) (ad : Nat → Nat) (bd : Nat → Nat → Nat) (sc : Int32) (tl : Int32) (tat : Int32) (tb : Nat → Int32) (cn : Nat → Int32) (cf : Nat → Nat → Int32) (sn : Nat → Nat → Int32) (sf : Nat → Nat → Nat → Int32) (tn : Int32) (tf : Nat → Int32) (vv : Nat → Int32) (ov : Nat → Int32) (p1 : Int32) (p2 : Int32) (t : Nat) (ht : t = 1 ∨ t = 2) (hq : F_X3_value cn cf p1 p2 = some (.inl t)) : lxC l yL_valueOf wsL_valueOf (rmX 8 135) G g [.ref (ad 0), .int p1, .int p2] (wX g ad bd sc tl tat tb cn cf sn sf tn tf vv ov) (some (.int (xcd t))) (fun w => w = (wX g ad bd sc tl tat tb cn cf sn sf tn tf vv ov)) := by
  refine lxC.of (cc := cL_valueOf) (maxL := 4) (ret := some .int) (by decide) rfl (Nat.le_of_ble_eq_true rfl) ?_
  intro p e s m below meth c ls A X K hA hP hD hS hs hnc htab hl
  obtain ⟨hx, hb, hml, hr, hown, hts, hk⟩ := id X
  have hl : lv_has ls 4 [(0, .ref (ad 0)), (1, .int p1), (2, .int p2)] := hl
  rcases ht with rfl | rfl
  · rw [show xcd 1 = (-10000001 : Int32) from rfl]
    refine lv_aload_n hx hb dL_valueOf_0 rfl (lv_at hl 0 rfl) ?_
    refine lv_iload_n hx hb dL_valueOf_1 rfl (lv_at hl 1 rfl) ?_
    refine lv_iload_n hx hb dL_valueOf_2 rfl (lv_at hl 2 rfl) ?_
    refine lx_throw (wr := []) (ci := 3) (As := [.int p1, .int p2]) (rest := []) X K (kx_X3_value l hf0 G g ad bd sc tl tat tb cn cf sn sf tn tf vv ov p1 p2 _ hq) hd_X3_value gL_valueOf_X3_value hP hD hS hA hs hl.1 dL_valueOf_3 rfl rfl ⟨(Nat.le_of_ble_eq_true rfl), (Nat.le_of_ble_eq_true rfl)⟩ rfl rfl rfl (Nat.le_of_ble_eq_true rfl) ⟨(Nat.le_of_ble_eq_true rfl), (Nat.le_of_ble_eq_true rfl)⟩ (fun q ce w0 H locs hp0 hP hD hS hce hcv hcl => ?_)
    refine vx_catch (own := RL) (name := exN 1) hown [] (⟨0, 6, 7, 94⟩ : ExceptionTableEntry) [(⟨0, 6, 11, 96⟩ : ExceptionTableEntry)] (htab.trans rfl) (fun z hz => absurd hz List.not_mem_nil) (by decide) (by decide) (hts _ (List.mem_of_getElem? (i := 1) rfl)) (va_Nw.use rfl (hs.2.2.2.1 (exN 1) (by decide))) hce hcv hcl ?_
    refine lv_astore_n (lv' := [(3, .ref q), (0, .ref (ad 0)), (1, .int p1), (2, .int p2)]) hx hb dL_valueOf_7 rfl hl (by decide) rfl (fun ls hl => ?_)
    refine lv_ldc (v := (-10000001)) hx hb hown (hts _ (List.mem_of_getElem? (i := 3) rfl)) dL_valueOf_8 ?_
    exact lx_iret hx hb hr hk hp0 hP hD hS dL_valueOf_10
  · rw [show xcd 2 = (-10000002 : Int32) from rfl]
    refine lv_aload_n hx hb dL_valueOf_0 rfl (lv_at hl 0 rfl) ?_
    refine lv_iload_n hx hb dL_valueOf_1 rfl (lv_at hl 1 rfl) ?_
    refine lv_iload_n hx hb dL_valueOf_2 rfl (lv_at hl 2 rfl) ?_
    refine lx_throw (wr := []) (ci := 3) (As := [.int p1, .int p2]) (rest := []) X K (kx_X3_value l hf0 G g ad bd sc tl tat tb cn cf sn sf tn tf vv ov p1 p2 _ hq) hd_X3_value gL_valueOf_X3_value hP hD hS hA hs hl.1 dL_valueOf_3 rfl rfl ⟨(Nat.le_of_ble_eq_true rfl), (Nat.le_of_ble_eq_true rfl)⟩ rfl rfl rfl (Nat.le_of_ble_eq_true rfl) ⟨(Nat.le_of_ble_eq_true rfl), (Nat.le_of_ble_eq_true rfl)⟩ (fun q ce w0 H locs hp0 hP hD hS hce hcv hcl => ?_)
    refine vx_catch (own := RL) (name := exN 2) hown [(⟨0, 6, 7, 94⟩ : ExceptionTableEntry)] (⟨0, 6, 11, 96⟩ : ExceptionTableEntry) [] (htab.trans rfl) (fun z hz => by
      rcases List.mem_cons.mp hz with rfl | hz
      · exact Or.inr ⟨by decide, exN 1, (hts _ (List.mem_of_getElem? (i := 1) rfl)), hnc (2, 1) (by decide)⟩
      exact absurd hz List.not_mem_nil) (by decide) (by decide) (hts _ (List.mem_of_getElem? (i := 2) rfl)) (va_Nw.use rfl (hs.2.2.2.1 (exN 2) (by decide))) hce hcv hcl ?_
    refine lv_astore_n (lv' := [(3, .ref q), (0, .ref (ad 0)), (1, .int p1), (2, .int p2)]) hx hb dL_valueOf_11 rfl hl (by decide) rfl (fun ls hl => ?_)
    refine lv_ldc (v := (-10000002)) hx hb hown (hts _ (List.mem_of_getElem? (i := 4) rfl)) dL_valueOf_12 ?_
    exact lx_iret hx hb hr hk hp0 hP hD hS dL_valueOf_14

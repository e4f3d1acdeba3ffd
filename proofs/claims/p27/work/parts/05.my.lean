/-! ===== words of the printed pure functions ===== -/
def vlet {α β : Type} (x : α) (k : α → Option β) : Option β := k x
def vgd {β : Type} (c : Prop) [Decidable c] (k : Option β) : Option β := if c then k else none
abbrev ix (i : Int32) (n : Nat) : Prop := 0 ≤ i.toInt ∧ i.toInt < (n : Int)
theorem q_if_t {α : Type} {c : Prop} {i : Decidable c} {a b r : Option α} (h : @ite _ c i a b = r) (hc : c) : a = r := by rw [if_pos hc] at h; exact h
theorem q_if_f {α : Type} {c : Prop} {i : Decidable c} {a b r : Option α} (h : @ite _ c i a b = r) (hc : ¬ c) : b = r := by rw [if_neg hc] at h; exact h
theorem q_gd {α : Type} {c : Prop} {i : Decidable c} {a : Option α} {r : α} (h : @vgd _ c i a = some r) : c ∧ a = some r := by
  unfold vgd at h
  by_cases hc : c
  · rw [if_pos hc] at h; exact ⟨hc, h⟩
  · rw [if_neg hc] at h; cases h
theorem q_let {α β : Type} {x y : α} {k : α → Option β} {r : Option β} (h : vlet x k = r) (e : y = x) : k y = r := by subst e; exact h
theorem q_bd {α β : Type} {x : Option α} {k : α → Option β} {r : β} (h : x.bind k = some r) : ∃ a, x = some a ∧ k a = some r := by
  cases x with
  | none => cases h
  | some a => exact ⟨a, rfl, h⟩
theorem q_rt {α : Type} {a r : α} (h : some a = some r) : a = r := Option.some.inj h
theorem q_no {α : Type} {r : α} {P : Prop} (h : (none : Option α) = some r) : P := by cases h
/-! ===== what every method's start gives: the tables, nest mates' links ===== -/
def nsM : List (String × Nat × MethodName × String) := [(RX3, 11, yX2_init, RX3), (RX2, 17, yX0_init, RX3), (RX3, 26, yX1_init, RX3), (RX3, 33, yX0_init, RX3), (RX3, 101, yX0_tangentOf, RX3), (RX3, 87, yX0_cell, RX3), (RX3, 142, yX0_valueAt, RX3), (RX3, 63, yX0_numberAtFrame, RX3), (RX3, 195, yX2_become, RX3), (RX2, 18, yX0_become, RX3), (RX3, 72, yX0_insert, RX3), (RX3, 219, yX0_isLocked, RX3), (RX3, 83, yX0_takeOut, RX3), (RX3, 91, yX0_put, RX3), (RX3, 96, yX0_moveTo, RX3), (RX3, 108, yX0_canStretch, RX3), (RX3, 114, yX0_stretchSpan, RX3), (RX3, 224, yX0_hasLock, RX3), (RX3, 122, yX0_canRaise, RX3), (RX3, 128, yX0_become, RX3), (RX3, 131, yX0_raise, RX3)]
def nsF : List (String × Nat × String × String × String × String) := [(RX3, 53, RX0, "count", "I", RX3), (RX3, 200, RX2, "curves", "[LEaseCurves$Curve;", RX3)]
def nsts (U : State) : Prop := (∀ q ∈ nsM, va_Nw (.methodLinkNest q.1 q.2.1 q.2.2.1 q.2.2.2) U) ∧ ∀ q ∈ nsF, va_Nw (.fieldLinkNest q.1 q.2.1 q.2.2.1 q.2.2.2.1 q.2.2.2.2.1 q.2.2.2.2.2) U
theorem nsts.warm {s U : State} (hW : s.WarmedH U.vm) (h : nsts s) : nsts U := ⟨fun q hq => va_Nw.warmM hW (h.1 q hq), fun q hq => va_Nw.warmF hW (h.2 q hq)⟩
theorem nsts.same {s U : State} (hW : s.vm = U.vm) (h : nsts s) : nsts U := ⟨fun q hq => va_Nw.same rfl hW (h.1 q hq), fun q hq => va_Nw.same rfl hW (h.2 q hq)⟩
abbrev tyG (g : Nat → ClassId) : List (ClassId × FieldType) := [(g 0, .int), (g 1, .byte), (g 2, .object "EaseCurves$Curve"), (g 3, .object "EaseCurves$State")]
def amb (G : va_G) (g : Nat → ClassId) (U : State) : Prop := va_K G vwCl (tyG g) U ∧ nsts U
theorem amb.warm {G : va_G} {g : Nat → ClassId} {s U : State} (hW : s.WarmedH U.vm) (h : amb G g s) : amb G g U := ⟨va_K.moved hW.alike h.1, h.2.warm hW⟩
theorem amb.call {G : va_G} {g : Nat → ClassId} {U : State} {f : JFrame} {mk : MethodId} {a : Array Value} (h : amb G g U) : amb G g (U.calling f mk a) := ⟨va_K.moved (u := U) (U := U.calling f mk a) (Vm.Alike.refl U.vm) h.1, h.2.same (s := U) (U := U.calling f mk a) rfl⟩
/-! ===== contracts: methods that only read, methods that write in their world ===== -/
def cx (p : Program) (s : State) (m : MethodId) (args : Array Value) (meth : Method) (c : Code) (cc : ByteArray) (nL : Nat) (ret : Option FieldType) (own : String) (ws : List Cond) : Prop :=
  p.tables.exec = Jvm.exec ∧ c.code = cc ∧ c.maxLocals = nL ∧ meth.sig.returnType = ret ∧ s.vm.findClass own = some m.cls ∧ (∀ w ∈ ws, w.before args s = true) ∧ meth.locks = false
abbrev rmF (fr lo : Nat) : Room := { frames := fr, cells := 0, slots := 0, locals := lo }
def roQ (v : Option Value) : Array Value → State → Outcome → State → Prop := fun _ st o t => o = .returned v ∧ t.heap = st.heap
def roP (G : va_G) (g : Nat → ClassId) (av : List Value) (wc : va_W) : Array Value → State → Prop := va_Pc av (fun U => va_P G vwCl wc U.heap ∧ amb G g U)
def roC (l : Launch) (y : MethodName) (ws : List Cond) (rm : Room) (G : va_G) (g : Nat → ClassId) (av : List Value) (wc : va_W) (v : Option Value) : Prop := Met l y ws rm (roP G g av wc) (roQ v) 0 0 (fun _ => False)
abbrev roM (below : List Frame) (v : Option Value) (args : Array Value) (s : State) : State → Prop := MQ below (roQ v) args s 0 0 (fun _ => False)
theorem roC.of {l : Launch} {y : MethodName} {ws ws' : List Cond} {fr lo : Nat} {G : va_G} {g : Nat → ClassId} {av : List Value} {wc : va_W} {v : Option Value} {cc : ByteArray} {maxL : Nat} {ret : Option FieldType} (hy : plainName y.cls = true) (hw : ws = Cond.code y cc maxL ret :: ws') (hlen : (lg_sl av).length ≤ maxL)
    (body : ∀ (p : Program) (e : Env) (s : State) (m : MethodId) (below : List Frame) (meth : Method) (c : Code) (ls : Array Slot), cx p s m av.toArray meth c cc maxL ret y.cls ws → amb G g s → va_P G vwCl wc s.heap → lv_has ls maxL (lv_args 0 av) → W p l e (rmF fr lo) s m av.toArray below meth c s.heap [] 0 0 (roM below v av.toArray s) (F0 m 0 ls [])) : roC l y ws (rmF fr lo) G g av wc v := by
  refine Met.ofW (cc := cc) (maxL := maxL) (ret := ret) hy hw ?_
  intro p e s m args below meth c s₁ B hml hv
  obtain ⟨rfl, hP, hK⟩ := hv
  have hl := lv_entry av (n := maxL) hlen
  rw [lg_entry_eq]
  exact body p e s m below meth c _ ⟨B.exec, B.bytes, hml, B.returns, findClass_of_methodNamed B.named, atoms_spec (ws := ws) B.pre, B.notSynchronized⟩ hK hP hl
def rwQ (G : va_G) (A : Nat → Prop) (v : Option Value) (w1 : va_W) : Array Value → State → Outcome → State → Prop := fun _ st o t => (o = .returned v ∧ va_P G vwCl w1 t.heap ∧ va_D A w1) ∧ va_F A st t
def rwP (G : va_G) (g : Nat → ClassId) (av : List Value) (wc : va_W) (sz : Nat) : Array Value → State → Prop := va_Pc av (fun U => U.heap.size = sz ∧ va_P G vwCl wc U.heap ∧ amb G g U ∧ va_D (fun _ => True) wc)
def rwC (l : Launch) (y : MethodName) (ws : List Cond) (rm : Room) (G : va_G) (g : Nat → ClassId) (av : List Value) (wc : va_W) (v : Option Value) (w1 : va_W) : Prop := ∀ sz : Nat, Met l y ws rm (rwP G g av wc sz) (rwQ G (va_A wc sz) v w1) 0 0 (va_A wc sz)
abbrev rwM (G : va_G) (A : Nat → Prop) (below : List Frame) (v : Option Value) (w1 : va_W) (args : Array Value) (s : State) : State → Prop := MQ below (rwQ G A v w1) args s 0 0 A
theorem rwC.of {l : Launch} {y : MethodName} {ws ws' : List Cond} {fr lo : Nat} {G : va_G} {g : Nat → ClassId} {av : List Value} {wc w1 : va_W} {v : Option Value} {cc : ByteArray} {maxL : Nat} {ret : Option FieldType} (hy : plainName y.cls = true) (hw : ws = Cond.code y cc maxL ret :: ws') (hlen : (lg_sl av).length ≤ maxL)
    (body : ∀ (p : Program) (e : Env) (s : State) (m : MethodId) (below : List Frame) (meth : Method) (c : Code) (ls : Array Slot) (A : Nat → Prop), cx p s m av.toArray meth c cc maxL ret y.cls ws → amb G g s → (∀ q : Nat, s.heap.size ≤ q → A q) → va_P G vwCl wc s.heap → va_D A wc → va_S A s.heap s.heap [] → lv_has ls maxL (lv_args 0 av) → W p l e (rmF fr lo) s m av.toArray below meth c s.heap [] 0 0 (rwM G A below v w1 av.toArray s) (F0 m 0 ls [])) : rwC l y ws (rmF fr lo) G g av wc v w1 := by
  intro sz
  refine Met.ofW (cc := cc) (maxL := maxL) (ret := ret) hy hw ?_
  intro p e s m args below meth c s₁ B hml hv
  obtain ⟨rfl, hsz, hP, hK, hD0⟩ := hv
  subst hsz
  have hl := lv_entry av (n := maxL) hlen
  rw [lg_entry_eq]
  exact body p e s m below meth c _ _ ⟨B.exec, B.bytes, hml, B.returns, findClass_of_methodNamed B.named, atoms_spec (ws := ws) B.pre, B.notSynchronized⟩ hK (fun q h => Or.inr h) hP (hD0.self (sz := s.heap.size)) va_S.rf hl
section MyRows
variable {p : Program} {l : Launch} {e : Env} {R : Room} {s : State} {m : MethodId} {args : Array Value} {below : List Frame} {meth : Method} {c : Code} {H H0 : Heap} {locs : List Loc} {cells slots : Nat} {Q : State → Prop} {pc : Nat} {ls : Array Slot}
variable {G : va_G} {g : Nat → ClassId} {A A0 : Nat → Prop} {cc : ByteArray} {nL : Nat} {rt : Option FieldType} {own : String} {Ts : List Cond}
theorem ro_iret {v : Int32} (hx : p.tables.exec = Jvm.exec) (hb : c.code = cc) (hr : meth.sig.returnType = some .int) (hk : meth.locks = false) (hdg : decode cc pc = .ok (.ireturn, 1)) : W p l e R s m args below meth c s.heap [] 0 0 (roM below (some (.int v)) args s) (F0 m pc ls [.int v]) :=
  W.iret hx hb hr (fun t ht _ => ⟨rfl, ht⟩) (fun q hq => absurd hq List.not_mem_nil) hdg hk
theorem ro_zret {v : Int32} (hx : p.tables.exec = Jvm.exec) (hb : c.code = cc) (hr : meth.sig.returnType = some .boolean) (hv : narrow .boolean (.int v) = .int v) (hk : meth.locks = false) (hdg : decode cc pc = .ok (.ireturn, 1)) : W p l e R s m args below meth c s.heap [] 0 0 (roM below (some (.int v)) args s) (F0 m pc ls [.int v]) :=
  W.zret hx hb hr hv (fun t ht _ => ⟨rfl, ht⟩) (fun q hq => absurd hq List.not_mem_nil) hdg hk
theorem ro_lret {v : Int64} (hx : p.tables.exec = Jvm.exec) (hb : c.code = cc) (hr : meth.sig.returnType = some .long) (hk : meth.locks = false) (hdg : decode cc pc = .ok (.lreturn, 1)) : W p l e R s m args below meth c s.heap [] 0 0 (roM below (some (.long v)) args s) (F0 m pc ls [.long v]) :=
  W.lret hx hb hr (fun t ht _ => ⟨rfl, ht⟩) (fun q hq => absurd hq List.not_mem_nil) hdg hk
theorem ro_vret (hx : p.tables.exec = Jvm.exec) (hb : c.code = cc) (hr : meth.sig.returnType = none) (hk : meth.locks = false) (hdg : decode cc pc = .ok (.return_, 1)) : W p l e R s m args below meth c s.heap [] 0 0 (roM below none args s) (F0 m pc ls []) :=
  W.vret hx hb hr (fun t ht _ => ⟨rfl, ht⟩) (fun q hq => absurd hq List.not_mem_nil) hdg hk
theorem rw_iret {v : Int32} {w1 : va_W} (hx : p.tables.exec = Jvm.exec) (hb : c.code = cc) (hr : meth.sig.returnType = some .int) (hk : meth.locks = false) (hP : va_P G vwCl w1 H) (hD : va_D A w1) (hS : va_S A s.heap H locs) (hdg : decode cc pc = .ok (.ireturn, 1)) : W p l e R s m args below meth c H locs 0 0 (rwM G A below (some (.int v)) w1 args s) (F0 m pc ls [.int v]) :=
  W.iret hx hb hr (fun t ht _ => ⟨⟨rfl, by rw [ht]; exact hP, hD⟩, hS.F ht⟩) hS.2.2 hdg hk
theorem rw_zret {v : Int32} {w1 : va_W} (hx : p.tables.exec = Jvm.exec) (hb : c.code = cc) (hr : meth.sig.returnType = some .boolean) (hv : narrow .boolean (.int v) = .int v) (hk : meth.locks = false) (hP : va_P G vwCl w1 H) (hD : va_D A w1) (hS : va_S A s.heap H locs) (hdg : decode cc pc = .ok (.ireturn, 1)) : W p l e R s m args below meth c H locs 0 0 (rwM G A below (some (.int v)) w1 args s) (F0 m pc ls [.int v]) :=
  W.zret hx hb hr hv (fun t ht _ => ⟨⟨rfl, by rw [ht]; exact hP, hD⟩, hS.F ht⟩) hS.2.2 hdg hk
theorem rw_lret {v : Int64} {w1 : va_W} (hx : p.tables.exec = Jvm.exec) (hb : c.code = cc) (hr : meth.sig.returnType = some .long) (hk : meth.locks = false) (hP : va_P G vwCl w1 H) (hD : va_D A w1) (hS : va_S A s.heap H locs) (hdg : decode cc pc = .ok (.lreturn, 1)) : W p l e R s m args below meth c H locs 0 0 (rwM G A below (some (.long v)) w1 args s) (F0 m pc ls [.long v]) :=
  W.lret hx hb hr (fun t ht _ => ⟨⟨rfl, by rw [ht]; exact hP, hD⟩, hS.F ht⟩) hS.2.2 hdg hk
theorem rw_vret {w1 : va_W} (hx : p.tables.exec = Jvm.exec) (hb : c.code = cc) (hr : meth.sig.returnType = none) (hk : meth.locks = false) (hP : va_P G vwCl w1 H) (hD : va_D A w1) (hS : va_S A s.heap H locs) (hdg : decode cc pc = .ok (.return_, 1)) : W p l e R s m args below meth c H locs 0 0 (rwM G A below none w1 args s) (F0 m pc ls []) :=
  W.vret hx hb hr (fun t ht _ => ⟨⟨rfl, by rw [ht]; exact hP, hD⟩, hS.F ht⟩) hS.2.2 hdg hk
theorem nz_0 : narrow .boolean (.int 0) = .int 0 := rfl
theorem nz_1 : narrow .boolean (.int 1) = .int 1 := rfl
theorem nz_b {v : Int32} (h : v = 0 ∨ v = 1) : narrow .boolean (.int v) = .int v := by rcases h with rfl | rfl <;> rfl
/-- behind a call of a method that only reads -/
theorem ro_go {a : Array Value} {v : Option Value} {st0 rest : List Value} (hr : va_Run p l e R s m args below meth c H locs cells slots 0 0 (F0 m pc ls st0) rest (roQ v a) (fun _ => False))
    (kk : W p l e R s m args below meth c H locs cells slots Q (F0 m (pc + 3) ls (v.toList ++ rest))) : W p l e R s m args below meth c H locs cells slots Q (F0 m pc ls st0) := by
  intro T hT X
  obtain ⟨v', st₀, t, T', L, h0, X', hL, e1, e2, ⟨hv, hh⟩, st⟩ := hr T hT X
  cases hv
  obtain ⟨t2, a1, b1⟩ := kk T' (by rw [e1, hh, h0]) (Stand.forget X' (fun q h => (hL q h).elim))
  exact ⟨t2, st t2 a1, b1⟩
/-- behind a call of a method that writes in its world -/
theorem rw_go {a : Array Value} {v : Option Value} {st0 rest : List Value} {ws wc wr w1 : va_W} (hr : va_Run p l e R s m args below meth c H locs cells slots 0 0 (F0 m pc ls st0) rest (rwQ G (va_A wc H.size) v w1 a) (va_A wc H.size))
    (hP : va_P G vwCl ws H) (hD : va_D A0 ws) (hS : va_S A0 H0 H locs) (hA : ∀ q, H0.size ≤ q → A0 q) (isC isR : List Nat) (hC : isC.map (fun i => ws[i]?) = wc.map some) (hR : isR.map (fun i => ws[i]?) = wr.map some) (hn : va_nd isR = true) (hdis : ∀ i ∈ isR, i ∉ isC)
    (kk : ∀ (H1 : Heap) (locs1 : List Loc), va_P G vwCl (wr ++ w1) H1 → va_D A0 (wr ++ w1) → va_S A0 H0 H1 locs1 → W p l e R s m args below meth c H1 locs1 cells slots Q (F0 m (pc + 3) ls (v.toList ++ rest))) : W p l e R s m args below meth c H locs cells slots Q (F0 m pc ls st0) := by
  have hFc := va_free (wc := wc) hD hS hA isC hC
  intro T hT X
  obtain ⟨v', st₀, t, T', L, h0, X', hL, e1, e2, ⟨⟨hv, hP1, hD1⟩, hz, hk⟩, st⟩ := hr T hT X
  cases hv
  rw [h0] at hz hk
  rw [← e1] at hP1 hz hk
  obtain ⟨hP2, hD2⟩ := va_join hP hD isC isR hC hR hn hdis hk hFc hP1 hD1
  have hS2 : va_S A0 H0 T'.heap (locs ++ L) := ⟨Nat.le_trans hS.1 hz, fun q h1 h2 => by rw [hk q (Nat.lt_of_lt_of_le h1 hS.1) (fun z => h2 (hFc q z))]; exact hS.2.1 q h1 h2, fun q hq => by
      rcases List.mem_append.mp hq with h | h
      · exact hS.2.2 q h
      · exact hFc _ (hL q h)⟩
  obtain ⟨t2, a1, b1⟩ := kk T'.heap (locs ++ L) hP2 hD2 hS2 T' rfl X'
  exact ⟨t2, st t2 a1, b1⟩
theorem roP.blind {av : List Value} {wc : va_W} : FrameBlind (roP G g av wc) := fun a U f mk q => ⟨q.1, q.2.1, q.2.2.call⟩
theorem rwP.blind {av : List Value} {wc : va_W} {sz : Nat} : FrameBlind (rwP G g av wc sz) := fun a U f mk q => ⟨q.1, q.2.1, q.2.2.1, q.2.2.2.1.call, q.2.2.2.2⟩
theorem cx.fix (C : cx p s m args meth c cc nL rt own Ts) : CallFix p m c cc nL s args Ts own := ⟨C.1, C.2.1, C.2.2.1, C.2.2.2.2.1, C.2.2.2.2.2.1⟩
def ynm (y : MethodName) (n : Nat) : Prop := y.cls ≠ "java/lang/invoke/MethodHandle" ∧ y.cls ≠ "java/lang/invoke/VarHandle" ∧ (parseMethodDescriptor y.desc).map (fun d => d.parameters.length) = some n
theorem roV (X : cx p s m args meth c cc nL rt own Ts) (K : amb G g s) {y : MethodName} {ws ws' : List Cond} {fr lo n index maxL ci N : Nat} {bytes : ByteArray} {ret : Option FieldType} {b : Addr} {As rest st0 fs : List Value} {wc : va_W} {v : Option Value} {T : u_T}
    (hM : roC l y ws (rmF fr lo) G g (.ref b :: As) wc v) (hd : ynm y n) (hT : GoodIn Ts (wsV own index y.cls y ws)) (hP : va_P G vwCl wc H) (hls : ls.size = nL) (hdg : decode cc pc = .ok (.invokevirtual index, 3)) (hw : ws = Cond.code y bytes maxL ret :: ws') (hn : As.length = n) (hR : fr + 1 ≤ R.frames ∧ 8 + (maxL + 11) + lo ≤ R.locals) (hc : vwCl[ci]? = some (y.cls, T, N)) (h0 : wc[0]? = some (b, .inr (ci, fs))) (hst : st0 = As.reverse ++ .ref b :: rest) (hsum : (rest.map fun v => v.category).sum ≤ 8) (hf : cells ≤ R.cells ∧ slots ≤ R.slots)
    (kk : W p l e R s m args below meth c H locs cells slots Q (F0 m (pc + 3) ls (v.toList ++ rest))) : W p l e R s m args below meth c H locs cells slots Q (F0 m pc ls st0) :=
  ro_go (va_runV (C := y.cls) X.fix hM (cwV n X.2.2.2.2.2.1 hT hw rfl rfl ⟨rfl, hd⟩ hR) ⟨roP.blind, va_recv K.1 hP hc h0, fun U hU hW => ⟨rfl, by rw [hU]; exact hP, K.warm hW⟩⟩ rfl hn hls hst (lv_room hsum) hdg hf) kk
theorem roS (X : cx p s m args meth c cc nL rt own Ts) (K : amb G g s) {y : MethodName} {ws ws' : List Cond} {fr lo n index maxL : Nat} {bytes : ByteArray} {ret : Option FieldType} {As rest st0 : List Value} {wc : va_W} {v : Option Value}
    (hM : roC l y ws (rmF fr lo) G g As wc v) (hd : ynm y n) (hT : GoodIn Ts (va_wsS own index y ws)) (hP : va_P G vwCl wc H) (hls : ls.size = nL) (hdg : decode cc pc = .ok (.invokestatic index, 3)) (hw : ws = Cond.code y bytes maxL ret :: ws') (hn : As.length = n) (hR : fr + 1 ≤ R.frames ∧ 8 + (maxL + 11) + lo ≤ R.locals) (hst : st0 = As.reverse ++ rest) (hsum : (rest.map fun v => v.category).sum ≤ 8) (hf : cells ≤ R.cells ∧ slots ≤ R.slots)
    (kk : W p l e R s m args below meth c H locs cells slots Q (F0 m (pc + 3) ls (v.toList ++ rest))) : W p l e R s m args below meth c H locs cells slots Q (F0 m pc ls st0) :=
  ro_go (va_runS X.fix hM (va_cwS n X.2.2.2.2.2.1 hT hw rfl rfl hd hR) ⟨roP.blind, fun U hU hW => ⟨rfl, by rw [hU]; exact hP, K.warm hW⟩⟩ rfl hn hls hst (lv_room hsum) hdg hf) kk
theorem roN (X : cx p s m args meth c cc nL rt own Ts) (K : amb G g s) {y : MethodName} {ws ws' : List Cond} {fr lo n index maxL ci N : Nat} {bytes : ByteArray} {ret : Option FieldType} {b : Addr} {As rest st0 fs : List Value} {wc : va_W} {v : Option Value} {T : u_T} {host : String}
    (hM : roC l y ws (rmF fr lo) G g (.ref b :: As) wc v) (hd : ynm y n) (hT : GoodIn Ts ws) (hns : (own, index, y, host) ∈ nsM) (hini : Cond.initialized y.cls ∈ Ts) (hins : Cond.instanceMethod y ∈ Ts) (hsel : Cond.selects y.cls y y ∈ Ts) (hP : va_P G vwCl wc H) (hls : ls.size = nL) (hdg : decode cc pc = .ok (.invokevirtual index, 3)) (hw : ws = Cond.code y bytes maxL ret :: ws') (hn : As.length = n) (hR : fr + 1 ≤ R.frames ∧ 8 + (maxL + 11) + lo ≤ R.locals) (hc : vwCl[ci]? = some (y.cls, T, N)) (h0 : wc[0]? = some (b, .inr (ci, fs))) (hst : st0 = As.reverse ++ .ref b :: rest) (hsum : (rest.map fun v => v.category).sum ≤ 8) (hf : cells ≤ R.cells ∧ slots ≤ R.slots)
    (kk : W p l e R s m args below meth c H locs cells slots Q (F0 m (pc + 3) ls (v.toList ++ rest))) : W p l e R s m args below meth c H locs cells slots Q (F0 m pc ls st0) :=
  ro_go (va_runVN (C := y.cls) (host := host) X.fix hM ⟨va_cnB n X.2.2.2.2.2.1 hT hw rfl rfl (K.2.1 _ hns) (X.2.2.2.2.2.1 _ hini) hd hR, X.2.2.2.2.2.1 _ hins, X.2.2.2.2.2.1 _ hsel⟩ ⟨roP.blind, va_recv K.1 hP hc h0, fun U hU hW => ⟨rfl, by rw [hU]; exact hP, K.warm hW⟩⟩ rfl hn hls hst (lv_room hsum) hdg hf) kk
theorem rwV (X : cx p s m args meth c cc nL rt own Ts) (K : amb G g s) {y : MethodName} {ws' wsy : List Cond} {fr lo n index maxL ci N : Nat} {bytes : ByteArray} {ret : Option FieldType} {b : Addr} {As rest st0 fs : List Value} {ws wc wr w1 : va_W} {v : Option Value} {T : u_T}
    (hM : rwC l y wsy (rmF fr lo) G g (.ref b :: As) wc v w1) (hd : ynm y n) (hT : GoodIn Ts (wsV own index y.cls y wsy)) (hP : va_P G vwCl ws H) (hD : va_D A0 ws) (hS : va_S A0 H0 H locs) (hA : ∀ q, H0.size ≤ q → A0 q) (isC isR : List Nat) (hC : isC.map (fun i => ws[i]?) = wc.map some) (hR' : isR.map (fun i => ws[i]?) = wr.map some) (hdis : va_nd isC = true ∧ va_nd isR = true ∧ ∀ i ∈ isR, i ∉ isC) (hls : ls.size = nL) (hdg : decode cc pc = .ok (.invokevirtual index, 3)) (hw : wsy = Cond.code y bytes maxL ret :: ws') (hn : As.length = n) (hR : fr + 1 ≤ R.frames ∧ 8 + (maxL + 11) + lo ≤ R.locals) (hc : vwCl[ci]? = some (y.cls, T, N)) (h0 : wc[0]? = some (b, .inr (ci, fs))) (hst : st0 = As.reverse ++ .ref b :: rest) (hsum : (rest.map fun v => v.category).sum ≤ 8) (hf : cells ≤ R.cells ∧ slots ≤ R.slots)
    (kk : ∀ (H1 : Heap) (locs1 : List Loc), va_P G vwCl (wr ++ w1) H1 → va_D A0 (wr ++ w1) → va_S A0 H0 H1 locs1 → W p l e R s m args below meth c H1 locs1 cells slots Q (F0 m (pc + 3) ls (v.toList ++ rest))) : W p l e R s m args below meth c H locs cells slots Q (F0 m pc ls st0) := by
  have hPc : va_P G vwCl wc H := hP.sub isC (by
    have h1 : isC.filterMap (fun i => ws[i]?) = (isC.map (fun i => ws[i]?)).filterMap id := by rw [List.filterMap_map]; rfl
    rw [h1, hC, List.filterMap_map]
    exact List.filterMap_some)
  have hDc : va_D A0 wc := hD.sub isC hdis.1 hC
  exact rw_go (va_runV (C := y.cls) X.fix (hM H.size) (cwV n X.2.2.2.2.2.1 hT hw rfl rfl ⟨rfl, hd⟩ hR) ⟨rwP.blind, va_recv K.1 hPc hc h0, fun U hU hW => ⟨rfl, by rw [hU], by rw [hU]; exact hPc, K.warm hW, hDc.weaken (fun _ _ _ _ => trivial)⟩⟩ rfl hn hls hst (lv_room hsum) hdg hf) hP hD hS hA isC isR hC hR' hdis.2.1 hdis.2.2 kk
theorem rwN (X : cx p s m args meth c cc nL rt own Ts) (K : amb G g s) {y : MethodName} {ws' wsy : List Cond} {fr lo n index maxL ci N : Nat} {bytes : ByteArray} {ret : Option FieldType} {b : Addr} {As rest st0 fs : List Value} {ws wc wr w1 : va_W} {v : Option Value} {T : u_T} {host : String}
    (hM : rwC l y wsy (rmF fr lo) G g (.ref b :: As) wc v w1) (hd : ynm y n) (hT : GoodIn Ts wsy) (hns : (own, index, y, host) ∈ nsM) (hini : Cond.initialized y.cls ∈ Ts) (hins : Cond.instanceMethod y ∈ Ts) (hsel : Cond.selects y.cls y y ∈ Ts) (hP : va_P G vwCl ws H) (hD : va_D A0 ws) (hS : va_S A0 H0 H locs) (hA : ∀ q, H0.size ≤ q → A0 q) (isC isR : List Nat) (hC : isC.map (fun i => ws[i]?) = wc.map some) (hR' : isR.map (fun i => ws[i]?) = wr.map some) (hdis : va_nd isC = true ∧ va_nd isR = true ∧ ∀ i ∈ isR, i ∉ isC) (hls : ls.size = nL) (hdg : decode cc pc = .ok (.invokevirtual index, 3)) (hw : wsy = Cond.code y bytes maxL ret :: ws') (hn : As.length = n) (hR : fr + 1 ≤ R.frames ∧ 8 + (maxL + 11) + lo ≤ R.locals) (hc : vwCl[ci]? = some (y.cls, T, N)) (h0 : wc[0]? = some (b, .inr (ci, fs))) (hst : st0 = As.reverse ++ .ref b :: rest) (hsum : (rest.map fun v => v.category).sum ≤ 8) (hf : cells ≤ R.cells ∧ slots ≤ R.slots)
    (kk : ∀ (H1 : Heap) (locs1 : List Loc), va_P G vwCl (wr ++ w1) H1 → va_D A0 (wr ++ w1) → va_S A0 H0 H1 locs1 → W p l e R s m args below meth c H1 locs1 cells slots Q (F0 m (pc + 3) ls (v.toList ++ rest))) : W p l e R s m args below meth c H locs cells slots Q (F0 m pc ls st0) := by
  have hPc : va_P G vwCl wc H := hP.sub isC (by
    have h1 : isC.filterMap (fun i => ws[i]?) = (isC.map (fun i => ws[i]?)).filterMap id := by rw [List.filterMap_map]; rfl
    rw [h1, hC, List.filterMap_map]
    exact List.filterMap_some)
  have hDc : va_D A0 wc := hD.sub isC hdis.1 hC
  exact rw_go (va_runVN (C := y.cls) (host := host) X.fix (hM H.size) ⟨va_cnB n X.2.2.2.2.2.1 hT hw rfl rfl (K.2.1 _ hns) (X.2.2.2.2.2.1 _ hini) hd hR, X.2.2.2.2.2.1 _ hins, X.2.2.2.2.2.1 _ hsel⟩ ⟨rwP.blind, va_recv K.1 hPc hc h0, fun U hU hW => ⟨rfl, by rw [hU], by rw [hU]; exact hPc, K.warm hW, hDc.weaken (fun _ _ _ _ => trivial)⟩⟩ rfl hn hls hst (lv_room hsum) hdg hf) hP hD hS hA isC isR hC hR' hdis.2.1 hdis.2.2 kk
end MyRows
/-! ===== methods that may throw: .inl k the exception's number, .inr what they answer ===== -/
def thr {α β : Type} (x : Option (Sum Nat α)) (k : α → Option (Sum Nat β)) : Option (Sum Nat β) := match x with
  | none => none
  | some (.inl n) => some (.inl n)
  | some (.inr a) => k a
theorem q_th {α β : Type} {x : Option (Sum Nat α)} {k : α → Option (Sum Nat β)} {r : β} (h : thr x k = some (.inr r)) : ∃ a, x = some (.inr a) ∧ k a = some (.inr r) := by
  cases x with
  | none => cases h
  | some o =>
    cases o with
    | inl n => cases h
    | inr a => exact ⟨a, rfl, h⟩
theorem q_ri {α : Type} {a r : α} (h : (some (.inr a) : Option (Sum Nat α)) = some (.inr r)) : a = r := by cases h; rfl
theorem q_lr {α : Type} {n : Nat} {r : α} {P : Prop} (h : (some (.inl n) : Option (Sum Nat α)) = some (.inr r)) : P := by cases h
theorem sw_c {x k : Int32} {P : Prop} (a : x = k → P) (b : ¬ x = k → P) : P := (Classical.em (x = k)).elim a b

/-! ===== runs that throw ===== -/
theorem q_thx {α β : Type} {x : Option (Sum Nat α)} {k : α → Option (Sum Nat β)} {n : Nat} (h : thr x k = some (.inl n)) : x = some (.inl n) ∨ ∃ a, x = some (.inr a) ∧ k a = some (.inl n) := by
  cases x with
  | none => cases h
  | some o =>
    cases o with
    | inl m =>
      have h2 : (some (.inl m) : Option (Sum Nat β)) = some (.inl n) := h
      cases h2
      exact Or.inl rfl
    | inr a => exact Or.inr ⟨a, rfl, h⟩
theorem q_li {α : Type} {a n : Nat} (h : (some (.inl a) : Option (Sum Nat α)) = some (.inl n)) : a = n := by cases h; rfl
theorem q_rl {α : Type} {n : Nat} {r : α} {P : Prop} (h : (some (.inr r) : Option (Sum Nat α)) = some (.inl n)) : P := by cases h
def exN : Nat → String
  | 1 => "java/lang/IndexOutOfBoundsException"
  | 2 => "java/lang/IllegalArgumentException"
  | _ => "java/lang/IllegalStateException"
abbrev exNm : List String := ["java/lang/RuntimeException", "java/lang/Exception"]
def dclN : List MethodName := [Bundle.initS "java/lang/RuntimeException", Bundle.initS "java/lang/Exception", Bundle.initS Bundle.tN]
def cstN : List String := [exN 1, exN 2, exN 3]
def exStrs : List (Nat × String) := [(58, "the curve has all its keys"), (67, "the curve has a key with this frame"), (94, "another key has this frame"), (112, "the span cannot be stretched so"), (126, "a value would be out of range"), (210, "no such curve"), (212, "no such key"), (216, "an argument is out of range"), (222, "the key is locked"), (228, "the curve has a locked key")]
def exS (A : Nat → Prop) (U : State) (H : Heap) : Prop := vx_Zq Bundle.tN "UNASSIGNED_STACK" Bundle.steD A U H ∧ vx_Zq Bundle.tN "SUPPRESSED_SENTINEL" Bundle.listD A U H ∧ (∀ x ∈ dclN, va_Nw (.declares x) U) ∧ (∀ z ∈ cstN, va_Nw (.castable z z) U) ∧ ∀ q ∈ exStrs, ∃ sa, vk_R RX3 q.1 q.2 sa U
theorem exS.to {A B : Nat → Prop} {s U : State} {H : Heap} {locs : List Loc} (h : exS A s s.heap) (hS : va_S A s.heap H locs) (hU : U.heap = H) (hW : s.WarmedH U.vm) (hAB : ∀ q, B q → A q) : exS B U U.heap := by
  obtain ⟨h1, h2, h3, h3c, h4⟩ := h
  rw [hU]
  exact ⟨vx_Zq.narrow (vx_Zq.moved hW.alike (h1.kept hS.2.1)) hAB, vx_Zq.narrow (vx_Zq.moved hW.alike (h2.kept hS.2.1)) hAB, fun x hx => va_Nw.warmD hW (h3 x hx), fun x hx => va_Nw.warmC hW (h3c x hx), fun q hq => by obtain ⟨sa, h5⟩ := h4 q hq; exact ⟨sa, vk_R.warm hW h5⟩⟩
theorem exS.call {A : Nat → Prop} {U : State} {f : JFrame} {mk : MethodId} {a : Array Value} (h : exS A U U.heap) : exS A (U.calling f mk a) (U.calling f mk a).heap := by
  obtain ⟨h1, h2, h3, h3c, h4⟩ := h
  exact ⟨vx_Zq.moved (u := U) (U := U.calling f mk a) (Vm.Alike.refl U.vm) h1, vx_Zq.moved (u := U) (U := U.calling f mk a) (Vm.Alike.refl U.vm) h2, fun x hx => va_Nw.same (u := U) (U := U.calling f mk a) rfl rfl (h3 x hx), fun x hx => va_Nw.same (u := U) (U := U.calling f mk a) rfl rfl (h3c x hx), fun q hq => by obtain ⟨sa, h5⟩ := h4 q hq; exact ⟨sa, vk_R.same (u := U) (U := U.calling f mk a) rfl h5⟩⟩
abbrev rmX (fr lo : Nat) : Room := { frames := fr, cells := 1, slots := 6, locals := lo }
def exX (G : va_G) (A : Nat → Prop) (E : String) (P1 : va_W → Prop) : String → State → State → Prop := vx_X P1 (fun E' w t => E' = E ∧ va_P G vwCl w t.heap ∧ va_D A w) A
def exP (G : va_G) (g : Nat → ClassId) (av : List Value) (wc : va_W) (sz : Nat) : Array Value → State → Prop := va_Pc av (fun U => U.heap.size = sz ∧ va_P G vwCl wc U.heap ∧ amb G g U ∧ va_D (fun _ => True) wc ∧ exS (va_A wc sz) U U.heap)
def exC (l : Launch) (y : MethodName) (ws : List Cond) (rm : Room) (G : va_G) (g : Nat → ClassId) (av : List Value) (wc : va_W) (E : String) (P1 : va_W → Prop) : Prop := ∀ sz : Nat, vx_Met l y ws rm (exP G g av wc sz) (fun _ _ _ _ => False) (exX G (va_A wc sz) E P1) 1 6 (va_A wc sz)
abbrev exM (G : va_G) (A : Nat → Prop) (below : List Frame) (E : String) (P1 : va_W → Prop) (args : Array Value) (s : State) : State → Prop := vx_MQ below (fun _ _ _ _ => False) (exX G A E P1) args s 1 6 A
theorem exP.blind {G : va_G} {g : Nat → ClassId} {av : List Value} {wc : va_W} {sz : Nat} : FrameBlind (exP G g av wc sz) := fun _ _ _ _ q => ⟨q.1, q.2.1, q.2.2.1, q.2.2.2.1.call, q.2.2.2.2.1, q.2.2.2.2.2.call⟩
theorem exC.of {l : Launch} {y : MethodName} {ws ws' : List Cond} {fr lo : Nat} {G : va_G} {g : Nat → ClassId} {av : List Value} {wc : va_W} {E : String} {P1 : va_W → Prop} {cc : ByteArray} {maxL : Nat} {ret : Option FieldType} (hy : plainName y.cls = true) (hw : ws = Cond.code y cc maxL ret :: ws') (hlen : (lg_sl av).length ≤ maxL)
    (body : ∀ (p : Program) (e : Env) (s : State) (m : MethodId) (below : List Frame) (meth : Method) (c : Code) (ls : Array Slot) (A : Nat → Prop), cx p s m av.toArray meth c cc maxL ret y.cls ws → amb G g s → (∀ q : Nat, s.heap.size ≤ q → A q) → va_P G vwCl wc s.heap → va_D A wc → va_S A s.heap s.heap [] → exS A s s.heap → (∀ x ∈ c.exceptionTable.toList, False) → lv_has ls maxL (lv_args 0 av) → W p l e (rmX fr lo) s m av.toArray below meth c s.heap [] 0 0 (exM G A below E P1 av.toArray s) (F0 m 0 ls [])) : exC l y ws (rmX fr lo) G g av wc E P1 := by
  intro sz
  refine vx_ofW (cc := cc) (maxL := maxL) (ret := ret) hy hw ?_
  intro p e s m args below meth c s₁ B hml hne hv
  obtain ⟨rfl, hsz, hP, hK, hD0, hs⟩ := hv
  subst hsz
  have hl := lv_entry av (n := maxL) hlen
  rw [lg_entry_eq]
  exact body p e s m below meth c _ _ ⟨B.exec, B.bytes, hml, B.returns, findClass_of_methodNamed B.named, atoms_spec (ws := ws) B.pre, B.notSynchronized⟩ hK (fun q h => Or.inr h) hP (hD0.self (sz := s.heap.size)) va_S.rf hs hne hl
theorem foc_nil {ws : va_W} : focus ws [] [] ws := ⟨ws, by simp, by simp⟩
theorem focus.same {ws wc w1 ws1 : va_W} (f : focus ws wc w1 ws1) : focus ws wc wc ws := by
  obtain ⟨wr, h1, -⟩ := f
  exact ⟨wr, h1, h1.symm⟩
theorem join_f {G : va_G} {A0 : Nat → Prop} {ws wc w1 ws1 : va_W} {H H1 : Heap} (hP : va_P G vwCl ws H) (hD : va_D A0 ws) (f : focus ws wc w1 ws1) (hk : ∀ q : Nat, q < H.size → ¬ va_A wc H.size q → H1[q]? = H[q]?) (hF : ∀ q, va_A wc H.size q → A0 q) (hP1 : va_P G vwCl w1 H1) (hD1 : va_D (va_A wc H.size) w1) : va_P G vwCl ws1 H1 ∧ va_D A0 ws1 := by
  obtain ⟨wr, h1, h2⟩ := f
  obtain ⟨h3, h4⟩ := va_join (hP.perm h1) (hD.perm h1) ((List.range wc.length).map (fun i => wr.length + i)) (List.range wr.length) (wr := wr) (by
    rw [List.map_map]
    apply List.ext_getElem?
    intro i
    by_cases h : i < wc.length
    · simp [h]
    · simp [h]) (by
    apply List.ext_getElem?
    intro i
    by_cases h : i < wr.length
    · simp [h, List.getElem?_append_left h]
    · simp [h]) (nd_range _) (by
    intro i hi hc
    obtain ⟨j, -, hj⟩ := List.mem_map.mp hc
    have := List.mem_range.mp hi
    omega) hk hF hP1 hD1
  exact ⟨h3.perm h2, h4.perm h2⟩
theorem free_f {A0 : Nat → Prop} {ws wc w1 ws1 : va_W} {H0 H : Heap} {locs : List Loc} (hD : va_D A0 ws) (f : focus ws wc w1 ws1) (hS : va_S A0 H0 H locs) (hA : ∀ q, H0.size ≤ q → A0 q) : ∀ q, va_A wc H.size q → A0 q := by
  intro q h
  rcases h with ⟨k, e, h⟩ | h
  · exact (f.subD hD).2 k (q, e) h
  · exact hA q (Nat.le_trans hS.1 h)
def exW (ik ic nn : Nat) : Prop := Bundle.fit (exN nn) = true ∧ (∀ n ∈ exNm, Bundle.fit n = true) ∧ (∀ w ∈ Cond.classLink RX3 ik (exN nn) :: Cond.initialized (exN nn) :: vx_atS RX3 ic (exN nn) exNm, vx_ot w = true) ∧ ∀ w ∈ (vx_atS RX3 ic (exN nn) exNm).filter (fun w => !goodWord w), w ∈ dclN.map Cond.declares ++ cstN.map (fun z => Cond.castable z z)
theorem ex_c1 : exW 176 180 1 := by unfold exW; decide +kernel
theorem ex_c2 : exW 214 218 2 := by unfold exW; decide +kernel
theorem ex_c3 : exW 56 60 3 := by unfold exW; decide +kernel
/-- the cells of anybody's world that the program may read or throw over: bd, scratch rows apart -/
def scrX (g : Nat → ClassId) (ad : Nat → Nat) (bd : Nat → Nat → Nat) (sc tl : Int32) (tb : Nat → Int32) (cn : Nat → Int32) (cf : Nat → Nat → Int32) (sn : Nat → Nat → Int32) (sf : Nat → Nat → Nat → Int32) : va_W → Prop := fun w => ∃ (tat tn : Int32) (tf vv ov : Nat → Int32), w = wX g ad bd sc tl tat tb cn cf sn sf tn tf vv ov
section MyRows3
variable {p : Program} {l : Launch} {e : Env} {R : Room} {s : State} {m : MethodId} {args : Array Value} {below : List Frame} {meth : Method} {c : Code} {H H0 : Heap} {locs : List Loc} {Q : State → Prop} {pc : Nat} {ls : Array Slot}
variable {G : va_G} {g : Nat → ClassId} {A : Nat → Prop} {cc : ByteArray} {nL : Nat} {rt : Option FieldType} {own : String} {Ts : List Cond}
theorem exX.of {E : String} {P1 : va_W → Prop} {ws : va_W} {t : State} (hp : P1 ws) (hP : va_P G vwCl ws H) (hD : va_D A ws) (hS : va_S A s.heap H locs) (hz : H.size ≤ t.heap.size) (hk : ∀ q : Nat, q < H.size → t.heap[q]? = H[q]?) : exX G A E P1 E s t :=
  ⟨ws, hp, ⟨rfl, hP.kept (fun k q h => hk q.1 (hP k q h).lt), hD⟩, Nat.le_trans hS.1 hz, fun q h1 h2 => (hk q (Nat.lt_of_lt_of_le h1 hS.1)).trans (hS.2.1 q h1 h2)⟩
theorem ex_throw {is ik ic nn : Nat} {text : String} {P1 : va_W → Prop} {ws : va_W} {rest : List Value} (X : cx p s m args meth c cc nL rt RX3 Ts) (hf0 : l.stackTraces = false) (hc : exW ik ic nn) (hlk : (Cond.classLink RX3 ik (exN nn)).before args s = true) (hin : (Cond.initialized (exN nn)).before args s = true) (hat : ∀ w ∈ (vx_atS RX3 ic (exN nn) exNm).filter goodWord, w.before args s = true) (hs : exS A s s.heap) (hm : (is, text) ∈ exStrs) (hne : ∀ x ∈ c.exceptionTable.toList, False) (hP : va_P G vwCl ws H) (hD : va_D A ws) (hS : va_S A s.heap H locs) (hsize : ls.size = c.maxLocals) (hp1 : P1 ws)
    (d0 : decode cc pc = .ok (.new ik, 3)) (d3 : decode cc (pc + 3) = .ok (.dup, 1)) (d4 : decode cc (pc + 4) = .ok (.ldc is, 2)) (d6 : decode cc (pc + 6) = .ok (.invokespecial ic, 3)) (d9 : decode cc (pc + 9) = .ok (.athrow, 1)) (hfr : 6 ≤ R.frames) (hlo : (rest.map fun v => v.category).sum + 82 ≤ R.locals) (hce : 1 ≤ R.cells) (hsl : 6 ≤ R.slots) (hk : meth.locks = false) :
    W p l e R s m args below meth c H locs 0 0 (exM G A below (exN nn) P1 args s) (F0 m pc ls rest) := by
  obtain ⟨h1, h2, h3, h4⟩ := hc
  obtain ⟨g1, g2, g3, g3c, g4⟩ := hs
  obtain ⟨sa, hsa⟩ := g4 _ hm
  refine vx_throwS X.1 X.2.1 hf0 X.2.2.2.2.1 h1 h2 hlk hin hsa (vx_hat hat h4 ?_) h3 g1 g2 hS hsize d0 d3 d4 d6 d9 (fun x hx => (hne x hx).elim) hfr hlo (by omega) (by omega) hk (fun t ha hz hq => exX.of hp1 hP hD hS hz hq) hS.2.2 (by omega) (by omega)
  intro w hw
  rcases List.mem_append.mp hw with hw | hw
  · obtain ⟨x, hx, rfl⟩ := List.mem_map.mp hw
    exact va_Nw.use rfl (g3 x hx)
  · obtain ⟨x, hx, rfl⟩ := List.mem_map.mp hw
    exact va_Nw.use rfl (g3c x hx)
theorem ex_go {E : String} {P1 : va_W → Prop} {st0 rest : List Value} {ws wc : va_W} (hr : vx_Run p l e R s m args below meth c H locs 0 0 1 6 (F0 m pc ls st0) rest (fun _ _ _ => False) (exX G (va_A wc H.size) E (fun w => w = wc)) (va_A wc H.size))
    (hP : va_P G vwCl ws H) (hD : va_D A ws) (hS : va_S A s.heap H locs) (hA : ∀ q, s.heap.size ≤ q → A q) (f : focus ws wc wc ws) (hp1 : ∀ w, w = ws → P1 w) (hne : ∀ x ∈ c.exceptionTable.toList, False) (hk : meth.locks = false) : W p l e R s m args below meth c H locs 0 0 (exM G A below E P1 args s) (F0 m pc ls st0) := by
  have hF := free_f hD f hS hA
  intro T hT X
  rcases hr T hT X with ⟨v, st₀, t, T', L, h0, X', hL, e1, e2, hq, st⟩ | ⟨q, st₀, t, T', L, E', ce, h0, X', hL, e1, e2, ⟨w1, hw1, ⟨hE, hP1, hD1⟩, hz, hkk⟩, hce, hcv, hcl, st⟩
  · exact hq.elim
  · subst hw1
    subst hE
    rw [h0] at hz hkk
    rw [← e1] at hP1 hz hkk hce
    obtain ⟨hP2, hD2⟩ := join_f hP hD f hkk hF hP1 hD1
    have hS2 : va_S A s.heap T'.heap (locs ++ L) := ⟨Nat.le_trans hS.1 hz, fun q h1 h2 => by rw [hkk q (Nat.lt_of_lt_of_le h1 hS.1) (fun z => h2 (hF q z))]; exact hS.2.1 q h1 h2, fun q hq => by
        rcases List.mem_append.mp hq with h | h
        · exact hS.2.2 q h
        · exact hF _ (hL q h)⟩
    have kx : vx_W p l e R s m args below meth c T'.heap (locs ++ L) (0 + 1) (0 + 6) (exM G A below E' P1 args s) (F0 m pc ls rest) q := vx_out (fun x hx => (hne x hx).elim) hk hce hcv hcl (fun t' ht' _ => exX.of (hp1 _ rfl) hP2 hD2 hS2 (by rw [ht']; exact Nat.le_refl _) (fun q _ => by rw [ht'])) hS2.2.2 (Nat.le_refl _) (Nat.le_refl _)
    obtain ⟨t2, a1, b1⟩ := kx T' rfl X'
    exact ⟨t2, st.trans a1, b1⟩
theorem exV_call (X : cx p s m args meth c cc nL rt own Ts) (K : amb G g s) {y : MethodName} {ws' wsy : List Cond} {fr lo n index maxL ci N : Nat} {bytes : ByteArray} {ret : Option FieldType} {b : Addr} {As rest st0 fs : List Value} {ws wc : va_W} {T : u_T} {E : String} {P1 : va_W → Prop}
    (hM : exC l y wsy (rmX fr lo) G g (.ref b :: As) wc E (fun w => w = wc)) (hd : ynm y n) (hT : GoodIn Ts (wsV own index y.cls y wsy)) (hP : va_P G vwCl ws H) (hD : va_D A ws) (hS : va_S A s.heap H locs) (hA : ∀ q, s.heap.size ≤ q → A q) (hs : exS A s s.heap) (f : focus ws wc wc ws) (hp1 : ∀ w, w = ws → P1 w) (hne : ∀ x ∈ c.exceptionTable.toList, False) (hls : ls.size = nL) (hdg : decode cc pc = .ok (.invokevirtual index, 3)) (hw : wsy = Cond.code y bytes maxL ret :: ws') (hn : As.length = n) (hR : fr + 1 ≤ R.frames ∧ 8 + (maxL + 11) + lo ≤ R.locals) (hc : vwCl[ci]? = some (y.cls, T, N)) (h0 : wc[0]? = some (b, .inr (ci, fs))) (hst : st0 = As.reverse ++ .ref b :: rest) (hsum : (rest.map fun v => v.category).sum ≤ 8) (hf : 1 ≤ R.cells ∧ 6 ≤ R.slots) (hk : meth.locks = false) : W p l e R s m args below meth c H locs 0 0 (exM G A below E P1 args s) (F0 m pc ls st0) := by
  have hPc : va_P G vwCl wc H := f.sub hP
  have hDc : va_D A wc := f.subD hD
  exact ex_go (vx_runV (C := y.cls) X.fix (hM H.size) (cwV n X.2.2.2.2.2.1 hT hw rfl rfl ⟨rfl, hd⟩ hR) ⟨exP.blind, va_recv K.1 hPc hc h0, fun U hU hW => ⟨rfl, by rw [hU], by rw [hU]; exact hPc, K.warm hW, hDc.weaken (fun _ _ _ _ => trivial), hs.to hS hU hW (free_f hD f hS hA)⟩⟩ rfl hn hls hst (lv_room hsum) hdg ⟨by omega, by omega⟩) hP hD hS hA f hp1 hne hk
theorem exS_call (X : cx p s m args meth c cc nL rt own Ts) (K : amb G g s) {y : MethodName} {ws' wsy : List Cond} {fr lo n index maxL : Nat} {bytes : ByteArray} {ret : Option FieldType} {As rest st0 : List Value} {ws wc : va_W} {E : String} {P1 : va_W → Prop}
    (hM : exC l y wsy (rmX fr lo) G g As wc E (fun w => w = wc)) (hd : ynm y n) (hT : GoodIn Ts (va_wsS own index y wsy)) (hP : va_P G vwCl ws H) (hD : va_D A ws) (hS : va_S A s.heap H locs) (hA : ∀ q, s.heap.size ≤ q → A q) (hs : exS A s s.heap) (f : focus ws wc wc ws) (hp1 : ∀ w, w = ws → P1 w) (hne : ∀ x ∈ c.exceptionTable.toList, False) (hls : ls.size = nL) (hdg : decode cc pc = .ok (.invokestatic index, 3)) (hw : wsy = Cond.code y bytes maxL ret :: ws') (hn : As.length = n) (hR : fr + 1 ≤ R.frames ∧ 8 + (maxL + 11) + lo ≤ R.locals) (hst : st0 = As.reverse ++ rest) (hsum : (rest.map fun v => v.category).sum ≤ 8) (hf : 1 ≤ R.cells ∧ 6 ≤ R.slots) (hk : meth.locks = false) : W p l e R s m args below meth c H locs 0 0 (exM G A below E P1 args s) (F0 m pc ls st0) := by
  have hPc : va_P G vwCl wc H := f.sub hP
  have hDc : va_D A wc := f.subD hD
  exact ex_go (vx_runS X.fix (hM H.size) (va_cwS n X.2.2.2.2.2.1 hT hw rfl rfl hd hR) ⟨exP.blind, fun U hU hW => ⟨rfl, by rw [hU], by rw [hU]; exact hPc, K.warm hW, hDc.weaken (fun _ _ _ _ => trivial), hs.to hS hU hW (free_f hD f hS hA)⟩⟩ rfl hn hls hst (lv_room hsum) hdg ⟨by omega, by omega⟩) hP hD hS hA f hp1 hne hk
end MyRows3
set_option maxHeartbeats 4000000 in
set_option maxRecDepth 100000 in
theorem kx_X3_requireRange (l : Launch) (hf0 : l.stackTraces = false) (G : va_G) (g : Nat → ClassId) (p1 : Int32) (p2 : Int32) (p3 : Int32) (nn : Nat) (hq : F_X3_requireRange p1 p2 p3 = some (.inl nn)) : exC l yX3_requireRange wsX3_requireRange (rmX 6 90) G g [.int p1, .int p2, .int p3] [] (exN nn) (fun w : va_W => w = []) := by
  refine exC.of (cc := cX3_requireRange) (maxL := 3) (ret := none) (by decide) rfl (Nat.le_of_ble_eq_true rfl) ?_
  intro p e s m below meth c ls A X K hA hP hD hS hs hne hl
  obtain ⟨hx, hb, hml, hr, hown, hts, hk⟩ := id X
  have hl : lv_has ls 3 [(0, .int p1), (1, .int p2), (2, .int p3)] := hl
  have hP1 : (fun w : va_W => w = []) [] := rfl
  unfold F_X3_requireRange at hq
  refine lv_iload_n hx hb dX3_requireRange_0 rfl (lv_at hl 0 rfl) ?_
  refine lv_iload_n hx hb dX3_requireRange_1 rfl (lv_at hl 1 rfl) ?_
  refine lv_icmp_lt (tgt := 10) hx hb dX3_requireRange_2 (by decide) (fun c1 => ?_) (fun c1 => ?_)
  · have hq := q_if_t hq c1
    obtain rfl := q_li hq
    exact ex_throw (is := 216) (text := "an argument is out of range") X hf0 ex_c2 (hts _ (List.mem_of_getElem? (i := 1) rfl)) (hts _ (List.mem_of_getElem? (i := 2) rfl)) (fun w h => hts w (List.mem_cons_of_mem _ (List.mem_append_right _ h))) hs (by decide +kernel) hne hP hD hS (by rw [hml]; exact hl.1) hP1 dX3_requireRange_10 dX3_requireRange_13 dX3_requireRange_14 dX3_requireRange_16 dX3_requireRange_19 (Nat.le_of_ble_eq_true rfl) (Nat.le_of_ble_eq_true rfl) (Nat.le_of_ble_eq_true rfl) (Nat.le_of_ble_eq_true rfl) hk
  · have hq := q_if_f hq c1
    refine lv_iload_n hx hb dX3_requireRange_5 rfl (lv_at hl 0 rfl) ?_
    refine lv_iload_n hx hb dX3_requireRange_6 rfl (lv_at hl 2 rfl) ?_
    refine lv_icmp_le (tgt := 20) hx hb dX3_requireRange_7 (by decide) (fun c2 => ?_) (fun c2 => ?_)
    · have hq := q_if_t hq c2
      exact q_rl hq
    · have hq := q_if_f hq c2
      obtain rfl := q_li hq
      exact ex_throw (is := 216) (text := "an argument is out of range") X hf0 ex_c2 (hts _ (List.mem_of_getElem? (i := 1) rfl)) (hts _ (List.mem_of_getElem? (i := 2) rfl)) (fun w h => hts w (List.mem_cons_of_mem _ (List.mem_append_right _ h))) hs (by decide +kernel) hne hP hD hS (by rw [hml]; exact hl.1) hP1 dX3_requireRange_10 dX3_requireRange_13 dX3_requireRange_14 dX3_requireRange_16 dX3_requireRange_19 (Nat.le_of_ble_eq_true rfl) (Nat.le_of_ble_eq_true rfl) (Nat.le_of_ble_eq_true rfl) (Nat.le_of_ble_eq_true rfl) hk
set_option maxHeartbeats 4000000 in
set_option maxRecDepth 100000 in
theorem kx_X3_requireSpan (l : Launch) (hf0 : l.stackTraces = false) (G : va_G) (g : Nat → ClassId) (p1 : Int32) (p2 : Int32) (nn : Nat) (hq : F_X3_requireSpan p1 p2 = some (.inl nn)) : exC l yX3_requireSpan wsX3_requireSpan (rmX 7 112) G g [.int p1, .int p2] [] (exN nn) (fun w : va_W => w = []) := by
  refine exC.of (cc := cX3_requireSpan) (maxL := 2) (ret := none) (by decide) rfl (Nat.le_of_ble_eq_true rfl) ?_
  intro p e s m below meth c ls A X K hA hP hD hS hs hne hl
  obtain ⟨hx, hb, hml, hr, hown, hts, hk⟩ := id X
  have hl : lv_has ls 2 [(0, .int p1), (1, .int p2)] := hl
  have hP1 : (fun w : va_W => w = []) [] := rfl
  unfold F_X3_requireSpan at hq
  refine lv_iload_n hx hb dX3_requireSpan_0 rfl (lv_at hl 0 rfl) ?_
  refine lv_iconst (v := 0) hx hb dX3_requireSpan_1 (by decide) ?_
  refine lv_sipush (v := 998) hx hb dX3_requireSpan_2 (by decide) ?_
  rcases q_thx hq with hh1 | ⟨_, hh1, hq⟩
  · exact exS_call (As := [.int p1, .int 0, .int 998]) (rest := []) X K (kx_X3_requireRange l hf0 G g p1 0 998 _ hh1) hd_X3_requireRange gX3_requireSpan_X3_requireRange hP hD hS hA hs foc_nil (fun w h => by subst h; exact hP1) hne hl.1 dX3_requireSpan_5 rfl rfl ⟨Nat.le_of_ble_eq_true rfl, Nat.le_of_ble_eq_true rfl⟩ rfl (Nat.le_of_ble_eq_true rfl) ⟨Nat.le_of_ble_eq_true rfl, Nat.le_of_ble_eq_true rfl⟩ hk
  refine roS (As := [.int p1, .int 0, .int 998]) (rest := []) X K (k_X3_requireRange l G g p1 0 998 _ hh1) hd_X3_requireRange gX3_requireSpan_X3_requireRange hP hl.1 dX3_requireSpan_5 rfl rfl ⟨Nat.le_of_ble_eq_true rfl, Nat.le_of_ble_eq_true rfl⟩ rfl (Nat.le_of_ble_eq_true rfl) ⟨Nat.zero_le _, Nat.zero_le _⟩ ?_
  refine lv_iload_n hx hb dX3_requireSpan_8 rfl (lv_at hl 1 rfl) ?_
  refine lv_iload_n hx hb dX3_requireSpan_9 rfl (lv_at hl 0 rfl) ?_
  refine lv_iconst (v := 1) hx hb dX3_requireSpan_10 (by decide) ?_
  refine lv_iadd hx hb dX3_requireSpan_11 ?_
  refine lv_sipush (v := 999) hx hb dX3_requireSpan_12 (by decide) ?_
  rcases q_thx hq with hh3 | ⟨_, hh3, hq⟩
  · exact exS_call (As := [.int p2, .int (p1 + 1), .int 999]) (rest := []) X K (kx_X3_requireRange l hf0 G g p2 (p1 + 1) 999 _ hh3) hd_X3_requireRange gX3_requireSpan_X3_requireRange hP hD hS hA hs foc_nil (fun w h => by subst h; exact hP1) hne hl.1 dX3_requireSpan_15 rfl rfl ⟨Nat.le_of_ble_eq_true rfl, Nat.le_of_ble_eq_true rfl⟩ rfl (Nat.le_of_ble_eq_true rfl) ⟨Nat.le_of_ble_eq_true rfl, Nat.le_of_ble_eq_true rfl⟩ hk
  refine roS (As := [.int p2, .int (p1 + 1), .int 999]) (rest := []) X K (k_X3_requireRange l G g p2 (p1 + 1) 999 _ hh3) hd_X3_requireRange gX3_requireSpan_X3_requireRange hP hl.1 dX3_requireSpan_15 rfl rfl ⟨Nat.le_of_ble_eq_true rfl, Nat.le_of_ble_eq_true rfl⟩ rfl (Nat.le_of_ble_eq_true rfl) ⟨Nat.zero_le _, Nat.zero_le _⟩ ?_
  exact q_rl hq
set_option maxHeartbeats 4000000 in
set_option maxRecDepth 100000 in
theorem kx_X3_requireKey (l : Launch) (hf0 : l.stackTraces = false) (G : va_G) (g : Nat → ClassId) (h1 a1 : Nat) (cn : Int32) (cf : Nat → Int32) (p2 : Int32) (nn : Nat) (hq : F_X3_requireKey cn p2 = some (.inl nn)) : exC l yX3_requireKey wsX3_requireKey (rmX 6 90) G g [.ref h1, .int p2] [(h1, .inr (0, [.int cn, .ref a1])), (a1, .inl (g 0, 96, .inl cf))] (exN nn) (fun w : va_W => w = [(h1, .inr (0, [.int cn, .ref a1])), (a1, .inl (g 0, 96, .inl cf))]) := by
  refine exC.of (cc := cX3_requireKey) (maxL := 2) (ret := none) (by decide) rfl (Nat.le_of_ble_eq_true rfl) ?_
  intro p e s m below meth c ls A X K hA hP hD hS hs hne hl
  obtain ⟨hx, hb, hml, hr, hown, hts, hk⟩ := id X
  have hl : lv_has ls 2 [(0, .ref h1), (1, .int p2)] := hl
  have hP1 : (fun w : va_W => w = [(h1, .inr (0, [.int cn, .ref a1])), (a1, .inl (g 0, 96, .inl cf))]) [(h1, .inr (0, [.int cn, .ref a1])), (a1, .inl (g 0, 96, .inl cf))] := rfl
  unfold F_X3_requireKey at hq
  refine lv_iload_n hx hb dX3_requireKey_0 rfl (lv_at hl 1 rfl) ?_
  refine lv_if_lt (tgt := 12) hx hb dX3_requireKey_1 (by decide) (fun c1 => ?_) (fun c1 => ?_)
  · have hq := q_if_t hq c1
    obtain rfl := q_li hq
    exact ex_throw (is := 212) (text := "no such key") X hf0 ex_c1 (hts _ (List.mem_of_getElem? (i := 1) rfl)) (hts _ (List.mem_of_getElem? (i := 2) rfl)) (fun w h => hts w (List.mem_cons_of_mem _ (List.mem_append_right _ h))) hs (by decide +kernel) hne hP hD hS (by rw [hml]; exact hl.1) hP1 dX3_requireKey_12 dX3_requireKey_15 dX3_requireKey_16 dX3_requireKey_18 dX3_requireKey_21 (Nat.le_of_ble_eq_true rfl) (Nat.le_of_ble_eq_true rfl) (Nat.le_of_ble_eq_true rfl) (Nat.le_of_ble_eq_true rfl) hk
  · have hq := q_if_f hq c1
    refine lv_iload_n hx hb dX3_requireKey_4 rfl (lv_at hl 1 rfl) ?_
    refine lv_aload_n hx hb dX3_requireKey_5 rfl (lv_at hl 0 rfl) ?_
    refine va_getN (D := G) (ci := 0) (v := .int cn) (C := RX0) (T := TX0) (N := 2) (host := RX3) hx hb hts in_X3_requireKey_X0 hown K.1 hP 0 rfl rfl 0 (by decide) ((K.2.2 (RX3, 53, RX0, "count", "I", RX3) (by decide +kernel)).use rfl) (fun _ h9 => h9) rfl dX3_requireKey_6 ?_
    refine lv_icmp_lt (tgt := 22) hx hb dX3_requireKey_9 (by decide) (fun c2 => ?_) (fun c2 => ?_)
    · have hq := q_if_t hq c2
      exact q_rl hq
    · have hq := q_if_f hq c2
      obtain rfl := q_li hq
      exact ex_throw (is := 212) (text := "no such key") X hf0 ex_c1 (hts _ (List.mem_of_getElem? (i := 1) rfl)) (hts _ (List.mem_of_getElem? (i := 2) rfl)) (fun w h => hts w (List.mem_cons_of_mem _ (List.mem_append_right _ h))) hs (by decide +kernel) hne hP hD hS (by rw [hml]; exact hl.1) hP1 dX3_requireKey_12 dX3_requireKey_15 dX3_requireKey_16 dX3_requireKey_18 dX3_requireKey_21 (Nat.le_of_ble_eq_true rfl) (Nat.le_of_ble_eq_true rfl) (Nat.le_of_ble_eq_true rfl) (Nat.le_of_ble_eq_true rfl) hk
set_option maxHeartbeats 4000000 in
set_option maxRecDepth 100000 in
theorem kx_X3_requireUnlocked (l : Launch) (hf0 : l.stackTraces = false) (G : va_G) (g : Nat → ClassId) (h1 a1 : Nat) (cn : Int32) (cf : Nat → Int32) (p2 : Int32) (nn : Nat) (hq : F_X3_requireUnlocked cn cf p2 = some (.inl nn)) : exC l yX3_requireUnlocked wsX3_requireUnlocked (rmX 6 90) G g [.ref h1, .int p2] [(h1, .inr (0, [.int cn, .ref a1])), (a1, .inl (g 0, 96, .inl cf))] (exN nn) (fun w : va_W => w = [(h1, .inr (0, [.int cn, .ref a1])), (a1, .inl (g 0, 96, .inl cf))]) := by
  refine exC.of (cc := cX3_requireUnlocked) (maxL := 2) (ret := none) (by decide) rfl (Nat.le_of_ble_eq_true rfl) ?_
  intro p e s m below meth c ls A X K hA hP hD hS hs hne hl
  obtain ⟨hx, hb, hml, hr, hown, hts, hk⟩ := id X
  have hl : lv_has ls 2 [(0, .ref h1), (1, .int p2)] := hl
  have hP1 : (fun w : va_W => w = [(h1, .inr (0, [.int cn, .ref a1])), (a1, .inl (g 0, 96, .inl cf))]) [(h1, .inr (0, [.int cn, .ref a1])), (a1, .inl (g 0, 96, .inl cf))] := rfl
  unfold F_X3_requireUnlocked at hq
  refine lv_aload_n hx hb dX3_requireUnlocked_0 rfl (lv_at hl 0 rfl) ?_
  refine lv_iload_n hx hb dX3_requireUnlocked_1 rfl (lv_at hl 1 rfl) ?_
  obtain ⟨r1, hh2, hq⟩ := q_bd hq
  refine roN (ci := 0) (host := RX3) (As := [.int p2]) (rest := []) X K (k_X0_isLocked l G g h1 a1 cn cf p2 _ hh2) hd_X0_isLocked ggX3_requireUnlocked_X0_isLocked (by decide +kernel) (List.mem_of_getElem? (i := 4) rfl) (List.mem_of_getElem? (i := 3) rfl) (List.mem_of_getElem? (i := 5) rfl) hP hl.1 dX3_requireUnlocked_2 rfl rfl ⟨Nat.le_of_ble_eq_true rfl, Nat.le_of_ble_eq_true rfl⟩ rfl rfl rfl (Nat.le_of_ble_eq_true rfl) ⟨Nat.zero_le _, Nat.zero_le _⟩ ?_
  refine lv_if_eq (tgt := 18) hx hb dX3_requireUnlocked_5 (by decide) (fun c3 => ?_) (fun c3 => ?_)
  · have hq := q_if_t hq c3
    exact q_rl hq
  · have hq := q_if_f hq c3
    obtain rfl := q_li hq
    exact ex_throw (is := 222) (text := "the key is locked") X hf0 ex_c3 (hts _ (List.mem_of_getElem? (i := 1) rfl)) (hts _ (List.mem_of_getElem? (i := 2) rfl)) (fun w h => hts w (List.mem_cons_of_mem _ (List.mem_append_right _ h))) hs (by decide +kernel) hne hP hD hS (by rw [hml]; exact hl.1) hP1 dX3_requireUnlocked_8 dX3_requireUnlocked_11 dX3_requireUnlocked_12 dX3_requireUnlocked_14 dX3_requireUnlocked_17 (Nat.le_of_ble_eq_true rfl) (Nat.le_of_ble_eq_true rfl) (Nat.le_of_ble_eq_true rfl) (Nat.le_of_ble_eq_true rfl) hk
set_option maxHeartbeats 4000000 in
set_option maxRecDepth 100000 in
theorem kx_X3_requireNoLock (l : Launch) (hf0 : l.stackTraces = false) (G : va_G) (g : Nat → ClassId) (h1 a1 : Nat) (cn : Int32) (cf : Nat → Int32) (nn : Nat) (hq : F_X3_requireNoLock cn cf = some (.inl nn)) : exC l yX3_requireNoLock wsX3_requireNoLock (rmX 6 90) G g [.ref h1] [(h1, .inr (0, [.int cn, .ref a1])), (a1, .inl (g 0, 96, .inl cf))] (exN nn) (fun w : va_W => w = [(h1, .inr (0, [.int cn, .ref a1])), (a1, .inl (g 0, 96, .inl cf))]) := by
  refine exC.of (cc := cX3_requireNoLock) (maxL := 1) (ret := none) (by decide) rfl (Nat.le_of_ble_eq_true rfl) ?_
  intro p e s m below meth c ls A X K hA hP hD hS hs hne hl
  obtain ⟨hx, hb, hml, hr, hown, hts, hk⟩ := id X
  have hl : lv_has ls 1 [(0, .ref h1)] := hl
  have hP1 : (fun w : va_W => w = [(h1, .inr (0, [.int cn, .ref a1])), (a1, .inl (g 0, 96, .inl cf))]) [(h1, .inr (0, [.int cn, .ref a1])), (a1, .inl (g 0, 96, .inl cf))] := rfl
  unfold F_X3_requireNoLock at hq
  refine lv_aload_n hx hb dX3_requireNoLock_0 rfl (lv_at hl 0 rfl) ?_
  obtain ⟨r1, hh2, hq⟩ := q_bd hq
  refine roN (ci := 0) (host := RX3) (As := []) (rest := []) X K (k_X0_hasLock l G g h1 a1 cn cf _ hh2) hd_X0_hasLock ggX3_requireNoLock_X0_hasLock (by decide +kernel) (List.mem_of_getElem? (i := 4) rfl) (List.mem_of_getElem? (i := 3) rfl) (List.mem_of_getElem? (i := 5) rfl) hP hl.1 dX3_requireNoLock_1 rfl rfl ⟨Nat.le_of_ble_eq_true rfl, Nat.le_of_ble_eq_true rfl⟩ rfl rfl rfl (Nat.le_of_ble_eq_true rfl) ⟨Nat.zero_le _, Nat.zero_le _⟩ ?_
  refine lv_if_eq (tgt := 17) hx hb dX3_requireNoLock_4 (by decide) (fun c3 => ?_) (fun c3 => ?_)
  · have hq := q_if_t hq c3
    exact q_rl hq
  · have hq := q_if_f hq c3
    obtain rfl := q_li hq
    exact ex_throw (is := 228) (text := "the curve has a locked key") X hf0 ex_c3 (hts _ (List.mem_of_getElem? (i := 1) rfl)) (hts _ (List.mem_of_getElem? (i := 2) rfl)) (fun w h => hts w (List.mem_cons_of_mem _ (List.mem_append_right _ h))) hs (by decide +kernel) hne hP hD hS (by rw [hml]; exact hl.1) hP1 dX3_requireNoLock_7 dX3_requireNoLock_10 dX3_requireNoLock_11 dX3_requireNoLock_13 dX3_requireNoLock_16 (Nat.le_of_ble_eq_true rfl) (Nat.le_of_ble_eq_true rfl) (Nat.le_of_ble_eq_true rfl) (Nat.le_of_ble_eq_true rfl) hk
set_option maxHeartbeats 4000000 in
set_option maxRecDepth 100000 in
theorem kx_X3_curveNumbered (l : Launch) (hf0 : l.stackTraces = false) (G : va_G) (g : Nat → ClassId) (ad : Nat → Nat) (bd : Nat → Nat → Nat) (sc : Int32) (tl : Int32) (tat : Int32) (tb : Nat → Int32) (cn : Nat → Int32) (cf : Nat → Nat → Int32) (sn : Nat → Nat → Int32) (sf : Nat → Nat → Nat → Int32) (tn : Int32) (tf : Nat → Int32) (vv : Nat → Int32) (ov : Nat → Int32) (p1 : Int32) (nn : Nat) (hq : F_X3_curveNumbered p1 = some (.inl nn)) : exC l yX3_curveNumbered wsX3_curveNumbered (rmX 6 90) G g [.ref (ad 0), .int p1] (wX g ad bd sc tl tat tb cn cf sn sf tn tf vv ov) (exN nn) (fun w : va_W => w = (wX g ad bd sc tl tat tb cn cf sn sf tn tf vv ov)) := by
  refine exC.of (cc := cX3_curveNumbered) (maxL := 2) (ret := (some (.object "EaseCurves$Curve"))) (by decide) rfl (Nat.le_of_ble_eq_true rfl) ?_
  intro p e s m below meth c ls A X K hA hP hD hS hs hne hl
  obtain ⟨hx, hb, hml, hr, hown, hts, hk⟩ := id X
  have hl : lv_has ls 2 [(0, .ref (ad 0)), (1, .int p1)] := hl
  have hP1 : (fun w : va_W => w = (wX g ad bd sc tl tat tb cn cf sn sf tn tf vv ov)) (wX g ad bd sc tl tat tb cn cf sn sf tn tf vv ov) := rfl
  unfold F_X3_curveNumbered at hq
  refine lv_iload_n hx hb dX3_curveNumbered_0 rfl (lv_at hl 1 rfl) ?_
  refine lv_if_lt (tgt := 9) hx hb dX3_curveNumbered_1 (by decide) (fun c1 => ?_) (fun c1 => ?_)
  · have hq := q_if_t hq c1
    obtain rfl := q_li hq
    exact ex_throw (is := 210) (text := "no such curve") X hf0 ex_c1 (hts _ (List.mem_of_getElem? (i := 1) rfl)) (hts _ (List.mem_of_getElem? (i := 2) rfl)) (fun w h => hts w (List.mem_cons_of_mem _ (List.mem_append_right _ h))) hs (by decide +kernel) hne hP hD hS (by rw [hml]; exact hl.1) hP1 dX3_curveNumbered_9 dX3_curveNumbered_12 dX3_curveNumbered_13 dX3_curveNumbered_15 dX3_curveNumbered_18 (Nat.le_of_ble_eq_true rfl) (Nat.le_of_ble_eq_true rfl) (Nat.le_of_ble_eq_true rfl) (Nat.le_of_ble_eq_true rfl) hk
  · have hq := q_if_f hq c1
    refine lv_iload_n hx hb dX3_curveNumbered_4 rfl (lv_at hl 1 rfl) ?_
    refine lv_iconst (v := 4) hx hb dX3_curveNumbered_5 (by decide) ?_
    refine lv_icmp_lt (tgt := 19) hx hb dX3_curveNumbered_6 (by decide) (fun c2 => ?_) (fun c2 => ?_)
    · have hq := q_if_t hq c2
      refine lv_aload_n hx hb dX3_curveNumbered_19 rfl (lv_at hl 0 rfl) ?_
      refine va_get (D := G) (ci := 3) (v := .ref (ad 1)) (C := RX3) (T := TX3) (N := 7) hx hb hts in_X3_curveNumbered_X3 hown K.1 hP 0 rfl rfl 0 (by decide) (hts _ (List.mem_of_getElem? (i := 3) rfl)) (fun _ h9 => h9) rfl dX3_curveNumbered_20 ?_
      refine va_getN (D := G) (ci := 2) (v := .ref (ad 2)) (C := RX2) (T := TX2) (N := 1) (host := RX3) hx hb hts in_X3_curveNumbered_X2 hown K.1 hP 1 rfl rfl 0 (by decide) ((K.2.2 (RX3, 200, RX2, "curves", "[LEaseCurves$Curve;", RX3) (by decide +kernel)).use rfl) (fun _ h9 => h9) rfl dX3_curveNumbered_23 ?_
      refine lv_iload_n hx hb dX3_curveNumbered_26 rfl (lv_at hl 1 rfl) ?_
      obtain ⟨hh3, hq⟩ := q_gd hq
      have lk4 := ix_lt hh3
      refine va_aldq hx hb K.1 hP 2 2 rfl rfl (vp_in_iff.mpr hh3) dX3_curveNumbered_27 ?_
      obtain ⟨k4, ek4⟩ : ∃ y : Nat, y = p1.toNatClampNeg := ⟨_, rfl⟩
      have hq := q_let hq ek4
      rw [← ek4] at lk4
      refine W.eq (g2 := F0 m 28 ls ([.ref (cad ad k4)])) (by rw [← ek4]; exact congrArg (fun z => F0 m 28 ls (va_rf z :: _)) (vq4_at (fun z => cad ad z) lk4)) ?_
      exact q_rl hq
    · have hq := q_if_f hq c2
      obtain rfl := q_li hq
      exact ex_throw (is := 210) (text := "no such curve") X hf0 ex_c1 (hts _ (List.mem_of_getElem? (i := 1) rfl)) (hts _ (List.mem_of_getElem? (i := 2) rfl)) (fun w h => hts w (List.mem_cons_of_mem _ (List.mem_append_right _ h))) hs (by decide +kernel) hne hP hD hS (by rw [hml]; exact hl.1) hP1 dX3_curveNumbered_9 dX3_curveNumbered_12 dX3_curveNumbered_13 dX3_curveNumbered_15 dX3_curveNumbered_18 (Nat.le_of_ble_eq_true rfl) (Nat.le_of_ble_eq_true rfl) (Nat.le_of_ble_eq_true rfl) (Nat.le_of_ble_eq_true rfl) hk
set_option maxHeartbeats 4000000 in
set_option maxRecDepth 100000 in
theorem kx_X3_addKey (l : Launch) (hf0 : l.stackTraces = false) (G : va_G) (g : Nat → ClassId) (ad : Nat → Nat) (bd : Nat → Nat → Nat) (sc : Int32) (tl : Int32) (tat : Int32) (tb : Nat → Int32) (cn : Nat → Int32) (cf : Nat → Nat → Int32) (sn : Nat → Nat → Int32) (sf : Nat → Nat → Nat → Int32) (tn : Int32) (tf : Nat → Int32) (vv : Nat → Int32) (ov : Nat → Int32) (p1 : Int32) (p2 : Int32) (p3 : Int32) (p4 : Int32) (nn : Nat) (hq : F_X3_addKey bd sc cn cf sn sf p1 p2 p3 p4 = some (.inl nn)) : exC l yX3_addKey wsX3_addKey (rmX 7 112) G g [.ref (ad 0), .int p1, .int p2, .int p3, .int p4] (wX g ad bd sc tl tat tb cn cf sn sf tn tf vv ov) (exN nn) (fun w : va_W => w = (wX g ad bd sc tl tat tb cn cf sn sf tn tf vv ov)) := by
  refine exC.of (cc := cX3_addKey) (maxL := 6) (ret := (some .int)) (by decide) rfl (Nat.le_of_ble_eq_true rfl) ?_
  intro p e s m below meth c ls A X K hA hP hD hS hs hne hl
  obtain ⟨hx, hb, hml, hr, hown, hts, hk⟩ := id X
  have hl : lv_has ls 6 [(0, .ref (ad 0)), (1, .int p1), (2, .int p2), (3, .int p3), (4, .int p4)] := hl
  have hP1 : (fun w : va_W => w = (wX g ad bd sc tl tat tb cn cf sn sf tn tf vv ov)) (wX g ad bd sc tl tat tb cn cf sn sf tn tf vv ov) := rfl
  unfold F_X3_addKey at hq
  refine lv_aload_n hx hb dX3_addKey_0 rfl (lv_at hl 0 rfl) ?_
  refine lv_iload_n hx hb dX3_addKey_1 rfl (lv_at hl 1 rfl) ?_
  rcases q_thx hq with hh2 | ⟨r1, hh2, hq⟩
  · exact exV_call (ci := 3) (As := [.int p1]) (rest := []) X K (kx_X3_curveNumbered l hf0 G g ad bd sc tl tat tb cn cf sn sf tn tf vv ov p1 _ hh2) hd_X3_curveNumbered gX3_addKey_X3_curveNumbered hP hD hS hA hs foc_id (fun w h => by subst h; exact hP1) hne hl.1 dX3_addKey_2 rfl rfl ⟨Nat.le_of_ble_eq_true rfl, Nat.le_of_ble_eq_true rfl⟩ rfl rfl rfl (Nat.le_of_ble_eq_true rfl) ⟨Nat.le_of_ble_eq_true rfl, Nat.le_of_ble_eq_true rfl⟩ hk
  refine roV (ci := 3) (As := [.int p1]) (rest := []) X K (k_X3_curveNumbered l G g ad bd sc tl tat tb cn cf sn sf tn tf vv ov p1 _ hh2) hd_X3_curveNumbered gX3_addKey_X3_curveNumbered hP hl.1 dX3_addKey_2 rfl rfl ⟨Nat.le_of_ble_eq_true rfl, Nat.le_of_ble_eq_true rfl⟩ rfl rfl rfl (Nat.le_of_ble_eq_true rfl) ⟨Nat.zero_le _, Nat.zero_le _⟩ ?_
  have lr1 := F_X3_curveNumbered_lt hh2
  refine lv_astore (lv' := [(5, .ref (cad ad r1)), (0, .ref (ad 0)), (1, .int p1), (2, .int p2), (3, .int p3), (4, .int p4)]) hx hb dX3_addKey_5 hl (by decide) rfl (fun ls hl => ?_)
  refine lv_iload_n hx hb dX3_addKey_7 rfl (lv_at hl 3 rfl) ?_
  refine lv_iconst (v := 0) hx hb dX3_addKey_8 (by decide) ?_
  refine lv_sipush (v := 999) hx hb dX3_addKey_9 (by decide) ?_
  rcases q_thx hq with hh3 | ⟨_, hh3, hq⟩
  · exact exS_call (As := [.int p2, .int 0, .int 999]) (rest := []) X K (kx_X3_requireRange l hf0 G g p2 0 999 _ hh3) hd_X3_requireRange gX3_addKey_X3_requireRange hP hD hS hA hs foc_nil (fun w h => by subst h; exact hP1) hne hl.1 dX3_addKey_12 rfl rfl ⟨Nat.le_of_ble_eq_true rfl, Nat.le_of_ble_eq_true rfl⟩ rfl (Nat.le_of_ble_eq_true rfl) ⟨Nat.le_of_ble_eq_true rfl, Nat.le_of_ble_eq_true rfl⟩ hk
  refine roS (As := [.int p2, .int 0, .int 999]) (rest := []) X K (k_X3_requireRange l G g p2 0 999 _ hh3) hd_X3_requireRange gX3_addKey_X3_requireRange (va_P.none G) hl.1 dX3_addKey_12 rfl rfl ⟨Nat.le_of_ble_eq_true rfl, Nat.le_of_ble_eq_true rfl⟩ rfl (Nat.le_of_ble_eq_true rfl) ⟨Nat.zero_le _, Nat.zero_le _⟩ ?_
  refine lv_iload_n hx hb dX3_addKey_15 rfl (lv_at hl 4 rfl) ?_
  refine lv_sipush (v := (-9999)) hx hb dX3_addKey_16 (by decide) ?_
  refine lv_sipush (v := 9999) hx hb dX3_addKey_19 (by decide) ?_
  rcases q_thx hq with hh4 | ⟨_, hh4, hq⟩
  · exact exS_call (As := [.int p3, .int (-9999), .int 9999]) (rest := []) X K (kx_X3_requireRange l hf0 G g p3 (-9999) 9999 _ hh4) hd_X3_requireRange gX3_addKey_X3_requireRange hP hD hS hA hs foc_nil (fun w h => by subst h; exact hP1) hne hl.1 dX3_addKey_22 rfl rfl ⟨Nat.le_of_ble_eq_true rfl, Nat.le_of_ble_eq_true rfl⟩ rfl (Nat.le_of_ble_eq_true rfl) ⟨Nat.le_of_ble_eq_true rfl, Nat.le_of_ble_eq_true rfl⟩ hk
  refine roS (As := [.int p3, .int (-9999), .int 9999]) (rest := []) X K (k_X3_requireRange l G g p3 (-9999) 9999 _ hh4) hd_X3_requireRange gX3_addKey_X3_requireRange (va_P.none G) hl.1 dX3_addKey_22 rfl rfl ⟨Nat.le_of_ble_eq_true rfl, Nat.le_of_ble_eq_true rfl⟩ rfl (Nat.le_of_ble_eq_true rfl) ⟨Nat.zero_le _, Nat.zero_le _⟩ ?_
  refine lv_iload hx hb dX3_addKey_25 (lv_at hl 5 rfl) ?_
  refine lv_iconst (v := 0) hx hb dX3_addKey_27 (by decide) ?_
  refine lv_iconst (v := 5) hx hb dX3_addKey_28 (by decide) ?_
  rcases q_thx hq with hh5 | ⟨_, hh5, hq⟩
  · exact exS_call (As := [.int p4, .int 0, .int 5]) (rest := []) X K (kx_X3_requireRange l hf0 G g p4 0 5 _ hh5) hd_X3_requireRange gX3_addKey_X3_requireRange hP hD hS hA hs foc_nil (fun w h => by subst h; exact hP1) hne hl.1 dX3_addKey_29 rfl rfl ⟨Nat.le_of_ble_eq_true rfl, Nat.le_of_ble_eq_true rfl⟩ rfl (Nat.le_of_ble_eq_true rfl) ⟨Nat.le_of_ble_eq_true rfl, Nat.le_of_ble_eq_true rfl⟩ hk
  refine roS (As := [.int p4, .int 0, .int 5]) (rest := []) X K (k_X3_requireRange l G g p4 0 5 _ hh5) hd_X3_requireRange gX3_addKey_X3_requireRange (va_P.none G) hl.1 dX3_addKey_29 rfl rfl ⟨Nat.le_of_ble_eq_true rfl, Nat.le_of_ble_eq_true rfl⟩ rfl (Nat.le_of_ble_eq_true rfl) ⟨Nat.zero_le _, Nat.zero_le _⟩ ?_
  refine lv_aload hx hb dX3_addKey_32 (lv_at hl 0 rfl) ?_
  refine va_getN (D := G) (ci := 0) (v := .int (cn r1)) (C := RX0) (T := TX0) (N := 2) (host := RX3) hx hb hts in_X3_addKey_X0 hown K.1 (sub_c lr1 hP) 0 rfl rfl 0 (by decide) ((K.2.2 (RX3, 53, RX0, "count", "I", RX3) (by decide +kernel)).use rfl) (fun _ h9 => h9) rfl dX3_addKey_34 ?_
  refine lv_bipush (v := 16) hx hb dX3_addKey_37 (by decide) ?_
  refine lv_icmp_lt (tgt := 52) hx hb dX3_addKey_39 (by decide) (fun c6 => ?_) (fun c6 => ?_)
  · have hq := q_if_t hq c6
    refine lv_aload hx hb dX3_addKey_52 (lv_at hl 0 rfl) ?_
    refine lv_iload_n hx hb dX3_addKey_54 rfl (lv_at hl 3 rfl) ?_
    obtain ⟨r7, hh8, hq⟩ := q_bd hq
    refine roN (ci := 0) (host := RX3) (As := [.int p2]) (rest := []) X K (k_X0_numberAtFrame l G g (cad ad r1) (aad ad r1) (cn r1) (cf r1) p2 _ hh8) hd_X0_numberAtFrame ggX3_addKey_X0_numberAtFrame (by decide +kernel) (List.mem_of_getElem? (i := 17) rfl) (List.mem_of_getElem? (i := 16) rfl) (List.mem_of_getElem? (i := 18) rfl) (sub_c lr1 hP) hl.1 dX3_addKey_55 rfl rfl ⟨Nat.le_of_ble_eq_true rfl, Nat.le_of_ble_eq_true rfl⟩ rfl rfl rfl (Nat.le_of_ble_eq_true rfl) ⟨Nat.zero_le _, Nat.zero_le _⟩ ?_
    refine lv_iconst (v := (-1)) hx hb dX3_addKey_58 (by decide) ?_
    refine lv_icmp_eq (tgt := 72) hx hb dX3_addKey_59 (by decide) (fun c9 => ?_) (fun c9 => ?_)
    · have hq := q_if_t hq c9
      refine lv_aload_n hx hb dX3_addKey_72 rfl (lv_at hl 1 rfl) ?_
      obtain ⟨⟨y10, y11, y12, y13⟩, hh14, hq⟩ := q_bd hq
      refine rwVf (ci := 3) (As := []) (rest := []) X K (k_X3_saveState l G g ad bd sc tl tat tb cn cf sn sf tn tf vv ov _ hh14) hd_X3_saveState gX3_addKey_X3_saveState hP hD hS hA foc_id hl.1 dX3_addKey_73 rfl rfl ⟨Nat.le_of_ble_eq_true rfl, Nat.le_of_ble_eq_true rfl⟩ rfl rfl rfl (Nat.le_of_ble_eq_true rfl) ⟨Nat.zero_le _, Nat.zero_le _⟩ (fun H locs hP hD hS => ?_)
      have hP : va_P G vwCl (wX g ad y10 y11 tl tat tb cn cf y12 y13 tn tf vv ov) H := hP
      have hD : va_D A (wX g ad y10 y11 tl tat tb cn cf y12 y13 tn tf vv ov) := hD
      refine lv_aload hx hb dX3_addKey_76 (lv_at hl 0 rfl) ?_
      refine lv_iload_n hx hb dX3_addKey_78 rfl (lv_at hl 3 rfl) ?_
      refine lv_iload_n hx hb dX3_addKey_79 rfl (lv_at hl 4 rfl) ?_
      refine lv_iload hx hb dX3_addKey_80 (lv_at hl 5 rfl) ?_
      refine lv_iconst (v := 0) hx hb dX3_addKey_82 (by decide) ?_
      refine lv_iconst (v := 0) hx hb dX3_addKey_83 (by decide) ?_
      refine lv_iconst (v := 0) hx hb dX3_addKey_84 (by decide) ?_
      obtain ⟨⟨r16, y17, y18⟩, hh19, hq⟩ := q_bd hq
      refine rwNf (ci := 0) (host := RX3) (As := [.int p2, .int p3, .int p4, .int 0, .int 0, .int 0]) (rest := []) X K (k_X0_insert l G g (cad ad r1) (aad ad r1) (cn r1) (cf r1) p2 p3 p4 0 0 0 _ hh19) hd_X0_insert ggX3_addKey_X0_insert (by decide +kernel) (List.mem_of_getElem? (i := 17) rfl) (List.mem_of_getElem? (i := 52) rfl) (List.mem_of_getElem? (i := 53) rfl) hP hD hS hA (foc_c_X0_insert lr1) hl.1 dX3_addKey_85 rfl rfl ⟨Nat.le_of_ble_eq_true rfl, Nat.le_of_ble_eq_true rfl⟩ rfl rfl rfl (Nat.le_of_ble_eq_true rfl) ⟨Nat.zero_le _, Nat.zero_le _⟩ (fun H locs hP hD hS => ?_)
      obtain ⟨y21, ey21⟩ : ∃ y, y = vu cn r1 y17 := ⟨_, rfl⟩
      have hq := q_let hq ey21
      rw [← ey21] at hP hD
      obtain ⟨y22, ey22⟩ : ∃ y, y = vu cf r1 y18 := ⟨_, rfl⟩
      have hq := q_let hq ey22
      rw [← ey22] at hP hD
      have hP : va_P G vwCl (wX g ad y10 y11 tl tat tb y21 y22 y12 y13 tn tf vv ov) H := hP
      have hD : va_D A (wX g ad y10 y11 tl tat tb y21 y22 y12 y13 tn tf vv ov) := hD
      exact q_rl hq
    · have hq := q_if_f hq c9
      obtain rfl := q_li hq
      exact ex_throw (is := 67) (text := "the curve has a key with this frame") X hf0 ex_c3 (hts _ (List.mem_of_getElem? (i := 1) rfl)) (hts _ (List.mem_of_getElem? (i := 2) rfl)) (fun w h => hts w (List.mem_cons_of_mem _ (List.mem_append_left _ (List.mem_append_left _ (List.mem_append_right _ h))))) hs (by decide +kernel) hne hP hD hS (by rw [hml]; exact hl.1) hP1 dX3_addKey_62 dX3_addKey_65 dX3_addKey_66 dX3_addKey_68 dX3_addKey_71 (Nat.le_of_ble_eq_true rfl) (Nat.le_of_ble_eq_true rfl) (Nat.le_of_ble_eq_true rfl) (Nat.le_of_ble_eq_true rfl) hk
  · have hq := q_if_f hq c6
    obtain rfl := q_li hq
    exact ex_throw (is := 58) (text := "the curve has all its keys") X hf0 ex_c3 (hts _ (List.mem_of_getElem? (i := 1) rfl)) (hts _ (List.mem_of_getElem? (i := 2) rfl)) (fun w h => hts w (List.mem_cons_of_mem _ (List.mem_append_left _ (List.mem_append_left _ (List.mem_append_right _ h))))) hs (by decide +kernel) hne hP hD hS (by rw [hml]; exact hl.1) hP1 dX3_addKey_42 dX3_addKey_45 dX3_addKey_46 dX3_addKey_48 dX3_addKey_51 (Nat.le_of_ble_eq_true rfl) (Nat.le_of_ble_eq_true rfl) (Nat.le_of_ble_eq_true rfl) (Nat.le_of_ble_eq_true rfl) hk
set_option maxHeartbeats 4000000 in
set_option maxRecDepth 100000 in
theorem kx_X3_removeKey (l : Launch) (hf0 : l.stackTraces = false) (G : va_G) (g : Nat → ClassId) (ad : Nat → Nat) (bd : Nat → Nat → Nat) (sc : Int32) (tl : Int32) (tat : Int32) (tb : Nat → Int32) (cn : Nat → Int32) (cf : Nat → Nat → Int32) (sn : Nat → Nat → Int32) (sf : Nat → Nat → Nat → Int32) (tn : Int32) (tf : Nat → Int32) (vv : Nat → Int32) (ov : Nat → Int32) (p1 : Int32) (p2 : Int32) (nn : Nat) (hq : F_X3_removeKey bd sc cn cf sn sf p1 p2 = some (.inl nn)) : exC l yX3_removeKey wsX3_removeKey (rmX 7 111) G g [.ref (ad 0), .int p1, .int p2] (wX g ad bd sc tl tat tb cn cf sn sf tn tf vv ov) (exN nn) (fun w : va_W => w = (wX g ad bd sc tl tat tb cn cf sn sf tn tf vv ov)) := by
  refine exC.of (cc := cX3_removeKey) (maxL := 4) (ret := (some .int)) (by decide) rfl (Nat.le_of_ble_eq_true rfl) ?_
  intro p e s m below meth c ls A X K hA hP hD hS hs hne hl
  obtain ⟨hx, hb, hml, hr, hown, hts, hk⟩ := id X
  have hl : lv_has ls 4 [(0, .ref (ad 0)), (1, .int p1), (2, .int p2)] := hl
  have hP1 : (fun w : va_W => w = (wX g ad bd sc tl tat tb cn cf sn sf tn tf vv ov)) (wX g ad bd sc tl tat tb cn cf sn sf tn tf vv ov) := rfl
  unfold F_X3_removeKey at hq
  refine lv_aload_n hx hb dX3_removeKey_0 rfl (lv_at hl 0 rfl) ?_
  refine lv_iload_n hx hb dX3_removeKey_1 rfl (lv_at hl 1 rfl) ?_
  rcases q_thx hq with hh2 | ⟨r1, hh2, hq⟩
  · exact exV_call (ci := 3) (As := [.int p1]) (rest := []) X K (kx_X3_curveNumbered l hf0 G g ad bd sc tl tat tb cn cf sn sf tn tf vv ov p1 _ hh2) hd_X3_curveNumbered gX3_removeKey_X3_curveNumbered hP hD hS hA hs foc_id (fun w h => by subst h; exact hP1) hne hl.1 dX3_removeKey_2 rfl rfl ⟨Nat.le_of_ble_eq_true rfl, Nat.le_of_ble_eq_true rfl⟩ rfl rfl rfl (Nat.le_of_ble_eq_true rfl) ⟨Nat.le_of_ble_eq_true rfl, Nat.le_of_ble_eq_true rfl⟩ hk
  refine roV (ci := 3) (As := [.int p1]) (rest := []) X K (k_X3_curveNumbered l G g ad bd sc tl tat tb cn cf sn sf tn tf vv ov p1 _ hh2) hd_X3_curveNumbered gX3_removeKey_X3_curveNumbered hP hl.1 dX3_removeKey_2 rfl rfl ⟨Nat.le_of_ble_eq_true rfl, Nat.le_of_ble_eq_true rfl⟩ rfl rfl rfl (Nat.le_of_ble_eq_true rfl) ⟨Nat.zero_le _, Nat.zero_le _⟩ ?_
  have lr1 := F_X3_curveNumbered_lt hh2
  refine lv_astore_n (lv' := [(3, .ref (cad ad r1)), (0, .ref (ad 0)), (1, .int p1), (2, .int p2)]) hx hb dX3_removeKey_5 rfl hl (by decide) rfl (fun ls hl => ?_)
  refine lv_aload_n hx hb dX3_removeKey_6 rfl (lv_at hl 0 rfl) ?_
  refine lv_iload_n hx hb dX3_removeKey_7 rfl (lv_at hl 3 rfl) ?_
  rcases q_thx hq with hh3 | ⟨_, hh3, hq⟩
  · exact exS_call (As := [.ref (cad ad r1), .int p2]) (rest := []) X K (kx_X3_requireKey l hf0 G g (cad ad r1) (aad ad r1) (cn r1) (cf r1) p2 _ hh3) hd_X3_requireKey gX3_removeKey_X3_requireKey hP hD hS hA hs ((foc_c_X0_insert (n_cn := 0) (n_cf := fun _ => 0) lr1).same) (fun w h => by subst h; exact hP1) hne hl.1 dX3_removeKey_8 rfl rfl ⟨Nat.le_of_ble_eq_true rfl, Nat.le_of_ble_eq_true rfl⟩ rfl (Nat.le_of_ble_eq_true rfl) ⟨Nat.le_of_ble_eq_true rfl, Nat.le_of_ble_eq_true rfl⟩ hk
  refine roS (As := [.ref (cad ad r1), .int p2]) (rest := []) X K (k_X3_requireKey l G g (cad ad r1) (aad ad r1) (cn r1) (cf r1) p2 _ hh3) hd_X3_requireKey gX3_removeKey_X3_requireKey (sub_c lr1 hP) hl.1 dX3_removeKey_8 rfl rfl ⟨Nat.le_of_ble_eq_true rfl, Nat.le_of_ble_eq_true rfl⟩ rfl (Nat.le_of_ble_eq_true rfl) ⟨Nat.zero_le _, Nat.zero_le _⟩ ?_
  refine lv_aload_n hx hb dX3_removeKey_11 rfl (lv_at hl 0 rfl) ?_
  refine lv_iload_n hx hb dX3_removeKey_12 rfl (lv_at hl 3 rfl) ?_
  rcases q_thx hq with hh4 | ⟨_, hh4, hq⟩
  · exact exS_call (As := [.ref (cad ad r1), .int p2]) (rest := []) X K (kx_X3_requireUnlocked l hf0 G g (cad ad r1) (aad ad r1) (cn r1) (cf r1) p2 _ hh4) hd_X3_requireUnlocked gX3_removeKey_X3_requireUnlocked hP hD hS hA hs ((foc_c_X0_insert (n_cn := 0) (n_cf := fun _ => 0) lr1).same) (fun w h => by subst h; exact hP1) hne hl.1 dX3_removeKey_13 rfl rfl ⟨Nat.le_of_ble_eq_true rfl, Nat.le_of_ble_eq_true rfl⟩ rfl (Nat.le_of_ble_eq_true rfl) ⟨Nat.le_of_ble_eq_true rfl, Nat.le_of_ble_eq_true rfl⟩ hk
  refine roS (As := [.ref (cad ad r1), .int p2]) (rest := []) X K (k_X3_requireUnlocked l G g (cad ad r1) (aad ad r1) (cn r1) (cf r1) p2 _ hh4) hd_X3_requireUnlocked gX3_removeKey_X3_requireUnlocked (sub_c lr1 hP) hl.1 dX3_removeKey_13 rfl rfl ⟨Nat.le_of_ble_eq_true rfl, Nat.le_of_ble_eq_true rfl⟩ rfl (Nat.le_of_ble_eq_true rfl) ⟨Nat.zero_le _, Nat.zero_le _⟩ ?_
  refine lv_aload_n hx hb dX3_removeKey_16 rfl (lv_at hl 1 rfl) ?_
  obtain ⟨⟨y5, y6, y7, y8⟩, hh9, hq⟩ := q_bd hq
  refine rwVf (ci := 3) (As := []) (rest := []) X K (k_X3_saveState l G g ad bd sc tl tat tb cn cf sn sf tn tf vv ov _ hh9) hd_X3_saveState gX3_removeKey_X3_saveState hP hD hS hA foc_id hl.1 dX3_removeKey_17 rfl rfl ⟨Nat.le_of_ble_eq_true rfl, Nat.le_of_ble_eq_true rfl⟩ rfl rfl rfl (Nat.le_of_ble_eq_true rfl) ⟨Nat.zero_le _, Nat.zero_le _⟩ (fun H locs hP hD hS => ?_)
  have hP : va_P G vwCl (wX g ad y5 y6 tl tat tb cn cf y7 y8 tn tf vv ov) H := hP
  have hD : va_D A (wX g ad y5 y6 tl tat tb cn cf y7 y8 tn tf vv ov) := hD
  refine lv_aload_n hx hb dX3_removeKey_20 rfl (lv_at hl 0 rfl) ?_
  refine lv_iload_n hx hb dX3_removeKey_21 rfl (lv_at hl 3 rfl) ?_
  obtain ⟨⟨y11, y12⟩, hh13, hq⟩ := q_bd hq
  refine rwNf (ci := 0) (host := RX3) (As := [.int p2]) (rest := []) X K (k_X0_takeOut l G g (cad ad r1) (aad ad r1) (cn r1) (cf r1) p2 _ hh13) hd_X0_takeOut ggX3_removeKey_X0_takeOut (by decide +kernel) (List.mem_of_getElem? (i := 18) rfl) (List.mem_of_getElem? (i := 49) rfl) (List.mem_of_getElem? (i := 50) rfl) hP hD hS hA (foc_c_X0_takeOut lr1) hl.1 dX3_removeKey_22 rfl rfl ⟨Nat.le_of_ble_eq_true rfl, Nat.le_of_ble_eq_true rfl⟩ rfl rfl rfl (Nat.le_of_ble_eq_true rfl) ⟨Nat.zero_le _, Nat.zero_le _⟩ (fun H locs hP hD hS => ?_)
  obtain ⟨y15, ey15⟩ : ∃ y, y = vu cn r1 y11 := ⟨_, rfl⟩
  have hq := q_let hq ey15
  rw [← ey15] at hP hD
  obtain ⟨y16, ey16⟩ : ∃ y, y = vu cf r1 y12 := ⟨_, rfl⟩
  have hq := q_let hq ey16
  rw [← ey16] at hP hD
  have hP : va_P G vwCl (wX g ad y5 y6 tl tat tb y15 y16 y7 y8 tn tf vv ov) H := hP
  have hD : va_D A (wX g ad y5 y6 tl tat tb y15 y16 y7 y8 tn tf vv ov) := hD
  refine lv_aload_n hx hb dX3_removeKey_25 rfl (lv_at hl 0 rfl) ?_
  refine va_getN (D := G) (ci := 0) (v := .int (y15 r1)) (C := RX0) (T := TX0) (N := 2) (host := RX3) hx hb hts in_X3_removeKey_X0 hown K.1 (sub_c lr1 hP) 0 rfl rfl 0 (by decide) ((K.2.2 (RX3, 53, RX0, "count", "I", RX3) (by decide +kernel)).use rfl) (fun _ h9 => h9) rfl dX3_removeKey_26 ?_
  exact q_rl hq
set_option maxHeartbeats 4000000 in
set_option maxRecDepth 100000 in
theorem kx_X3_setKey (l : Launch) (hf0 : l.stackTraces = false) (G : va_G) (g : Nat → ClassId) (ad : Nat → Nat) (bd : Nat → Nat → Nat) (sc : Int32) (tl : Int32) (tat : Int32) (tb : Nat → Int32) (cn : Nat → Int32) (cf : Nat → Nat → Int32) (sn : Nat → Nat → Int32) (sf : Nat → Nat → Nat → Int32) (tn : Int32) (tf : Nat → Int32) (vv : Nat → Int32) (ov : Nat → Int32) (p1 : Int32) (p2 : Int32) (p3 : Int32) (p4 : Int32) (nn : Nat) (hq : F_X3_setKey bd sc cn cf sn sf p1 p2 p3 p4 = some (.inl nn)) : exC l yX3_setKey wsX3_setKey (rmX 7 112) G g [.ref (ad 0), .int p1, .int p2, .int p3, .int p4] (wX g ad bd sc tl tat tb cn cf sn sf tn tf vv ov) (exN nn) (fun w : va_W => w = (wX g ad bd sc tl tat tb cn cf sn sf tn tf vv ov)) := by
  refine exC.of (cc := cX3_setKey) (maxL := 7) (ret := (some .int)) (by decide) rfl (Nat.le_of_ble_eq_true rfl) ?_
  intro p e s m below meth c ls A X K hA hP hD hS hs hne hl
  obtain ⟨hx, hb, hml, hr, hown, hts, hk⟩ := id X
  have hl : lv_has ls 7 [(0, .ref (ad 0)), (1, .int p1), (2, .int p2), (3, .int p3), (4, .int p4)] := hl
  have hP1 : (fun w : va_W => w = (wX g ad bd sc tl tat tb cn cf sn sf tn tf vv ov)) (wX g ad bd sc tl tat tb cn cf sn sf tn tf vv ov) := rfl
  unfold F_X3_setKey at hq
  refine lv_aload_n hx hb dX3_setKey_0 rfl (lv_at hl 0 rfl) ?_
  refine lv_iload_n hx hb dX3_setKey_1 rfl (lv_at hl 1 rfl) ?_
  rcases q_thx hq with hh2 | ⟨r1, hh2, hq⟩
  · exact exV_call (ci := 3) (As := [.int p1]) (rest := []) X K (kx_X3_curveNumbered l hf0 G g ad bd sc tl tat tb cn cf sn sf tn tf vv ov p1 _ hh2) hd_X3_curveNumbered gX3_setKey_X3_curveNumbered hP hD hS hA hs foc_id (fun w h => by subst h; exact hP1) hne hl.1 dX3_setKey_2 rfl rfl ⟨Nat.le_of_ble_eq_true rfl, Nat.le_of_ble_eq_true rfl⟩ rfl rfl rfl (Nat.le_of_ble_eq_true rfl) ⟨Nat.le_of_ble_eq_true rfl, Nat.le_of_ble_eq_true rfl⟩ hk
  refine roV (ci := 3) (As := [.int p1]) (rest := []) X K (k_X3_curveNumbered l G g ad bd sc tl tat tb cn cf sn sf tn tf vv ov p1 _ hh2) hd_X3_curveNumbered gX3_setKey_X3_curveNumbered hP hl.1 dX3_setKey_2 rfl rfl ⟨Nat.le_of_ble_eq_true rfl, Nat.le_of_ble_eq_true rfl⟩ rfl rfl rfl (Nat.le_of_ble_eq_true rfl) ⟨Nat.zero_le _, Nat.zero_le _⟩ ?_
  have lr1 := F_X3_curveNumbered_lt hh2
  refine lv_astore (lv' := [(5, .ref (cad ad r1)), (0, .ref (ad 0)), (1, .int p1), (2, .int p2), (3, .int p3), (4, .int p4)]) hx hb dX3_setKey_5 hl (by decide) rfl (fun ls hl => ?_)
  refine lv_aload hx hb dX3_setKey_7 (lv_at hl 0 rfl) ?_
  refine lv_iload_n hx hb dX3_setKey_9 rfl (lv_at hl 3 rfl) ?_
  rcases q_thx hq with hh3 | ⟨_, hh3, hq⟩
  · exact exS_call (As := [.ref (cad ad r1), .int p2]) (rest := []) X K (kx_X3_requireKey l hf0 G g (cad ad r1) (aad ad r1) (cn r1) (cf r1) p2 _ hh3) hd_X3_requireKey gX3_setKey_X3_requireKey hP hD hS hA hs ((foc_c_X0_insert (n_cn := 0) (n_cf := fun _ => 0) lr1).same) (fun w h => by subst h; exact hP1) hne hl.1 dX3_setKey_10 rfl rfl ⟨Nat.le_of_ble_eq_true rfl, Nat.le_of_ble_eq_true rfl⟩ rfl (Nat.le_of_ble_eq_true rfl) ⟨Nat.le_of_ble_eq_true rfl, Nat.le_of_ble_eq_true rfl⟩ hk
  refine roS (As := [.ref (cad ad r1), .int p2]) (rest := []) X K (k_X3_requireKey l G g (cad ad r1) (aad ad r1) (cn r1) (cf r1) p2 _ hh3) hd_X3_requireKey gX3_setKey_X3_requireKey (sub_c lr1 hP) hl.1 dX3_setKey_10 rfl rfl ⟨Nat.le_of_ble_eq_true rfl, Nat.le_of_ble_eq_true rfl⟩ rfl (Nat.le_of_ble_eq_true rfl) ⟨Nat.zero_le _, Nat.zero_le _⟩ ?_
  refine lv_iload_n hx hb dX3_setKey_13 rfl (lv_at hl 4 rfl) ?_
  refine lv_sipush (v := (-9999)) hx hb dX3_setKey_14 (by decide) ?_
  refine lv_sipush (v := 9999) hx hb dX3_setKey_17 (by decide) ?_
  rcases q_thx hq with hh4 | ⟨_, hh4, hq⟩
  · exact exS_call (As := [.int p3, .int (-9999), .int 9999]) (rest := []) X K (kx_X3_requireRange l hf0 G g p3 (-9999) 9999 _ hh4) hd_X3_requireRange gX3_setKey_X3_requireRange hP hD hS hA hs foc_nil (fun w h => by subst h; exact hP1) hne hl.1 dX3_setKey_20 rfl rfl ⟨Nat.le_of_ble_eq_true rfl, Nat.le_of_ble_eq_true rfl⟩ rfl (Nat.le_of_ble_eq_true rfl) ⟨Nat.le_of_ble_eq_true rfl, Nat.le_of_ble_eq_true rfl⟩ hk
  refine roS (As := [.int p3, .int (-9999), .int 9999]) (rest := []) X K (k_X3_requireRange l G g p3 (-9999) 9999 _ hh4) hd_X3_requireRange gX3_setKey_X3_requireRange (va_P.none G) hl.1 dX3_setKey_20 rfl rfl ⟨Nat.le_of_ble_eq_true rfl, Nat.le_of_ble_eq_true rfl⟩ rfl (Nat.le_of_ble_eq_true rfl) ⟨Nat.zero_le _, Nat.zero_le _⟩ ?_
  refine lv_iload hx hb dX3_setKey_23 (lv_at hl 5 rfl) ?_
  refine lv_iconst (v := 0) hx hb dX3_setKey_25 (by decide) ?_
  refine lv_iconst (v := 5) hx hb dX3_setKey_26 (by decide) ?_
  rcases q_thx hq with hh5 | ⟨_, hh5, hq⟩
  · exact exS_call (As := [.int p4, .int 0, .int 5]) (rest := []) X K (kx_X3_requireRange l hf0 G g p4 0 5 _ hh5) hd_X3_requireRange gX3_setKey_X3_requireRange hP hD hS hA hs foc_nil (fun w h => by subst h; exact hP1) hne hl.1 dX3_setKey_27 rfl rfl ⟨Nat.le_of_ble_eq_true rfl, Nat.le_of_ble_eq_true rfl⟩ rfl (Nat.le_of_ble_eq_true rfl) ⟨Nat.le_of_ble_eq_true rfl, Nat.le_of_ble_eq_true rfl⟩ hk
  refine roS (As := [.int p4, .int 0, .int 5]) (rest := []) X K (k_X3_requireRange l G g p4 0 5 _ hh5) hd_X3_requireRange gX3_setKey_X3_requireRange (va_P.none G) hl.1 dX3_setKey_27 rfl rfl ⟨Nat.le_of_ble_eq_true rfl, Nat.le_of_ble_eq_true rfl⟩ rfl (Nat.le_of_ble_eq_true rfl) ⟨Nat.zero_le _, Nat.zero_le _⟩ ?_
  refine lv_aload hx hb dX3_setKey_30 (lv_at hl 0 rfl) ?_
  refine lv_iload_n hx hb dX3_setKey_32 rfl (lv_at hl 3 rfl) ?_
  rcases q_thx hq with hh6 | ⟨_, hh6, hq⟩
  · exact exS_call (As := [.ref (cad ad r1), .int p2]) (rest := []) X K (kx_X3_requireUnlocked l hf0 G g (cad ad r1) (aad ad r1) (cn r1) (cf r1) p2 _ hh6) hd_X3_requireUnlocked gX3_setKey_X3_requireUnlocked hP hD hS hA hs ((foc_c_X0_insert (n_cn := 0) (n_cf := fun _ => 0) lr1).same) (fun w h => by subst h; exact hP1) hne hl.1 dX3_setKey_33 rfl rfl ⟨Nat.le_of_ble_eq_true rfl, Nat.le_of_ble_eq_true rfl⟩ rfl (Nat.le_of_ble_eq_true rfl) ⟨Nat.le_of_ble_eq_true rfl, Nat.le_of_ble_eq_true rfl⟩ hk
  refine roS (As := [.ref (cad ad r1), .int p2]) (rest := []) X K (k_X3_requireUnlocked l G g (cad ad r1) (aad ad r1) (cn r1) (cf r1) p2 _ hh6) hd_X3_requireUnlocked gX3_setKey_X3_requireUnlocked (sub_c lr1 hP) hl.1 dX3_setKey_33 rfl rfl ⟨Nat.le_of_ble_eq_true rfl, Nat.le_of_ble_eq_true rfl⟩ rfl (Nat.le_of_ble_eq_true rfl) ⟨Nat.zero_le _, Nat.zero_le _⟩ ?_
  refine lv_aload_n hx hb dX3_setKey_36 rfl (lv_at hl 1 rfl) ?_
  obtain ⟨⟨y7, y8, y9, y10⟩, hh11, hq⟩ := q_bd hq
  refine rwVf (ci := 3) (As := []) (rest := []) X K (k_X3_saveState l G g ad bd sc tl tat tb cn cf sn sf tn tf vv ov _ hh11) hd_X3_saveState gX3_setKey_X3_saveState hP hD hS hA foc_id hl.1 dX3_setKey_37 rfl rfl ⟨Nat.le_of_ble_eq_true rfl, Nat.le_of_ble_eq_true rfl⟩ rfl rfl rfl (Nat.le_of_ble_eq_true rfl) ⟨Nat.zero_le _, Nat.zero_le _⟩ (fun H locs hP hD hS => ?_)
  have hP : va_P G vwCl (wX g ad y7 y8 tl tat tb cn cf y9 y10 tn tf vv ov) H := hP
  have hD : va_D A (wX g ad y7 y8 tl tat tb cn cf y9 y10 tn tf vv ov) := hD
  refine lv_aload hx hb dX3_setKey_40 (lv_at hl 0 rfl) ?_
  refine lv_iload_n hx hb dX3_setKey_42 rfl (lv_at hl 3 rfl) ?_
  refine lv_iconst (v := 1) hx hb dX3_setKey_43 (by decide) ?_
  obtain ⟨r13, hh14, hq⟩ := q_bd hq
  refine roN (ci := 0) (host := RX3) (As := [.int p2, .int 1]) (rest := []) X K (k_X0_cell l G g (cad ad r1) (aad ad r1) (cn r1) (cf r1) p2 1 _ hh14) hd_X0_cell ggX3_setKey_X0_cell (by decide +kernel) (List.mem_of_getElem? (i := 23) rfl) (List.mem_of_getElem? (i := 27) rfl) (List.mem_of_getElem? (i := 28) rfl) (sub_c lr1 hP) hl.1 dX3_setKey_44 rfl rfl ⟨Nat.le_of_ble_eq_true rfl, Nat.le_of_ble_eq_true rfl⟩ rfl rfl rfl (Nat.le_of_ble_eq_true rfl) ⟨Nat.zero_le _, Nat.zero_le _⟩ ?_
  refine lv_istore (lv' := [(6, .int r13), (5, .ref (cad ad r1)), (0, .ref (ad 0)), (1, .int p1), (2, .int p2), (3, .int p3), (4, .int p4)]) hx hb dX3_setKey_47 hl (by decide) rfl (fun ls hl => ?_)
  refine lv_aload hx hb dX3_setKey_49 (lv_at hl 1 rfl) ?_
  refine lv_iload_n hx hb dX3_setKey_51 rfl (lv_at hl 4 rfl) ?_
  refine lv_iconst (v := 1) hx hb dX3_setKey_52 (by decide) ?_
  refine lv_iload_n hx hb dX3_setKey_53 rfl (lv_at hl 5 rfl) ?_
  obtain ⟨y15, hh16, hq⟩ := q_bd hq
  refine rwNf (ci := 0) (host := RX3) (As := [.int p2, .int 1, .int p3]) (rest := []) X K (k_X0_put l G g (cad ad r1) (aad ad r1) (cn r1) (cf r1) p2 1 p3 _ hh16) hd_X0_put ggX3_setKey_X0_put (by decide +kernel) (List.mem_of_getElem? (i := 23) rfl) (List.mem_of_getElem? (i := 54) rfl) (List.mem_of_getElem? (i := 55) rfl) hP hD hS hA (foc_c_X0_put lr1) hl.1 dX3_setKey_54 rfl rfl ⟨Nat.le_of_ble_eq_true rfl, Nat.le_of_ble_eq_true rfl⟩ rfl rfl rfl (Nat.le_of_ble_eq_true rfl) ⟨Nat.zero_le _, Nat.zero_le _⟩ (fun H locs hP hD hS => ?_)
  obtain ⟨y17, ey17⟩ : ∃ y, y = vu cf r1 y15 := ⟨_, rfl⟩
  have hq := q_let hq ey17
  rw [← ey17] at hP hD
  have hP : va_P G vwCl (wX g ad y7 y8 tl tat tb cn y17 y9 y10 tn tf vv ov) H := hP
  have hD : va_D A (wX g ad y7 y8 tl tat tb cn y17 y9 y10 tn tf vv ov) := hD
  refine lv_aload hx hb dX3_setKey_57 (lv_at hl 1 rfl) ?_
  refine lv_iload_n hx hb dX3_setKey_59 rfl (lv_at hl 4 rfl) ?_
  refine lv_iconst (v := 2) hx hb dX3_setKey_60 (by decide) ?_
  refine lv_iload hx hb dX3_setKey_61 (lv_at hl 6 rfl) ?_
  obtain ⟨y18, hh19, hq⟩ := q_bd hq
  refine rwNf (ci := 0) (host := RX3) (As := [.int p2, .int 2, .int p4]) (rest := []) X K (k_X0_put l G g (cad ad r1) (aad ad r1) (cn r1) (y17 r1) p2 2 p4 _ hh19) hd_X0_put ggX3_setKey_X0_put (by decide +kernel) (List.mem_of_getElem? (i := 23) rfl) (List.mem_of_getElem? (i := 54) rfl) (List.mem_of_getElem? (i := 55) rfl) hP hD hS hA (foc_c_X0_put lr1) hl.1 dX3_setKey_63 rfl rfl ⟨Nat.le_of_ble_eq_true rfl, Nat.le_of_ble_eq_true rfl⟩ rfl rfl rfl (Nat.le_of_ble_eq_true rfl) ⟨Nat.zero_le _, Nat.zero_le _⟩ (fun H locs hP hD hS => ?_)
  obtain ⟨y20, ey20⟩ : ∃ y, y = vu y17 r1 y18 := ⟨_, rfl⟩
  have hq := q_let hq ey20
  rw [← ey20] at hP hD
  have hP : va_P G vwCl (wX g ad y7 y8 tl tat tb cn y20 y9 y10 tn tf vv ov) H := hP
  have hD : va_D A (wX g ad y7 y8 tl tat tb cn y20 y9 y10 tn tf vv ov) := hD
  refine lv_iload hx hb dX3_setKey_66 (lv_at hl 0 rfl) ?_
  exact q_rl hq
set_option maxHeartbeats 4000000 in
set_option maxRecDepth 100000 in
theorem kx_X3_moveKey (l : Launch) (hf0 : l.stackTraces = false) (G : va_G) (g : Nat → ClassId) (ad : Nat → Nat) (bd : Nat → Nat → Nat) (sc : Int32) (tl : Int32) (tat : Int32) (tb : Nat → Int32) (cn : Nat → Int32) (cf : Nat → Nat → Int32) (sn : Nat → Nat → Int32) (sf : Nat → Nat → Nat → Int32) (tn : Int32) (tf : Nat → Int32) (vv : Nat → Int32) (ov : Nat → Int32) (p1 : Int32) (p2 : Int32) (p3 : Int32) (nn : Nat) (hq : F_X3_moveKey bd sc cn cf sn sf p1 p2 p3 = some (.inl nn)) : exC l yX3_moveKey wsX3_moveKey (rmX 7 112) G g [.ref (ad 0), .int p1, .int p2, .int p3] (wX g ad bd sc tl tat tb cn cf sn sf tn tf vv ov) (exN nn) (fun w : va_W => w = (wX g ad bd sc tl tat tb cn cf sn sf tn tf vv ov)) := by
  refine exC.of (cc := cX3_moveKey) (maxL := 6) (ret := (some .int)) (by decide) rfl (Nat.le_of_ble_eq_true rfl) ?_
  intro p e s m below meth c ls A X K hA hP hD hS hs hne hl
  obtain ⟨hx, hb, hml, hr, hown, hts, hk⟩ := id X
  have hl : lv_has ls 6 [(0, .ref (ad 0)), (1, .int p1), (2, .int p2), (3, .int p3)] := hl
  have hP1 : (fun w : va_W => w = (wX g ad bd sc tl tat tb cn cf sn sf tn tf vv ov)) (wX g ad bd sc tl tat tb cn cf sn sf tn tf vv ov) := rfl
  unfold F_X3_moveKey at hq
  refine lv_aload_n hx hb dX3_moveKey_0 rfl (lv_at hl 0 rfl) ?_
  refine lv_iload_n hx hb dX3_moveKey_1 rfl (lv_at hl 1 rfl) ?_
  rcases q_thx hq with hh2 | ⟨r1, hh2, hq⟩
  · exact exV_call (ci := 3) (As := [.int p1]) (rest := []) X K (kx_X3_curveNumbered l hf0 G g ad bd sc tl tat tb cn cf sn sf tn tf vv ov p1 _ hh2) hd_X3_curveNumbered gX3_moveKey_X3_curveNumbered hP hD hS hA hs foc_id (fun w h => by subst h; exact hP1) hne hl.1 dX3_moveKey_2 rfl rfl ⟨Nat.le_of_ble_eq_true rfl, Nat.le_of_ble_eq_true rfl⟩ rfl rfl rfl (Nat.le_of_ble_eq_true rfl) ⟨Nat.le_of_ble_eq_true rfl, Nat.le_of_ble_eq_true rfl⟩ hk
  refine roV (ci := 3) (As := [.int p1]) (rest := []) X K (k_X3_curveNumbered l G g ad bd sc tl tat tb cn cf sn sf tn tf vv ov p1 _ hh2) hd_X3_curveNumbered gX3_moveKey_X3_curveNumbered hP hl.1 dX3_moveKey_2 rfl rfl ⟨Nat.le_of_ble_eq_true rfl, Nat.le_of_ble_eq_true rfl⟩ rfl rfl rfl (Nat.le_of_ble_eq_true rfl) ⟨Nat.zero_le _, Nat.zero_le _⟩ ?_
  have lr1 := F_X3_curveNumbered_lt hh2
  refine lv_astore (lv' := [(4, .ref (cad ad r1)), (0, .ref (ad 0)), (1, .int p1), (2, .int p2), (3, .int p3)]) hx hb dX3_moveKey_5 hl (by decide) rfl (fun ls hl => ?_)
  refine lv_aload hx hb dX3_moveKey_7 (lv_at hl 0 rfl) ?_
  refine lv_iload_n hx hb dX3_moveKey_9 rfl (lv_at hl 3 rfl) ?_
  rcases q_thx hq with hh3 | ⟨_, hh3, hq⟩
  · exact exS_call (As := [.ref (cad ad r1), .int p2]) (rest := []) X K (kx_X3_requireKey l hf0 G g (cad ad r1) (aad ad r1) (cn r1) (cf r1) p2 _ hh3) hd_X3_requireKey gX3_moveKey_X3_requireKey hP hD hS hA hs ((foc_c_X0_insert (n_cn := 0) (n_cf := fun _ => 0) lr1).same) (fun w h => by subst h; exact hP1) hne hl.1 dX3_moveKey_10 rfl rfl ⟨Nat.le_of_ble_eq_true rfl, Nat.le_of_ble_eq_true rfl⟩ rfl (Nat.le_of_ble_eq_true rfl) ⟨Nat.le_of_ble_eq_true rfl, Nat.le_of_ble_eq_true rfl⟩ hk
  refine roS (As := [.ref (cad ad r1), .int p2]) (rest := []) X K (k_X3_requireKey l G g (cad ad r1) (aad ad r1) (cn r1) (cf r1) p2 _ hh3) hd_X3_requireKey gX3_moveKey_X3_requireKey (sub_c lr1 hP) hl.1 dX3_moveKey_10 rfl rfl ⟨Nat.le_of_ble_eq_true rfl, Nat.le_of_ble_eq_true rfl⟩ rfl (Nat.le_of_ble_eq_true rfl) ⟨Nat.zero_le _, Nat.zero_le _⟩ ?_
  refine lv_iload_n hx hb dX3_moveKey_13 rfl (lv_at hl 4 rfl) ?_
  refine lv_iconst (v := 0) hx hb dX3_moveKey_14 (by decide) ?_
  refine lv_sipush (v := 999) hx hb dX3_moveKey_15 (by decide) ?_
  rcases q_thx hq with hh4 | ⟨_, hh4, hq⟩
  · exact exS_call (As := [.int p3, .int 0, .int 999]) (rest := []) X K (kx_X3_requireRange l hf0 G g p3 0 999 _ hh4) hd_X3_requireRange gX3_moveKey_X3_requireRange hP hD hS hA hs foc_nil (fun w h => by subst h; exact hP1) hne hl.1 dX3_moveKey_18 rfl rfl ⟨Nat.le_of_ble_eq_true rfl, Nat.le_of_ble_eq_true rfl⟩ rfl (Nat.le_of_ble_eq_true rfl) ⟨Nat.le_of_ble_eq_true rfl, Nat.le_of_ble_eq_true rfl⟩ hk
  refine roS (As := [.int p3, .int 0, .int 999]) (rest := []) X K (k_X3_requireRange l G g p3 0 999 _ hh4) hd_X3_requireRange gX3_moveKey_X3_requireRange (va_P.none G) hl.1 dX3_moveKey_18 rfl rfl ⟨Nat.le_of_ble_eq_true rfl, Nat.le_of_ble_eq_true rfl⟩ rfl (Nat.le_of_ble_eq_true rfl) ⟨Nat.zero_le _, Nat.zero_le _⟩ ?_
  refine lv_aload hx hb dX3_moveKey_21 (lv_at hl 0 rfl) ?_
  refine lv_iload_n hx hb dX3_moveKey_23 rfl (lv_at hl 3 rfl) ?_
  rcases q_thx hq with hh5 | ⟨_, hh5, hq⟩
  · exact exS_call (As := [.ref (cad ad r1), .int p2]) (rest := []) X K (kx_X3_requireUnlocked l hf0 G g (cad ad r1) (aad ad r1) (cn r1) (cf r1) p2 _ hh5) hd_X3_requireUnlocked gX3_moveKey_X3_requireUnlocked hP hD hS hA hs ((foc_c_X0_insert (n_cn := 0) (n_cf := fun _ => 0) lr1).same) (fun w h => by subst h; exact hP1) hne hl.1 dX3_moveKey_24 rfl rfl ⟨Nat.le_of_ble_eq_true rfl, Nat.le_of_ble_eq_true rfl⟩ rfl (Nat.le_of_ble_eq_true rfl) ⟨Nat.le_of_ble_eq_true rfl, Nat.le_of_ble_eq_true rfl⟩ hk
  refine roS (As := [.ref (cad ad r1), .int p2]) (rest := []) X K (k_X3_requireUnlocked l G g (cad ad r1) (aad ad r1) (cn r1) (cf r1) p2 _ hh5) hd_X3_requireUnlocked gX3_moveKey_X3_requireUnlocked (sub_c lr1 hP) hl.1 dX3_moveKey_24 rfl rfl ⟨Nat.le_of_ble_eq_true rfl, Nat.le_of_ble_eq_true rfl⟩ rfl (Nat.le_of_ble_eq_true rfl) ⟨Nat.zero_le _, Nat.zero_le _⟩ ?_
  refine lv_aload hx hb dX3_moveKey_27 (lv_at hl 0 rfl) ?_
  refine lv_iload_n hx hb dX3_moveKey_29 rfl (lv_at hl 4 rfl) ?_
  obtain ⟨r6, hh7, hq⟩ := q_bd hq
  refine roN (ci := 0) (host := RX3) (As := [.int p3]) (rest := []) X K (k_X0_numberAtFrame l G g (cad ad r1) (aad ad r1) (cn r1) (cf r1) p3 _ hh7) hd_X0_numberAtFrame ggX3_moveKey_X0_numberAtFrame (by decide +kernel) (List.mem_of_getElem? (i := 23) rfl) (List.mem_of_getElem? (i := 32) rfl) (List.mem_of_getElem? (i := 33) rfl) (sub_c lr1 hP) hl.1 dX3_moveKey_30 rfl rfl ⟨Nat.le_of_ble_eq_true rfl, Nat.le_of_ble_eq_true rfl⟩ rfl rfl rfl (Nat.le_of_ble_eq_true rfl) ⟨Nat.zero_le _, Nat.zero_le _⟩ ?_
  refine lv_istore (lv' := [(5, .int r6), (4, .ref (cad ad r1)), (0, .ref (ad 0)), (1, .int p1), (2, .int p2), (3, .int p3)]) hx hb dX3_moveKey_33 hl (by decide) rfl (fun ls hl => ?_)
  refine lv_iload hx hb dX3_moveKey_35 (lv_at hl 0 rfl) ?_
  refine lv_iconst (v := (-1)) hx hb dX3_moveKey_37 (by decide) ?_
  refine lv_icmp_eq (tgt := 57) hx hb dX3_moveKey_38 (by decide) (fun c8 => ?_) (fun c8 => ?_)
  · have hq := q_if_t hq c8
    refine lv_aload_n hx hb dX3_moveKey_57 rfl (lv_at hl 2 rfl) ?_
    obtain ⟨⟨y9, y10, y11, y12⟩, hh13, hq⟩ := q_bd hq
    refine rwVf (ci := 3) (As := []) (rest := []) X K (k_X3_saveState l G g ad bd sc tl tat tb cn cf sn sf tn tf vv ov _ hh13) hd_X3_saveState gX3_moveKey_X3_saveState hP hD hS hA foc_id hl.1 dX3_moveKey_58 rfl rfl ⟨Nat.le_of_ble_eq_true rfl, Nat.le_of_ble_eq_true rfl⟩ rfl rfl rfl (Nat.le_of_ble_eq_true rfl) ⟨Nat.zero_le _, Nat.zero_le _⟩ (fun H locs hP hD hS => ?_)
    have hP : va_P G vwCl (wX g ad y9 y10 tl tat tb cn cf y11 y12 tn tf vv ov) H := hP
    have hD : va_D A (wX g ad y9 y10 tl tat tb cn cf y11 y12 tn tf vv ov) := hD
    refine lv_aload hx hb dX3_moveKey_61 (lv_at hl 1 rfl) ?_
    refine lv_iload_n hx hb dX3_moveKey_63 rfl (lv_at hl 4 rfl) ?_
    refine lv_iload_n hx hb dX3_moveKey_64 rfl (lv_at hl 5 rfl) ?_
    obtain ⟨⟨r15, y16, y17⟩, hh18, hq⟩ := q_bd hq
    refine rwNf (ci := 0) (host := RX3) (As := [.int p2, .int p3]) (rest := []) X K (k_X0_moveTo l G g (cad ad r1) (aad ad r1) (cn r1) (cf r1) p2 p3 _ hh18) hd_X0_moveTo ggX3_moveKey_X0_moveTo (by decide +kernel) (List.mem_of_getElem? (i := 23) rfl) (List.mem_of_getElem? (i := 61) rfl) (List.mem_of_getElem? (i := 62) rfl) hP hD hS hA (foc_c_X0_moveTo lr1) hl.1 dX3_moveKey_65 rfl rfl ⟨Nat.le_of_ble_eq_true rfl, Nat.le_of_ble_eq_true rfl⟩ rfl rfl rfl (Nat.le_of_ble_eq_true rfl) ⟨Nat.zero_le _, Nat.zero_le _⟩ (fun H locs hP hD hS => ?_)
    obtain ⟨y20, ey20⟩ : ∃ y, y = vu cn r1 y16 := ⟨_, rfl⟩
    have hq := q_let hq ey20
    rw [← ey20] at hP hD
    obtain ⟨y21, ey21⟩ : ∃ y, y = vu cf r1 y17 := ⟨_, rfl⟩
    have hq := q_let hq ey21
    rw [← ey21] at hP hD
    have hP : va_P G vwCl (wX g ad y9 y10 tl tat tb y20 y21 y11 y12 tn tf vv ov) H := hP
    have hD : va_D A (wX g ad y9 y10 tl tat tb y20 y21 y11 y12 tn tf vv ov) := hD
    exact q_rl hq
  · have hq := q_if_f hq c8
    refine lv_iload hx hb dX3_moveKey_41 (lv_at hl 0 rfl) ?_
    refine lv_iload_n hx hb dX3_moveKey_43 rfl (lv_at hl 4 rfl) ?_
    refine lv_icmp_eq (tgt := 57) hx hb dX3_moveKey_44 (by decide) (fun c22 => ?_) (fun c22 => ?_)
    · have hq := q_if_t hq c22
      refine lv_aload_n hx hb dX3_moveKey_57 rfl (lv_at hl 2 rfl) ?_
      obtain ⟨⟨y23, y24, y25, y26⟩, hh27, hq⟩ := q_bd hq
      refine rwVf (ci := 3) (As := []) (rest := []) X K (k_X3_saveState l G g ad bd sc tl tat tb cn cf sn sf tn tf vv ov _ hh27) hd_X3_saveState gX3_moveKey_X3_saveState hP hD hS hA foc_id hl.1 dX3_moveKey_58 rfl rfl ⟨Nat.le_of_ble_eq_true rfl, Nat.le_of_ble_eq_true rfl⟩ rfl rfl rfl (Nat.le_of_ble_eq_true rfl) ⟨Nat.zero_le _, Nat.zero_le _⟩ (fun H locs hP hD hS => ?_)
      have hP : va_P G vwCl (wX g ad y23 y24 tl tat tb cn cf y25 y26 tn tf vv ov) H := hP
      have hD : va_D A (wX g ad y23 y24 tl tat tb cn cf y25 y26 tn tf vv ov) := hD
      refine lv_aload hx hb dX3_moveKey_61 (lv_at hl 1 rfl) ?_
      refine lv_iload_n hx hb dX3_moveKey_63 rfl (lv_at hl 4 rfl) ?_
      refine lv_iload_n hx hb dX3_moveKey_64 rfl (lv_at hl 5 rfl) ?_
      obtain ⟨⟨r29, y30, y31⟩, hh32, hq⟩ := q_bd hq
      refine rwNf (ci := 0) (host := RX3) (As := [.int p2, .int p3]) (rest := []) X K (k_X0_moveTo l G g (cad ad r1) (aad ad r1) (cn r1) (cf r1) p2 p3 _ hh32) hd_X0_moveTo ggX3_moveKey_X0_moveTo (by decide +kernel) (List.mem_of_getElem? (i := 23) rfl) (List.mem_of_getElem? (i := 61) rfl) (List.mem_of_getElem? (i := 62) rfl) hP hD hS hA (foc_c_X0_moveTo lr1) hl.1 dX3_moveKey_65 rfl rfl ⟨Nat.le_of_ble_eq_true rfl, Nat.le_of_ble_eq_true rfl⟩ rfl rfl rfl (Nat.le_of_ble_eq_true rfl) ⟨Nat.zero_le _, Nat.zero_le _⟩ (fun H locs hP hD hS => ?_)
      obtain ⟨y34, ey34⟩ : ∃ y, y = vu cn r1 y30 := ⟨_, rfl⟩
      have hq := q_let hq ey34
      rw [← ey34] at hP hD
      obtain ⟨y35, ey35⟩ : ∃ y, y = vu cf r1 y31 := ⟨_, rfl⟩
      have hq := q_let hq ey35
      rw [← ey35] at hP hD
      have hP : va_P G vwCl (wX g ad y23 y24 tl tat tb y34 y35 y25 y26 tn tf vv ov) H := hP
      have hD : va_D A (wX g ad y23 y24 tl tat tb y34 y35 y25 y26 tn tf vv ov) := hD
      exact q_rl hq
    · have hq := q_if_f hq c22
      obtain rfl := q_li hq
      exact ex_throw (is := 94) (text := "another key has this frame") X hf0 ex_c3 (hts _ (List.mem_of_getElem? (i := 1) rfl)) (hts _ (List.mem_of_getElem? (i := 2) rfl)) (fun w h => hts w (List.mem_cons_of_mem _ (List.mem_append_left _ (List.mem_append_left _ (List.mem_append_right _ h))))) hs (by decide +kernel) hne hP hD hS (by rw [hml]; exact hl.1) hP1 dX3_moveKey_47 dX3_moveKey_50 dX3_moveKey_51 dX3_moveKey_53 dX3_moveKey_56 (Nat.le_of_ble_eq_true rfl) (Nat.le_of_ble_eq_true rfl) (Nat.le_of_ble_eq_true rfl) (Nat.le_of_ble_eq_true rfl) hk
set_option maxHeartbeats 4000000 in
set_option maxRecDepth 100000 in
theorem kx_X3_setTangent (l : Launch) (hf0 : l.stackTraces = false) (G : va_G) (g : Nat → ClassId) (ad : Nat → Nat) (bd : Nat → Nat → Nat) (sc : Int32) (tl : Int32) (tat : Int32) (tb : Nat → Int32) (cn : Nat → Int32) (cf : Nat → Nat → Int32) (sn : Nat → Nat → Int32) (sf : Nat → Nat → Nat → Int32) (tn : Int32) (tf : Nat → Int32) (vv : Nat → Int32) (ov : Nat → Int32) (p1 : Int32) (p2 : Int32) (p3 : Int32) (p4 : Int32) (nn : Nat) (hq : F_X3_setTangent bd sc cn cf sn sf p1 p2 p3 p4 = some (.inl nn)) : exC l yX3_setTangent wsX3_setTangent (rmX 7 112) G g [.ref (ad 0), .int p1, .int p2, .int p3, .int p4] (wX g ad bd sc tl tat tb cn cf sn sf tn tf vv ov) (exN nn) (fun w : va_W => w = (wX g ad bd sc tl tat tb cn cf sn sf tn tf vv ov)) := by
  refine exC.of (cc := cX3_setTangent) (maxL := 7) (ret := (some .int)) (by decide) rfl (Nat.le_of_ble_eq_true rfl) ?_
  intro p e s m below meth c ls A X K hA hP hD hS hs hne hl
  obtain ⟨hx, hb, hml, hr, hown, hts, hk⟩ := id X
  have hl : lv_has ls 7 [(0, .ref (ad 0)), (1, .int p1), (2, .int p2), (3, .int p3), (4, .int p4)] := hl
  have hP1 : (fun w : va_W => w = (wX g ad bd sc tl tat tb cn cf sn sf tn tf vv ov)) (wX g ad bd sc tl tat tb cn cf sn sf tn tf vv ov) := rfl
  unfold F_X3_setTangent at hq
  refine lv_aload_n hx hb dX3_setTangent_0 rfl (lv_at hl 0 rfl) ?_
  refine lv_iload_n hx hb dX3_setTangent_1 rfl (lv_at hl 1 rfl) ?_
  rcases q_thx hq with hh2 | ⟨r1, hh2, hq⟩
  · exact exV_call (ci := 3) (As := [.int p1]) (rest := []) X K (kx_X3_curveNumbered l hf0 G g ad bd sc tl tat tb cn cf sn sf tn tf vv ov p1 _ hh2) hd_X3_curveNumbered gX3_setTangent_X3_curveNumbered hP hD hS hA hs foc_id (fun w h => by subst h; exact hP1) hne hl.1 dX3_setTangent_2 rfl rfl ⟨Nat.le_of_ble_eq_true rfl, Nat.le_of_ble_eq_true rfl⟩ rfl rfl rfl (Nat.le_of_ble_eq_true rfl) ⟨Nat.le_of_ble_eq_true rfl, Nat.le_of_ble_eq_true rfl⟩ hk
  refine roV (ci := 3) (As := [.int p1]) (rest := []) X K (k_X3_curveNumbered l G g ad bd sc tl tat tb cn cf sn sf tn tf vv ov p1 _ hh2) hd_X3_curveNumbered gX3_setTangent_X3_curveNumbered hP hl.1 dX3_setTangent_2 rfl rfl ⟨Nat.le_of_ble_eq_true rfl, Nat.le_of_ble_eq_true rfl⟩ rfl rfl rfl (Nat.le_of_ble_eq_true rfl) ⟨Nat.zero_le _, Nat.zero_le _⟩ ?_
  have lr1 := F_X3_curveNumbered_lt hh2
  refine lv_astore (lv' := [(5, .ref (cad ad r1)), (0, .ref (ad 0)), (1, .int p1), (2, .int p2), (3, .int p3), (4, .int p4)]) hx hb dX3_setTangent_5 hl (by decide) rfl (fun ls hl => ?_)
  refine lv_aload hx hb dX3_setTangent_7 (lv_at hl 0 rfl) ?_
  refine lv_iload_n hx hb dX3_setTangent_9 rfl (lv_at hl 3 rfl) ?_
  rcases q_thx hq with hh3 | ⟨_, hh3, hq⟩
  · exact exS_call (As := [.ref (cad ad r1), .int p2]) (rest := []) X K (kx_X3_requireKey l hf0 G g (cad ad r1) (aad ad r1) (cn r1) (cf r1) p2 _ hh3) hd_X3_requireKey gX3_setTangent_X3_requireKey hP hD hS hA hs ((foc_c_X0_insert (n_cn := 0) (n_cf := fun _ => 0) lr1).same) (fun w h => by subst h; exact hP1) hne hl.1 dX3_setTangent_10 rfl rfl ⟨Nat.le_of_ble_eq_true rfl, Nat.le_of_ble_eq_true rfl⟩ rfl (Nat.le_of_ble_eq_true rfl) ⟨Nat.le_of_ble_eq_true rfl, Nat.le_of_ble_eq_true rfl⟩ hk
  refine roS (As := [.ref (cad ad r1), .int p2]) (rest := []) X K (k_X3_requireKey l G g (cad ad r1) (aad ad r1) (cn r1) (cf r1) p2 _ hh3) hd_X3_requireKey gX3_setTangent_X3_requireKey (sub_c lr1 hP) hl.1 dX3_setTangent_10 rfl rfl ⟨Nat.le_of_ble_eq_true rfl, Nat.le_of_ble_eq_true rfl⟩ rfl (Nat.le_of_ble_eq_true rfl) ⟨Nat.zero_le _, Nat.zero_le _⟩ ?_
  refine lv_iload_n hx hb dX3_setTangent_13 rfl (lv_at hl 4 rfl) ?_
  refine lv_iconst (v := 0) hx hb dX3_setTangent_14 (by decide) ?_
  refine lv_iconst (v := 2) hx hb dX3_setTangent_15 (by decide) ?_
  rcases q_thx hq with hh4 | ⟨_, hh4, hq⟩
  · exact exS_call (As := [.int p3, .int 0, .int 2]) (rest := []) X K (kx_X3_requireRange l hf0 G g p3 0 2 _ hh4) hd_X3_requireRange gX3_setTangent_X3_requireRange hP hD hS hA hs foc_nil (fun w h => by subst h; exact hP1) hne hl.1 dX3_setTangent_16 rfl rfl ⟨Nat.le_of_ble_eq_true rfl, Nat.le_of_ble_eq_true rfl⟩ rfl (Nat.le_of_ble_eq_true rfl) ⟨Nat.le_of_ble_eq_true rfl, Nat.le_of_ble_eq_true rfl⟩ hk
  refine roS (As := [.int p3, .int 0, .int 2]) (rest := []) X K (k_X3_requireRange l G g p3 0 2 _ hh4) hd_X3_requireRange gX3_setTangent_X3_requireRange (va_P.none G) hl.1 dX3_setTangent_16 rfl rfl ⟨Nat.le_of_ble_eq_true rfl, Nat.le_of_ble_eq_true rfl⟩ rfl (Nat.le_of_ble_eq_true rfl) ⟨Nat.zero_le _, Nat.zero_le _⟩ ?_
  refine lv_iload hx hb dX3_setTangent_19 (lv_at hl 5 rfl) ?_
  refine lv_ldc (v := (-99999)) hx hb hown (hts _ (List.mem_of_getElem? (i := 1) rfl)) dX3_setTangent_21 ?_
  refine lv_ldc (v := 99999) hx hb hown (hts _ (List.mem_of_getElem? (i := 2) rfl)) dX3_setTangent_23 ?_
  rcases q_thx hq with hh5 | ⟨_, hh5, hq⟩
  · exact exS_call (As := [.int p4, .int (-99999), .int 99999]) (rest := []) X K (kx_X3_requireRange l hf0 G g p4 (-99999) 99999 _ hh5) hd_X3_requireRange gX3_setTangent_X3_requireRange hP hD hS hA hs foc_nil (fun w h => by subst h; exact hP1) hne hl.1 dX3_setTangent_25 rfl rfl ⟨Nat.le_of_ble_eq_true rfl, Nat.le_of_ble_eq_true rfl⟩ rfl (Nat.le_of_ble_eq_true rfl) ⟨Nat.le_of_ble_eq_true rfl, Nat.le_of_ble_eq_true rfl⟩ hk
  refine roS (As := [.int p4, .int (-99999), .int 99999]) (rest := []) X K (k_X3_requireRange l G g p4 (-99999) 99999 _ hh5) hd_X3_requireRange gX3_setTangent_X3_requireRange (va_P.none G) hl.1 dX3_setTangent_25 rfl rfl ⟨Nat.le_of_ble_eq_true rfl, Nat.le_of_ble_eq_true rfl⟩ rfl (Nat.le_of_ble_eq_true rfl) ⟨Nat.zero_le _, Nat.zero_le _⟩ ?_
  refine lv_aload hx hb dX3_setTangent_28 (lv_at hl 0 rfl) ?_
  refine lv_iload_n hx hb dX3_setTangent_30 rfl (lv_at hl 3 rfl) ?_
  rcases q_thx hq with hh6 | ⟨_, hh6, hq⟩
  · exact exS_call (As := [.ref (cad ad r1), .int p2]) (rest := []) X K (kx_X3_requireUnlocked l hf0 G g (cad ad r1) (aad ad r1) (cn r1) (cf r1) p2 _ hh6) hd_X3_requireUnlocked gX3_setTangent_X3_requireUnlocked hP hD hS hA hs ((foc_c_X0_insert (n_cn := 0) (n_cf := fun _ => 0) lr1).same) (fun w h => by subst h; exact hP1) hne hl.1 dX3_setTangent_31 rfl rfl ⟨Nat.le_of_ble_eq_true rfl, Nat.le_of_ble_eq_true rfl⟩ rfl (Nat.le_of_ble_eq_true rfl) ⟨Nat.le_of_ble_eq_true rfl, Nat.le_of_ble_eq_true rfl⟩ hk
  refine roS (As := [.ref (cad ad r1), .int p2]) (rest := []) X K (k_X3_requireUnlocked l G g (cad ad r1) (aad ad r1) (cn r1) (cf r1) p2 _ hh6) hd_X3_requireUnlocked gX3_setTangent_X3_requireUnlocked (sub_c lr1 hP) hl.1 dX3_setTangent_31 rfl rfl ⟨Nat.le_of_ble_eq_true rfl, Nat.le_of_ble_eq_true rfl⟩ rfl (Nat.le_of_ble_eq_true rfl) ⟨Nat.zero_le _, Nat.zero_le _⟩ ?_
  refine lv_aload_n hx hb dX3_setTangent_34 rfl (lv_at hl 1 rfl) ?_
  obtain ⟨⟨y7, y8, y9, y10⟩, hh11, hq⟩ := q_bd hq
  refine rwVf (ci := 3) (As := []) (rest := []) X K (k_X3_saveState l G g ad bd sc tl tat tb cn cf sn sf tn tf vv ov _ hh11) hd_X3_saveState gX3_setTangent_X3_saveState hP hD hS hA foc_id hl.1 dX3_setTangent_35 rfl rfl ⟨Nat.le_of_ble_eq_true rfl, Nat.le_of_ble_eq_true rfl⟩ rfl rfl rfl (Nat.le_of_ble_eq_true rfl) ⟨Nat.zero_le _, Nat.zero_le _⟩ (fun H locs hP hD hS => ?_)
  have hP : va_P G vwCl (wX g ad y7 y8 tl tat tb cn cf y9 y10 tn tf vv ov) H := hP
  have hD : va_D A (wX g ad y7 y8 tl tat tb cn cf y9 y10 tn tf vv ov) := hD
  refine lv_aload hx hb dX3_setTangent_38 (lv_at hl 0 rfl) ?_
  refine lv_iload_n hx hb dX3_setTangent_40 rfl (lv_at hl 3 rfl) ?_
  obtain ⟨r13, hh14, hq⟩ := q_bd hq
  refine roN (ci := 0) (host := RX3) (As := [.int p2]) (rest := []) X K (k_X0_tangentOf l G g (cad ad r1) (aad ad r1) (cn r1) (cf r1) p2 _ hh14) hd_X0_tangentOf ggX3_setTangent_X0_tangentOf (by decide +kernel) (List.mem_of_getElem? (i := 25) rfl) (List.mem_of_getElem? (i := 56) rfl) (List.mem_of_getElem? (i := 57) rfl) (sub_c lr1 hP) hl.1 dX3_setTangent_41 rfl rfl ⟨Nat.le_of_ble_eq_true rfl, Nat.le_of_ble_eq_true rfl⟩ rfl rfl rfl (Nat.le_of_ble_eq_true rfl) ⟨Nat.zero_le _, Nat.zero_le _⟩ ?_
  refine lv_istore (lv' := [(6, .int r13), (5, .ref (cad ad r1)), (0, .ref (ad 0)), (1, .int p1), (2, .int p2), (3, .int p3), (4, .int p4)]) hx hb dX3_setTangent_44 hl (by decide) rfl (fun ls hl => ?_)
  refine lv_aload hx hb dX3_setTangent_46 (lv_at hl 1 rfl) ?_
  refine lv_iload_n hx hb dX3_setTangent_48 rfl (lv_at hl 4 rfl) ?_
  refine lv_iconst (v := 3) hx hb dX3_setTangent_49 (by decide) ?_
  refine lv_iload_n hx hb dX3_setTangent_50 rfl (lv_at hl 5 rfl) ?_
  obtain ⟨y15, hh16, hq⟩ := q_bd hq
  refine rwNf (ci := 0) (host := RX3) (As := [.int p2, .int 3, .int p3]) (rest := []) X K (k_X0_put l G g (cad ad r1) (aad ad r1) (cn r1) (cf r1) p2 3 p3 _ hh16) hd_X0_put ggX3_setTangent_X0_put (by decide +kernel) (List.mem_of_getElem? (i := 25) rfl) (List.mem_of_getElem? (i := 62) rfl) (List.mem_of_getElem? (i := 63) rfl) hP hD hS hA (foc_c_X0_put lr1) hl.1 dX3_setTangent_51 rfl rfl ⟨Nat.le_of_ble_eq_true rfl, Nat.le_of_ble_eq_true rfl⟩ rfl rfl rfl (Nat.le_of_ble_eq_true rfl) ⟨Nat.zero_le _, Nat.zero_le _⟩ (fun H locs hP hD hS => ?_)
  obtain ⟨y17, ey17⟩ : ∃ y, y = vu cf r1 y15 := ⟨_, rfl⟩
  have hq := q_let hq ey17
  rw [← ey17] at hP hD
  have hP : va_P G vwCl (wX g ad y7 y8 tl tat tb cn y17 y9 y10 tn tf vv ov) H := hP
  have hD : va_D A (wX g ad y7 y8 tl tat tb cn y17 y9 y10 tn tf vv ov) := hD
  refine lv_aload hx hb dX3_setTangent_54 (lv_at hl 1 rfl) ?_
  refine lv_iload_n hx hb dX3_setTangent_56 rfl (lv_at hl 4 rfl) ?_
  refine lv_iconst (v := 4) hx hb dX3_setTangent_57 (by decide) ?_
  refine lv_iload hx hb dX3_setTangent_58 (lv_at hl 6 rfl) ?_
  obtain ⟨y18, hh19, hq⟩ := q_bd hq
  refine rwNf (ci := 0) (host := RX3) (As := [.int p2, .int 4, .int p4]) (rest := []) X K (k_X0_put l G g (cad ad r1) (aad ad r1) (cn r1) (y17 r1) p2 4 p4 _ hh19) hd_X0_put ggX3_setTangent_X0_put (by decide +kernel) (List.mem_of_getElem? (i := 25) rfl) (List.mem_of_getElem? (i := 62) rfl) (List.mem_of_getElem? (i := 63) rfl) hP hD hS hA (foc_c_X0_put lr1) hl.1 dX3_setTangent_60 rfl rfl ⟨Nat.le_of_ble_eq_true rfl, Nat.le_of_ble_eq_true rfl⟩ rfl rfl rfl (Nat.le_of_ble_eq_true rfl) ⟨Nat.zero_le _, Nat.zero_le _⟩ (fun H locs hP hD hS => ?_)
  obtain ⟨y20, ey20⟩ : ∃ y, y = vu y17 r1 y18 := ⟨_, rfl⟩
  have hq := q_let hq ey20
  rw [← ey20] at hP hD
  have hP : va_P G vwCl (wX g ad y7 y8 tl tat tb cn y20 y9 y10 tn tf vv ov) H := hP
  have hD : va_D A (wX g ad y7 y8 tl tat tb cn y20 y9 y10 tn tf vv ov) := hD
  refine lv_iload hx hb dX3_setTangent_63 (lv_at hl 0 rfl) ?_
  exact q_rl hq
set_option maxHeartbeats 4000000 in
set_option maxRecDepth 100000 in
theorem kx_X3_lock (l : Launch) (hf0 : l.stackTraces = false) (G : va_G) (g : Nat → ClassId) (ad : Nat → Nat) (bd : Nat → Nat → Nat) (sc : Int32) (tl : Int32) (tat : Int32) (tb : Nat → Int32) (cn : Nat → Int32) (cf : Nat → Nat → Int32) (sn : Nat → Nat → Int32) (sf : Nat → Nat → Nat → Int32) (tn : Int32) (tf : Nat → Int32) (vv : Nat → Int32) (ov : Nat → Int32) (p1 : Int32) (p2 : Int32) (p3 : Int32) (nn : Nat) (hq : F_X3_lock bd sc cn cf sn sf p1 p2 p3 = some (.inl nn)) : exC l yX3_lock wsX3_lock (rmX 7 111) G g [.ref (ad 0), .int p1, .int p2, .int p3] (wX g ad bd sc tl tat tb cn cf sn sf tn tf vv ov) (exN nn) (fun w : va_W => w = (wX g ad bd sc tl tat tb cn cf sn sf tn tf vv ov)) := by
  refine exC.of (cc := cX3_lock) (maxL := 6) (ret := (some .int)) (by decide) rfl (Nat.le_of_ble_eq_true rfl) ?_
  intro p e s m below meth c ls A X K hA hP hD hS hs hne hl
  obtain ⟨hx, hb, hml, hr, hown, hts, hk⟩ := id X
  have hl : lv_has ls 6 [(0, .ref (ad 0)), (1, .int p1), (2, .int p2), (3, .int p3)] := hl
  have hP1 : (fun w : va_W => w = (wX g ad bd sc tl tat tb cn cf sn sf tn tf vv ov)) (wX g ad bd sc tl tat tb cn cf sn sf tn tf vv ov) := rfl
  unfold F_X3_lock at hq
  refine lv_aload_n hx hb dX3_lock_0 rfl (lv_at hl 0 rfl) ?_
  refine lv_iload_n hx hb dX3_lock_1 rfl (lv_at hl 1 rfl) ?_
  rcases q_thx hq with hh2 | ⟨r1, hh2, hq⟩
  · exact exV_call (ci := 3) (As := [.int p1]) (rest := []) X K (kx_X3_curveNumbered l hf0 G g ad bd sc tl tat tb cn cf sn sf tn tf vv ov p1 _ hh2) hd_X3_curveNumbered gX3_lock_X3_curveNumbered hP hD hS hA hs foc_id (fun w h => by subst h; exact hP1) hne hl.1 dX3_lock_2 rfl rfl ⟨Nat.le_of_ble_eq_true rfl, Nat.le_of_ble_eq_true rfl⟩ rfl rfl rfl (Nat.le_of_ble_eq_true rfl) ⟨Nat.le_of_ble_eq_true rfl, Nat.le_of_ble_eq_true rfl⟩ hk
  refine roV (ci := 3) (As := [.int p1]) (rest := []) X K (k_X3_curveNumbered l G g ad bd sc tl tat tb cn cf sn sf tn tf vv ov p1 _ hh2) hd_X3_curveNumbered gX3_lock_X3_curveNumbered hP hl.1 dX3_lock_2 rfl rfl ⟨Nat.le_of_ble_eq_true rfl, Nat.le_of_ble_eq_true rfl⟩ rfl rfl rfl (Nat.le_of_ble_eq_true rfl) ⟨Nat.zero_le _, Nat.zero_le _⟩ ?_
  have lr1 := F_X3_curveNumbered_lt hh2
  refine lv_astore (lv' := [(4, .ref (cad ad r1)), (0, .ref (ad 0)), (1, .int p1), (2, .int p2), (3, .int p3)]) hx hb dX3_lock_5 hl (by decide) rfl (fun ls hl => ?_)
  refine lv_aload hx hb dX3_lock_7 (lv_at hl 0 rfl) ?_
  refine lv_iload_n hx hb dX3_lock_9 rfl (lv_at hl 3 rfl) ?_
  rcases q_thx hq with hh3 | ⟨_, hh3, hq⟩
  · exact exS_call (As := [.ref (cad ad r1), .int p2]) (rest := []) X K (kx_X3_requireKey l hf0 G g (cad ad r1) (aad ad r1) (cn r1) (cf r1) p2 _ hh3) hd_X3_requireKey gX3_lock_X3_requireKey hP hD hS hA hs ((foc_c_X0_insert (n_cn := 0) (n_cf := fun _ => 0) lr1).same) (fun w h => by subst h; exact hP1) hne hl.1 dX3_lock_10 rfl rfl ⟨Nat.le_of_ble_eq_true rfl, Nat.le_of_ble_eq_true rfl⟩ rfl (Nat.le_of_ble_eq_true rfl) ⟨Nat.le_of_ble_eq_true rfl, Nat.le_of_ble_eq_true rfl⟩ hk
  refine roS (As := [.ref (cad ad r1), .int p2]) (rest := []) X K (k_X3_requireKey l G g (cad ad r1) (aad ad r1) (cn r1) (cf r1) p2 _ hh3) hd_X3_requireKey gX3_lock_X3_requireKey (sub_c lr1 hP) hl.1 dX3_lock_10 rfl rfl ⟨Nat.le_of_ble_eq_true rfl, Nat.le_of_ble_eq_true rfl⟩ rfl (Nat.le_of_ble_eq_true rfl) ⟨Nat.zero_le _, Nat.zero_le _⟩ ?_
  refine lv_aload_n hx hb dX3_lock_13 rfl (lv_at hl 1 rfl) ?_
  obtain ⟨⟨y4, y5, y6, y7⟩, hh8, hq⟩ := q_bd hq
  refine rwVf (ci := 3) (As := []) (rest := []) X K (k_X3_saveState l G g ad bd sc tl tat tb cn cf sn sf tn tf vv ov _ hh8) hd_X3_saveState gX3_lock_X3_saveState hP hD hS hA foc_id hl.1 dX3_lock_14 rfl rfl ⟨Nat.le_of_ble_eq_true rfl, Nat.le_of_ble_eq_true rfl⟩ rfl rfl rfl (Nat.le_of_ble_eq_true rfl) ⟨Nat.zero_le _, Nat.zero_le _⟩ (fun H locs hP hD hS => ?_)
  have hP : va_P G vwCl (wX g ad y4 y5 tl tat tb cn cf y6 y7 tn tf vv ov) H := hP
  have hD : va_D A (wX g ad y4 y5 tl tat tb cn cf y6 y7 tn tf vv ov) := hD
  refine lv_aload hx hb dX3_lock_17 (lv_at hl 0 rfl) ?_
  refine lv_iload_n hx hb dX3_lock_19 rfl (lv_at hl 3 rfl) ?_
  refine lv_iconst (v := 5) hx hb dX3_lock_20 (by decide) ?_
  obtain ⟨r10, hh11, hq⟩ := q_bd hq
  refine roN (ci := 0) (host := RX3) (As := [.int p2, .int 5]) (rest := []) X K (k_X0_cell l G g (cad ad r1) (aad ad r1) (cn r1) (cf r1) p2 5 _ hh11) hd_X0_cell ggX3_lock_X0_cell (by decide +kernel) (List.mem_of_getElem? (i := 28) rfl) (List.mem_of_getElem? (i := 37) rfl) (List.mem_of_getElem? (i := 38) rfl) (sub_c lr1 hP) hl.1 dX3_lock_21 rfl rfl ⟨Nat.le_of_ble_eq_true rfl, Nat.le_of_ble_eq_true rfl⟩ rfl rfl rfl (Nat.le_of_ble_eq_true rfl) ⟨Nat.zero_le _, Nat.zero_le _⟩ ?_
  refine lv_istore (lv' := [(5, .int r10), (4, .ref (cad ad r1)), (0, .ref (ad 0)), (1, .int p1), (2, .int p2), (3, .int p3)]) hx hb dX3_lock_24 hl (by decide) rfl (fun ls hl => ?_)
  refine lv_aload hx hb dX3_lock_26 (lv_at hl 1 rfl) ?_
  refine lv_iload_n hx hb dX3_lock_28 rfl (lv_at hl 4 rfl) ?_
  refine lv_iconst (v := 5) hx hb dX3_lock_29 (by decide) ?_
  refine lv_iload_n hx hb dX3_lock_30 rfl (lv_at hl 5 rfl) ?_
  refine lv_if_eq (tgt := 38) hx hb dX3_lock_31 (by decide) (fun c12 => ?_) (fun c12 => ?_)
  · have hq := q_if_t hq c12
    refine lv_iconst (v := 0) hx hb dX3_lock_38 (by decide) ?_
    obtain ⟨y13, hh14, hq⟩ := q_bd hq
    refine rwNf (ci := 0) (host := RX3) (As := [.int p2, .int 5, .int 0]) (rest := []) X K (k_X0_put l G g (cad ad r1) (aad ad r1) (cn r1) (cf r1) p2 5 0 _ hh14) hd_X0_put ggX3_lock_X0_put (by decide +kernel) (List.mem_of_getElem? (i := 28) rfl) (List.mem_of_getElem? (i := 40) rfl) (List.mem_of_getElem? (i := 41) rfl) hP hD hS hA (foc_c_X0_put lr1) hl.1 dX3_lock_39 rfl rfl ⟨Nat.le_of_ble_eq_true rfl, Nat.le_of_ble_eq_true rfl⟩ rfl rfl rfl (Nat.le_of_ble_eq_true rfl) ⟨Nat.zero_le _, Nat.zero_le _⟩ (fun H locs hP hD hS => ?_)
    obtain ⟨y15, ey15⟩ : ∃ y, y = vu cf r1 y13 := ⟨_, rfl⟩
    have hq := q_let hq ey15
    rw [← ey15] at hP hD
    have hP : va_P G vwCl (wX g ad y4 y5 tl tat tb cn y15 y6 y7 tn tf vv ov) H := hP
    have hD : va_D A (wX g ad y4 y5 tl tat tb cn y15 y6 y7 tn tf vv ov) := hD
    refine lv_iload hx hb dX3_lock_42 (lv_at hl 0 rfl) ?_
    exact q_rl hq
  · have hq := q_if_f hq c12
    refine lv_iconst (v := 1) hx hb dX3_lock_34 (by decide) ?_
    refine lv_goto (tgt := 39) hx hb dX3_lock_35 (by decide) ?_
    obtain ⟨y16, hh17, hq⟩ := q_bd hq
    refine rwNf (ci := 0) (host := RX3) (As := [.int p2, .int 5, .int 1]) (rest := []) X K (k_X0_put l G g (cad ad r1) (aad ad r1) (cn r1) (cf r1) p2 5 1 _ hh17) hd_X0_put ggX3_lock_X0_put (by decide +kernel) (List.mem_of_getElem? (i := 28) rfl) (List.mem_of_getElem? (i := 40) rfl) (List.mem_of_getElem? (i := 41) rfl) hP hD hS hA (foc_c_X0_put lr1) hl.1 dX3_lock_39 rfl rfl ⟨Nat.le_of_ble_eq_true rfl, Nat.le_of_ble_eq_true rfl⟩ rfl rfl rfl (Nat.le_of_ble_eq_true rfl) ⟨Nat.zero_le _, Nat.zero_le _⟩ (fun H locs hP hD hS => ?_)
    obtain ⟨y18, ey18⟩ : ∃ y, y = vu cf r1 y16 := ⟨_, rfl⟩
    have hq := q_let hq ey18
    rw [← ey18] at hP hD
    have hP : va_P G vwCl (wX g ad y4 y5 tl tat tb cn y18 y6 y7 tn tf vv ov) H := hP
    have hD : va_D A (wX g ad y4 y5 tl tat tb cn y18 y6 y7 tn tf vv ov) := hD
    refine lv_iload hx hb dX3_lock_42 (lv_at hl 0 rfl) ?_
    exact q_rl hq
set_option maxHeartbeats 4000000 in
set_option maxRecDepth 100000 in
theorem kx_X3_stretch (l : Launch) (hf0 : l.stackTraces = false) (G : va_G) (g : Nat → ClassId) (ad : Nat → Nat) (bd : Nat → Nat → Nat) (sc : Int32) (tl : Int32) (tat : Int32) (tb : Nat → Int32) (cn : Nat → Int32) (cf : Nat → Nat → Int32) (sn : Nat → Nat → Int32) (sf : Nat → Nat → Nat → Int32) (tn : Int32) (tf : Nat → Int32) (vv : Nat → Int32) (ov : Nat → Int32) (p1 : Int32) (p2 : Int32) (p3 : Int32) (p4 : Int32) (nn : Nat) (hq : F_X3_stretch bd sc cn cf sn sf p1 p2 p3 p4 = some (.inl nn)) : exC l yX3_stretch wsX3_stretch (rmX 8 133) G g [.ref (ad 0), .int p1, .int p2, .int p3, .int p4] (wX g ad bd sc tl tat tb cn cf sn sf tn tf vv ov) (exN nn) (fun w : va_W => w = (wX g ad bd sc tl tat tb cn cf sn sf tn tf vv ov)) := by
  refine exC.of (cc := cX3_stretch) (maxL := 6) (ret := (some .int)) (by decide) rfl (Nat.le_of_ble_eq_true rfl) ?_
  intro p e s m below meth c ls A X K hA hP hD hS hs hne hl
  obtain ⟨hx, hb, hml, hr, hown, hts, hk⟩ := id X
  have hl : lv_has ls 6 [(0, .ref (ad 0)), (1, .int p1), (2, .int p2), (3, .int p3), (4, .int p4)] := hl
  have hP1 : (fun w : va_W => w = (wX g ad bd sc tl tat tb cn cf sn sf tn tf vv ov)) (wX g ad bd sc tl tat tb cn cf sn sf tn tf vv ov) := rfl
  unfold F_X3_stretch at hq
  refine lv_aload_n hx hb dX3_stretch_0 rfl (lv_at hl 0 rfl) ?_
  refine lv_iload_n hx hb dX3_stretch_1 rfl (lv_at hl 1 rfl) ?_
  rcases q_thx hq with hh2 | ⟨r1, hh2, hq⟩
  · exact exV_call (ci := 3) (As := [.int p1]) (rest := []) X K (kx_X3_curveNumbered l hf0 G g ad bd sc tl tat tb cn cf sn sf tn tf vv ov p1 _ hh2) hd_X3_curveNumbered gX3_stretch_X3_curveNumbered hP hD hS hA hs foc_id (fun w h => by subst h; exact hP1) hne hl.1 dX3_stretch_2 rfl rfl ⟨Nat.le_of_ble_eq_true rfl, Nat.le_of_ble_eq_true rfl⟩ rfl rfl rfl (Nat.le_of_ble_eq_true rfl) ⟨Nat.le_of_ble_eq_true rfl, Nat.le_of_ble_eq_true rfl⟩ hk
  refine roV (ci := 3) (As := [.int p1]) (rest := []) X K (k_X3_curveNumbered l G g ad bd sc tl tat tb cn cf sn sf tn tf vv ov p1 _ hh2) hd_X3_curveNumbered gX3_stretch_X3_curveNumbered hP hl.1 dX3_stretch_2 rfl rfl ⟨Nat.le_of_ble_eq_true rfl, Nat.le_of_ble_eq_true rfl⟩ rfl rfl rfl (Nat.le_of_ble_eq_true rfl) ⟨Nat.zero_le _, Nat.zero_le _⟩ ?_
  have lr1 := F_X3_curveNumbered_lt hh2
  refine lv_astore (lv' := [(5, .ref (cad ad r1)), (0, .ref (ad 0)), (1, .int p1), (2, .int p2), (3, .int p3), (4, .int p4)]) hx hb dX3_stretch_5 hl (by decide) rfl (fun ls hl => ?_)
  refine lv_iload_n hx hb dX3_stretch_7 rfl (lv_at hl 3 rfl) ?_
  refine lv_iload_n hx hb dX3_stretch_8 rfl (lv_at hl 4 rfl) ?_
  rcases q_thx hq with hh3 | ⟨_, hh3, hq⟩
  · exact exS_call (As := [.int p2, .int p3]) (rest := []) X K (kx_X3_requireSpan l hf0 G g p2 p3 _ hh3) hd_X3_requireSpan gX3_stretch_X3_requireSpan hP hD hS hA hs foc_nil (fun w h => by subst h; exact hP1) hne hl.1 dX3_stretch_9 rfl rfl ⟨Nat.le_of_ble_eq_true rfl, Nat.le_of_ble_eq_true rfl⟩ rfl (Nat.le_of_ble_eq_true rfl) ⟨Nat.le_of_ble_eq_true rfl, Nat.le_of_ble_eq_true rfl⟩ hk
  refine roS (As := [.int p2, .int p3]) (rest := []) X K (k_X3_requireSpan l G g p2 p3 _ hh3) hd_X3_requireSpan gX3_stretch_X3_requireSpan (va_P.none G) hl.1 dX3_stretch_9 rfl rfl ⟨Nat.le_of_ble_eq_true rfl, Nat.le_of_ble_eq_true rfl⟩ rfl (Nat.le_of_ble_eq_true rfl) ⟨Nat.zero_le _, Nat.zero_le _⟩ ?_
  refine lv_iload hx hb dX3_stretch_12 (lv_at hl 5 rfl) ?_
  refine lv_bipush (v := 10) hx hb dX3_stretch_14 (by decide) ?_
  refine lv_sipush (v := 500) hx hb dX3_stretch_16 (by decide) ?_
  rcases q_thx hq with hh4 | ⟨_, hh4, hq⟩
  · exact exS_call (As := [.int p4, .int 10, .int 500]) (rest := []) X K (kx_X3_requireRange l hf0 G g p4 10 500 _ hh4) hd_X3_requireRange gX3_stretch_X3_requireRange hP hD hS hA hs foc_nil (fun w h => by subst h; exact hP1) hne hl.1 dX3_stretch_19 rfl rfl ⟨Nat.le_of_ble_eq_true rfl, Nat.le_of_ble_eq_true rfl⟩ rfl (Nat.le_of_ble_eq_true rfl) ⟨Nat.le_of_ble_eq_true rfl, Nat.le_of_ble_eq_true rfl⟩ hk
  refine roS (As := [.int p4, .int 10, .int 500]) (rest := []) X K (k_X3_requireRange l G g p4 10 500 _ hh4) hd_X3_requireRange gX3_stretch_X3_requireRange (va_P.none G) hl.1 dX3_stretch_19 rfl rfl ⟨Nat.le_of_ble_eq_true rfl, Nat.le_of_ble_eq_true rfl⟩ rfl (Nat.le_of_ble_eq_true rfl) ⟨Nat.zero_le _, Nat.zero_le _⟩ ?_
  refine lv_aload hx hb dX3_stretch_22 (lv_at hl 0 rfl) ?_
  refine lv_iload_n hx hb dX3_stretch_24 rfl (lv_at hl 3 rfl) ?_
  refine lv_iload_n hx hb dX3_stretch_25 rfl (lv_at hl 4 rfl) ?_
  refine lv_iload hx hb dX3_stretch_26 (lv_at hl 5 rfl) ?_
  obtain ⟨r5, hh6, hq⟩ := q_bd hq
  refine roN (ci := 0) (host := RX3) (As := [.int p2, .int p3, .int p4]) (rest := []) X K (k_X0_canStretch l G g (cad ad r1) (aad ad r1) (cn r1) (cf r1) p2 p3 p4 _ hh6) hd_X0_canStretch ggX3_stretch_X0_canStretch (by decide +kernel) (List.mem_of_getElem? (i := 20) rfl) (List.mem_of_getElem? (i := 19) rfl) (List.mem_of_getElem? (i := 21) rfl) (sub_c lr1 hP) hl.1 dX3_stretch_28 rfl rfl ⟨Nat.le_of_ble_eq_true rfl, Nat.le_of_ble_eq_true rfl⟩ rfl rfl rfl (Nat.le_of_ble_eq_true rfl) ⟨Nat.zero_le _, Nat.zero_le _⟩ ?_
  refine lv_if_ne (tgt := 44) hx hb dX3_stretch_31 (by decide) (fun c7 => ?_) (fun c7 => ?_)
  · have hq := q_if_f hq c7
    refine lv_aload_n hx hb dX3_stretch_44 rfl (lv_at hl 1 rfl) ?_
    obtain ⟨⟨y8, y9, y10, y11⟩, hh12, hq⟩ := q_bd hq
    refine rwVf (ci := 3) (As := []) (rest := []) X K (k_X3_saveState l G g ad bd sc tl tat tb cn cf sn sf tn tf vv ov _ hh12) hd_X3_saveState gX3_stretch_X3_saveState hP hD hS hA foc_id hl.1 dX3_stretch_45 rfl rfl ⟨Nat.le_of_ble_eq_true rfl, Nat.le_of_ble_eq_true rfl⟩ rfl rfl rfl (Nat.le_of_ble_eq_true rfl) ⟨Nat.zero_le _, Nat.zero_le _⟩ (fun H locs hP hD hS => ?_)
    have hP : va_P G vwCl (wX g ad y8 y9 tl tat tb cn cf y10 y11 tn tf vv ov) H := hP
    have hD : va_D A (wX g ad y8 y9 tl tat tb cn cf y10 y11 tn tf vv ov) := hD
    refine lv_aload hx hb dX3_stretch_48 (lv_at hl 0 rfl) ?_
    refine lv_iload_n hx hb dX3_stretch_50 rfl (lv_at hl 3 rfl) ?_
    refine lv_iload_n hx hb dX3_stretch_51 rfl (lv_at hl 4 rfl) ?_
    refine lv_iload hx hb dX3_stretch_52 (lv_at hl 5 rfl) ?_
    obtain ⟨⟨r14, y15⟩, hh16, hq⟩ := q_bd hq
    refine rwNf (ci := 0) (host := RX3) (As := [.int p2, .int p3, .int p4]) (rest := []) X K (k_X0_stretchSpan l G g (cad ad r1) (aad ad r1) (cn r1) (cf r1) p2 p3 p4 _ hh16) hd_X0_stretchSpan ggX3_stretch_X0_stretchSpan (by decide +kernel) (List.mem_of_getElem? (i := 20) rfl) (List.mem_of_getElem? (i := 58) rfl) (List.mem_of_getElem? (i := 59) rfl) hP hD hS hA (foc_c_X0_stretchSpan lr1) hl.1 dX3_stretch_54 rfl rfl ⟨Nat.le_of_ble_eq_true rfl, Nat.le_of_ble_eq_true rfl⟩ rfl rfl rfl (Nat.le_of_ble_eq_true rfl) ⟨Nat.zero_le _, Nat.zero_le _⟩ (fun H locs hP hD hS => ?_)
    obtain ⟨y18, ey18⟩ : ∃ y, y = vu cf r1 y15 := ⟨_, rfl⟩
    have hq := q_let hq ey18
    rw [← ey18] at hP hD
    have hP : va_P G vwCl (wX g ad y8 y9 tl tat tb cn y18 y10 y11 tn tf vv ov) H := hP
    have hD : va_D A (wX g ad y8 y9 tl tat tb cn y18 y10 y11 tn tf vv ov) := hD
    exact q_rl hq
  · have hq := q_if_t hq c7
    obtain rfl := q_li hq
    exact ex_throw (is := 112) (text := "the span cannot be stretched so") X hf0 ex_c3 (hts _ (List.mem_of_getElem? (i := 1) rfl)) (hts _ (List.mem_of_getElem? (i := 2) rfl)) (fun w h => hts w (List.mem_cons_of_mem _ (List.mem_append_left _ (List.mem_append_left _ (List.mem_append_right _ h))))) hs (by decide +kernel) hne hP hD hS (by rw [hml]; exact hl.1) hP1 dX3_stretch_34 dX3_stretch_37 dX3_stretch_38 dX3_stretch_40 dX3_stretch_43 (Nat.le_of_ble_eq_true rfl) (Nat.le_of_ble_eq_true rfl) (Nat.le_of_ble_eq_true rfl) (Nat.le_of_ble_eq_true rfl) hk
set_option maxHeartbeats 4000000 in
set_option maxRecDepth 100000 in
theorem kx_X3_copy (l : Launch) (hf0 : l.stackTraces = false) (G : va_G) (g : Nat → ClassId) (ad : Nat → Nat) (bd : Nat → Nat → Nat) (sc : Int32) (tl : Int32) (tat : Int32) (tb : Nat → Int32) (cn : Nat → Int32) (cf : Nat → Nat → Int32) (sn : Nat → Nat → Int32) (sf : Nat → Nat → Nat → Int32) (tn : Int32) (tf : Nat → Int32) (vv : Nat → Int32) (ov : Nat → Int32) (p1 : Int32) (p2 : Int32) (p3 : Int32) (nn : Nat) (hq : F_X3_copy bd sc cn cf sn sf p1 p2 p3 = some (.inl nn)) : exC l yX3_copy wsX3_copy (rmX 7 112) G g [.ref (ad 0), .int p1, .int p2, .int p3] (wX g ad bd sc tl tat tb cn cf sn sf tn tf vv ov) (exN nn) (fun w : va_W => w = (wX g ad bd sc tl tat tb cn cf sn sf tn tf vv ov)) := by
  refine exC.of (cc := cX3_copy) (maxL := 6) (ret := (some .int)) (by decide) rfl (Nat.le_of_ble_eq_true rfl) ?_
  intro p e s m below meth c ls A X K hA hP hD hS hs hne hl
  obtain ⟨hx, hb, hml, hr, hown, hts, hk⟩ := id X
  have hl : lv_has ls 6 [(0, .ref (ad 0)), (1, .int p1), (2, .int p2), (3, .int p3)] := hl
  have hP1 : (fun w : va_W => w = (wX g ad bd sc tl tat tb cn cf sn sf tn tf vv ov)) (wX g ad bd sc tl tat tb cn cf sn sf tn tf vv ov) := rfl
  unfold F_X3_copy at hq
  refine lv_aload_n hx hb dX3_copy_0 rfl (lv_at hl 0 rfl) ?_
  refine lv_iload_n hx hb dX3_copy_1 rfl (lv_at hl 1 rfl) ?_
  rcases q_thx hq with hh2 | ⟨r1, hh2, hq⟩
  · exact exV_call (ci := 3) (As := [.int p1]) (rest := []) X K (kx_X3_curveNumbered l hf0 G g ad bd sc tl tat tb cn cf sn sf tn tf vv ov p1 _ hh2) hd_X3_curveNumbered gX3_copy_X3_curveNumbered hP hD hS hA hs foc_id (fun w h => by subst h; exact hP1) hne hl.1 dX3_copy_2 rfl rfl ⟨Nat.le_of_ble_eq_true rfl, Nat.le_of_ble_eq_true rfl⟩ rfl rfl rfl (Nat.le_of_ble_eq_true rfl) ⟨Nat.le_of_ble_eq_true rfl, Nat.le_of_ble_eq_true rfl⟩ hk
  refine roV (ci := 3) (As := [.int p1]) (rest := []) X K (k_X3_curveNumbered l G g ad bd sc tl tat tb cn cf sn sf tn tf vv ov p1 _ hh2) hd_X3_curveNumbered gX3_copy_X3_curveNumbered hP hl.1 dX3_copy_2 rfl rfl ⟨Nat.le_of_ble_eq_true rfl, Nat.le_of_ble_eq_true rfl⟩ rfl rfl rfl (Nat.le_of_ble_eq_true rfl) ⟨Nat.zero_le _, Nat.zero_le _⟩ ?_
  have lr1 := F_X3_curveNumbered_lt hh2
  refine lv_astore (lv' := [(4, .ref (cad ad r1)), (0, .ref (ad 0)), (1, .int p1), (2, .int p2), (3, .int p3)]) hx hb dX3_copy_5 hl (by decide) rfl (fun ls hl => ?_)
  refine lv_aload_n hx hb dX3_copy_7 rfl (lv_at hl 1 rfl) ?_
  refine lv_iload_n hx hb dX3_copy_8 rfl (lv_at hl 3 rfl) ?_
  rcases q_thx hq with hh4 | ⟨r3, hh4, hq⟩
  · exact exV_call (ci := 3) (As := [.int p2]) (rest := []) X K (kx_X3_curveNumbered l hf0 G g ad bd sc tl tat tb cn cf sn sf tn tf vv ov p2 _ hh4) hd_X3_curveNumbered gX3_copy_X3_curveNumbered hP hD hS hA hs foc_id (fun w h => by subst h; exact hP1) hne hl.1 dX3_copy_9 rfl rfl ⟨Nat.le_of_ble_eq_true rfl, Nat.le_of_ble_eq_true rfl⟩ rfl rfl rfl (Nat.le_of_ble_eq_true rfl) ⟨Nat.le_of_ble_eq_true rfl, Nat.le_of_ble_eq_true rfl⟩ hk
  refine roV (ci := 3) (As := [.int p2]) (rest := []) X K (k_X3_curveNumbered l G g ad bd sc tl tat tb cn cf sn sf tn tf vv ov p2 _ hh4) hd_X3_curveNumbered gX3_copy_X3_curveNumbered hP hl.1 dX3_copy_9 rfl rfl ⟨Nat.le_of_ble_eq_true rfl, Nat.le_of_ble_eq_true rfl⟩ rfl rfl rfl (Nat.le_of_ble_eq_true rfl) ⟨Nat.zero_le _, Nat.zero_le _⟩ ?_
  have lr3 := F_X3_curveNumbered_lt hh4
  refine lv_astore (lv' := [(5, .ref (cad ad r3)), (4, .ref (cad ad r1)), (0, .ref (ad 0)), (1, .int p1), (2, .int p2), (3, .int p3)]) hx hb dX3_copy_12 hl (by decide) rfl (fun ls hl => ?_)
  refine lv_iload_n hx hb dX3_copy_14 rfl (lv_at hl 5 rfl) ?_
  refine lv_sipush (v := (-9999)) hx hb dX3_copy_15 (by decide) ?_
  refine lv_sipush (v := 9999) hx hb dX3_copy_18 (by decide) ?_
  rcases q_thx hq with hh5 | ⟨_, hh5, hq⟩
  · exact exS_call (As := [.int p3, .int (-9999), .int 9999]) (rest := []) X K (kx_X3_requireRange l hf0 G g p3 (-9999) 9999 _ hh5) hd_X3_requireRange gX3_copy_X3_requireRange hP hD hS hA hs foc_nil (fun w h => by subst h; exact hP1) hne hl.1 dX3_copy_21 rfl rfl ⟨Nat.le_of_ble_eq_true rfl, Nat.le_of_ble_eq_true rfl⟩ rfl (Nat.le_of_ble_eq_true rfl) ⟨Nat.le_of_ble_eq_true rfl, Nat.le_of_ble_eq_true rfl⟩ hk
  refine roS (As := [.int p3, .int (-9999), .int 9999]) (rest := []) X K (k_X3_requireRange l G g p3 (-9999) 9999 _ hh5) hd_X3_requireRange gX3_copy_X3_requireRange (va_P.none G) hl.1 dX3_copy_21 rfl rfl ⟨Nat.le_of_ble_eq_true rfl, Nat.le_of_ble_eq_true rfl⟩ rfl (Nat.le_of_ble_eq_true rfl) ⟨Nat.zero_le _, Nat.zero_le _⟩ ?_
  refine lv_aload hx hb dX3_copy_24 (lv_at hl 1 rfl) ?_
  rcases q_thx hq with hh6 | ⟨_, hh6, hq⟩
  · exact exS_call (As := [.ref (cad ad r1)]) (rest := []) X K (kx_X3_requireNoLock l hf0 G g (cad ad r1) (aad ad r1) (cn r1) (cf r1) _ hh6) hd_X3_requireNoLock gX3_copy_X3_requireNoLock hP hD hS hA hs ((foc_c_X0_insert (n_cn := 0) (n_cf := fun _ => 0) lr1).same) (fun w h => by subst h; exact hP1) hne hl.1 dX3_copy_26 rfl rfl ⟨Nat.le_of_ble_eq_true rfl, Nat.le_of_ble_eq_true rfl⟩ rfl (Nat.le_of_ble_eq_true rfl) ⟨Nat.le_of_ble_eq_true rfl, Nat.le_of_ble_eq_true rfl⟩ hk
  refine roS (As := [.ref (cad ad r1)]) (rest := []) X K (k_X3_requireNoLock l G g (cad ad r1) (aad ad r1) (cn r1) (cf r1) _ hh6) hd_X3_requireNoLock gX3_copy_X3_requireNoLock (sub_c lr1 hP) hl.1 dX3_copy_26 rfl rfl ⟨Nat.le_of_ble_eq_true rfl, Nat.le_of_ble_eq_true rfl⟩ rfl (Nat.le_of_ble_eq_true rfl) ⟨Nat.zero_le _, Nat.zero_le _⟩ ?_
  refine lv_aload hx hb dX3_copy_29 (lv_at hl 0 rfl) ?_
  refine lv_iload_n hx hb dX3_copy_31 rfl (lv_at hl 5 rfl) ?_
  obtain ⟨r7, hh8, hq⟩ := q_bd hq
  refine roN (ci := 0) (host := RX3) (As := [.int p3]) (rest := []) X K (k_X0_canRaise l G g (cad ad r3) (aad ad r3) (cn r3) (cf r3) p3 _ hh8) hd_X0_canRaise ggX3_copy_X0_canRaise (by decide +kernel) (List.mem_of_getElem? (i := 20) rfl) (List.mem_of_getElem? (i := 33) rfl) (List.mem_of_getElem? (i := 34) rfl) (sub_c lr3 hP) hl.1 dX3_copy_32 rfl rfl ⟨Nat.le_of_ble_eq_true rfl, Nat.le_of_ble_eq_true rfl⟩ rfl rfl rfl (Nat.le_of_ble_eq_true rfl) ⟨Nat.zero_le _, Nat.zero_le _⟩ ?_
  refine lv_if_ne (tgt := 48) hx hb dX3_copy_35 (by decide) (fun c9 => ?_) (fun c9 => ?_)
  · have hq := q_if_f hq c9
    refine lv_aload_n hx hb dX3_copy_48 rfl (lv_at hl 2 rfl) ?_
    obtain ⟨⟨y10, y11, y12, y13⟩, hh14, hq⟩ := q_bd hq
    refine rwVf (ci := 3) (As := []) (rest := []) X K (k_X3_saveState l G g ad bd sc tl tat tb cn cf sn sf tn tf vv ov _ hh14) hd_X3_saveState gX3_copy_X3_saveState hP hD hS hA foc_id hl.1 dX3_copy_49 rfl rfl ⟨Nat.le_of_ble_eq_true rfl, Nat.le_of_ble_eq_true rfl⟩ rfl rfl rfl (Nat.le_of_ble_eq_true rfl) ⟨Nat.zero_le _, Nat.zero_le _⟩ (fun H locs hP hD hS => ?_)
    have hP : va_P G vwCl (wX g ad y10 y11 tl tat tb cn cf y12 y13 tn tf vv ov) H := hP
    have hD : va_D A (wX g ad y10 y11 tl tat tb cn cf y12 y13 tn tf vv ov) := hD
    refine lv_aload hx hb dX3_copy_52 (lv_at hl 1 rfl) ?_
    refine lv_aload hx hb dX3_copy_54 (lv_at hl 0 rfl) ?_
    refine (Classical.em (r1 = r3)).elim (fun c16 => ?_) (fun c16 => ?_)
    · have hq := q_if_t hq c16
      refine W.eq (g2 := F0 m 56 ls ([.ref (cad ad r1), .ref (cad ad r1)])) (by rw [← c16]; rfl) ?_
      obtain ⟨⟨y17, y18⟩, hh19, hq⟩ := q_bd hq
      refine rwNf (ci := 0) (host := RX3) (As := [.ref (cad ad r1)]) (rest := []) X K (k_X0_becomeS l G g (cad ad r1) (aad ad r1) (cn r1) (cf r1) _ hh19) hd_X0_become ggX3_copy_X0_become (by decide +kernel) (List.mem_of_getElem? (i := 20) rfl) (List.mem_of_getElem? (i := 55) rfl) (List.mem_of_getElem? (i := 56) rfl) hP hD hS hA (foc_c_X0_becomeS lr1) hl.1 dX3_copy_56 rfl rfl ⟨Nat.le_of_ble_eq_true rfl, Nat.le_of_ble_eq_true rfl⟩ rfl rfl rfl (Nat.le_of_ble_eq_true rfl) ⟨Nat.zero_le _, Nat.zero_le _⟩ (fun H locs hP hD hS => ?_)
      obtain ⟨y21, ey21⟩ : ∃ y, y = vu cn r1 y17 := ⟨_, rfl⟩
      have hq := q_let hq ey21
      rw [← ey21] at hP hD
      obtain ⟨y22, ey22⟩ : ∃ y, y = vu cf r1 y18 := ⟨_, rfl⟩
      have hq := q_let hq ey22
      rw [← ey22] at hP hD
      have hP : va_P G vwCl (wX g ad y10 y11 tl tat tb y21 y22 y12 y13 tn tf vv ov) H := hP
      have hD : va_D A (wX g ad y10 y11 tl tat tb y21 y22 y12 y13 tn tf vv ov) := hD
      refine lv_aload hx hb dX3_copy_59 (lv_at hl 1 rfl) ?_
      refine lv_iload_n hx hb dX3_copy_61 rfl (lv_at hl 5 rfl) ?_
      obtain ⟨y23, hh24, hq⟩ := q_bd hq
      refine rwNf (ci := 0) (host := RX3) (As := [.int p3]) (rest := []) X K (k_X0_raise l G g (cad ad r1) (aad ad r1) (y21 r1) (y22 r1) p3 _ hh24) hd_X0_raise ggX3_copy_X0_raise (by decide +kernel) (List.mem_of_getElem? (i := 20) rfl) (List.mem_of_getElem? (i := 62) rfl) (List.mem_of_getElem? (i := 63) rfl) hP hD hS hA (foc_c_X0_raise lr1) hl.1 dX3_copy_62 rfl rfl ⟨Nat.le_of_ble_eq_true rfl, Nat.le_of_ble_eq_true rfl⟩ rfl rfl rfl (Nat.le_of_ble_eq_true rfl) ⟨Nat.zero_le _, Nat.zero_le _⟩ (fun H locs hP hD hS => ?_)
      obtain ⟨y25, ey25⟩ : ∃ y, y = vu y22 r1 y23 := ⟨_, rfl⟩
      have hq := q_let hq ey25
      rw [← ey25] at hP hD
      have hP : va_P G vwCl (wX g ad y10 y11 tl tat tb y21 y25 y12 y13 tn tf vv ov) H := hP
      have hD : va_D A (wX g ad y10 y11 tl tat tb y21 y25 y12 y13 tn tf vv ov) := hD
      refine lv_aload hx hb dX3_copy_65 (lv_at hl 1 rfl) ?_
      refine va_getN (D := G) (ci := 0) (v := .int (y21 r1)) (C := RX0) (T := TX0) (N := 2) (host := RX3) hx hb hts in_X3_copy_X0 hown K.1 (sub_c lr1 hP) 0 rfl rfl 0 (by decide) ((K.2.2 (RX3, 53, RX0, "count", "I", RX3) (by decide +kernel)).use rfl) (fun _ h9 => h9) rfl dX3_copy_67 ?_
      exact q_rl hq
    · have hq := q_if_f hq c16
      obtain ⟨⟨y26, y27⟩, hh28, hq⟩ := q_bd hq
      refine rwNf (ci := 0) (host := RX3) (As := [.ref (cad ad r3)]) (rest := []) X K (k_X0_become l G g (cad ad r1) (aad ad r1) (cad ad r3) (aad ad r3) (cn r1) (cf r1) (cn r3) (cf r3) _ hh28) hd_X0_become ggX3_copy_X0_become (by decide +kernel) (List.mem_of_getElem? (i := 20) rfl) (List.mem_of_getElem? (i := 55) rfl) (List.mem_of_getElem? (i := 56) rfl) hP hD hS hA (foc_cc_X0_become lr1 lr3 c16) hl.1 dX3_copy_56 rfl rfl ⟨Nat.le_of_ble_eq_true rfl, Nat.le_of_ble_eq_true rfl⟩ rfl rfl rfl (Nat.le_of_ble_eq_true rfl) ⟨Nat.zero_le _, Nat.zero_le _⟩ (fun H locs hP hD hS => ?_)
      obtain ⟨y30, ey30⟩ : ∃ y, y = vu cn r1 y26 := ⟨_, rfl⟩
      have hq := q_let hq ey30
      rw [← ey30] at hP hD
      obtain ⟨y31, ey31⟩ : ∃ y, y = vu cf r1 y27 := ⟨_, rfl⟩
      have hq := q_let hq ey31
      rw [← ey31] at hP hD
      have hP : va_P G vwCl (wX g ad y10 y11 tl tat tb y30 y31 y12 y13 tn tf vv ov) H := hP
      have hD : va_D A (wX g ad y10 y11 tl tat tb y30 y31 y12 y13 tn tf vv ov) := hD
      refine lv_aload hx hb dX3_copy_59 (lv_at hl 1 rfl) ?_
      refine lv_iload_n hx hb dX3_copy_61 rfl (lv_at hl 5 rfl) ?_
      obtain ⟨y32, hh33, hq⟩ := q_bd hq
      refine rwNf (ci := 0) (host := RX3) (As := [.int p3]) (rest := []) X K (k_X0_raise l G g (cad ad r1) (aad ad r1) (y30 r1) (y31 r1) p3 _ hh33) hd_X0_raise ggX3_copy_X0_raise (by decide +kernel) (List.mem_of_getElem? (i := 20) rfl) (List.mem_of_getElem? (i := 62) rfl) (List.mem_of_getElem? (i := 63) rfl) hP hD hS hA (foc_c_X0_raise lr1) hl.1 dX3_copy_62 rfl rfl ⟨Nat.le_of_ble_eq_true rfl, Nat.le_of_ble_eq_true rfl⟩ rfl rfl rfl (Nat.le_of_ble_eq_true rfl) ⟨Nat.zero_le _, Nat.zero_le _⟩ (fun H locs hP hD hS => ?_)
      obtain ⟨y34, ey34⟩ : ∃ y, y = vu y31 r1 y32 := ⟨_, rfl⟩
      have hq := q_let hq ey34
      rw [← ey34] at hP hD
      have hP : va_P G vwCl (wX g ad y10 y11 tl tat tb y30 y34 y12 y13 tn tf vv ov) H := hP
      have hD : va_D A (wX g ad y10 y11 tl tat tb y30 y34 y12 y13 tn tf vv ov) := hD
      refine lv_aload hx hb dX3_copy_65 (lv_at hl 1 rfl) ?_
      refine va_getN (D := G) (ci := 0) (v := .int (y30 r1)) (C := RX0) (T := TX0) (N := 2) (host := RX3) hx hb hts in_X3_copy_X0 hown K.1 (sub_c lr1 hP) 0 rfl rfl 0 (by decide) ((K.2.2 (RX3, 53, RX0, "count", "I", RX3) (by decide +kernel)).use rfl) (fun _ h9 => h9) rfl dX3_copy_67 ?_
      exact q_rl hq
  · have hq := q_if_t hq c9
    obtain rfl := q_li hq
    exact ex_throw (is := 126) (text := "a value would be out of range") X hf0 ex_c3 (hts _ (List.mem_of_getElem? (i := 1) rfl)) (hts _ (List.mem_of_getElem? (i := 2) rfl)) (fun w h => hts w (List.mem_cons_of_mem _ (List.mem_append_left _ (List.mem_append_left _ (List.mem_append_right _ h))))) hs (by decide +kernel) hne hP hD hS (by rw [hml]; exact hl.1) hP1 dX3_copy_38 dX3_copy_41 dX3_copy_42 dX3_copy_44 dX3_copy_47 (Nat.le_of_ble_eq_true rfl) (Nat.le_of_ble_eq_true rfl) (Nat.le_of_ble_eq_true rfl) (Nat.le_of_ble_eq_true rfl) hk
set_option maxHeartbeats 4000000 in
set_option maxRecDepth 100000 in
theorem wx_X3_key_18 {p : Program} {l : Launch} {e : Env} {s : State} {m : MethodId} {args : Array Value} {below : List Frame} {meth : Method} {c : Code} {G : va_G} {g : Nat → ClassId} (X : cx p s m args meth c cX3_key 5 (some .int) RX3 wsX3_key) (K : amb G g s) {A : Nat → Prop} (hA : ∀ q : Nat, s.heap.size ≤ q → A q) (hs : exS A s s.heap) (hne : ∀ x ∈ c.exceptionTable.toList, False) (hf0 : l.stackTraces = false) (P1 : va_W → Prop) (ad : Nat → Nat) (bd : Nat → Nat → Nat) (sc : Int32) (tl : Int32) (tat : Int32) (tb : Nat → Int32) (sn : Nat → Nat → Int32) (sf : Nat → Nat → Nat → Int32) (tn : Int32) (tf : Nat → Int32) (vv : Nat → Int32) (ov : Nat → Int32) (cn : Nat → Int32) (cf : Nat → Nat → Int32) (v1 : Int32) (v2 : Int32) (v3 : Nat) (lv3 : v3 < 4) (hP1 : P1 (wX g ad bd sc tl tat tb cn cf sn sf tn tf vv ov)) (nn : Nat) (hq : F_X3_key_18 cn cf v1 v2 v3 = some (.inl nn)) : ∀ (H : Heap) (locs : List Loc), va_P G vwCl (wX g ad bd sc tl tat tb cn cf sn sf tn tf vv ov) H → va_D A (wX g ad bd sc tl tat tb cn cf sn sf tn tf vv ov) → va_S A s.heap H locs → ∀ (ls : Array Slot), lv_has ls 5 [(2, .int v1), (3, .int v2), (4, .ref (cad ad v3))] → W p l e (rmX 7 112) s m args below meth c H locs 0 0 (exM G A below (exN nn) P1 args s) (F0 m 18 ls []) := by
  obtain ⟨hx, hb, hml, hr, hown, hts, hk⟩ := id X
  intro H locs hP hD hS ls hl
  unfold F_X3_key_18 at hq
  refine lv_iload_n hx hb dX3_key_18 rfl (lv_at hl 1 rfl) ?_
  refine lv_iconst (v := 0) hx hb dX3_key_19 (by decide) ?_
  refine lv_bipush (v := 6) hx hb dX3_key_20 (by decide) ?_
  rcases q_thx hq with hh4 | ⟨_, hh4, hq⟩
  · exact exS_call (As := [.int v2, .int 0, .int 6]) (rest := []) X K (kx_X3_requireRange l hf0 G g v2 0 6 _ hh4) hd_X3_requireRange gX3_key_X3_requireRange hP hD hS hA hs foc_nil (fun w h => by subst h; exact hP1) hne hl.1 dX3_key_22 rfl rfl ⟨Nat.le_of_ble_eq_true rfl, Nat.le_of_ble_eq_true rfl⟩ rfl (Nat.le_of_ble_eq_true rfl) ⟨Nat.le_of_ble_eq_true rfl, Nat.le_of_ble_eq_true rfl⟩ hk
  refine roS (As := [.int v2, .int 0, .int 6]) (rest := []) X K (k_X3_requireRange l G g v2 0 6 _ hh4) hd_X3_requireRange gX3_key_X3_requireRange (va_P.none G) hl.1 dX3_key_22 rfl rfl ⟨Nat.le_of_ble_eq_true rfl, Nat.le_of_ble_eq_true rfl⟩ rfl (Nat.le_of_ble_eq_true rfl) ⟨Nat.zero_le _, Nat.zero_le _⟩ ?_
  refine lv_iload_n hx hb dX3_key_25 rfl (lv_at hl 0 rfl) ?_
  refine lv_iconst (v := (-1)) hx hb dX3_key_26 (by decide) ?_
  refine lv_icmp_ne (tgt := 38) hx hb dX3_key_27 (by decide) (fun c5 => ?_) (fun c5 => ?_)
  · have hq := q_if_f hq c5
    refine lv_aload hx hb dX3_key_38 (lv_at hl 2 rfl) ?_
    refine lv_iload_n hx hb dX3_key_40 rfl (lv_at hl 0 rfl) ?_
    refine lv_iload_n hx hb dX3_key_41 rfl (lv_at hl 1 rfl) ?_
    obtain ⟨r6, hh7, hq⟩ := q_bd hq
    refine roS (As := [.ref (cad ad v3), .int v1, .int v2]) (rest := []) X K (k_X3_aboutKey l G g (cad ad v3) (aad ad v3) (cn v3) (cf v3) v1 v2 _ hh7) hd_X3_aboutKey gX3_key_X3_aboutKey (sub_c lv3 hP) hl.1 dX3_key_42 rfl rfl ⟨Nat.le_of_ble_eq_true rfl, Nat.le_of_ble_eq_true rfl⟩ rfl (Nat.le_of_ble_eq_true rfl) ⟨Nat.zero_le _, Nat.zero_le _⟩ ?_
    exact q_rl hq
  · have hq := q_if_t hq c5
    refine lv_aload hx hb dX3_key_30 (lv_at hl 2 rfl) ?_
    refine va_getN (D := G) (ci := 0) (v := .int (cn v3)) (C := RX0) (T := TX0) (N := 2) (host := RX3) hx hb hts in_X3_key_X0 hown K.1 (sub_c lv3 hP) 0 rfl rfl 0 (by decide) ((K.2.2 (RX3, 53, RX0, "count", "I", RX3) (by decide +kernel)).use rfl) (fun _ h9 => h9) rfl dX3_key_32 ?_
    refine lv_goto (tgt := 45) hx hb dX3_key_35 (by decide) ?_
    exact q_rl hq
set_option maxHeartbeats 4000000 in
set_option maxRecDepth 100000 in
theorem kx_X3_key (l : Launch) (hf0 : l.stackTraces = false) (G : va_G) (g : Nat → ClassId) (ad : Nat → Nat) (bd : Nat → Nat → Nat) (sc : Int32) (tl : Int32) (tat : Int32) (tb : Nat → Int32) (cn : Nat → Int32) (cf : Nat → Nat → Int32) (sn : Nat → Nat → Int32) (sf : Nat → Nat → Nat → Int32) (tn : Int32) (tf : Nat → Int32) (vv : Nat → Int32) (ov : Nat → Int32) (p1 : Int32) (p2 : Int32) (p3 : Int32) (nn : Nat) (hq : F_X3_key cn cf p1 p2 p3 = some (.inl nn)) : exC l yX3_key wsX3_key (rmX 7 112) G g [.ref (ad 0), .int p1, .int p2, .int p3] (wX g ad bd sc tl tat tb cn cf sn sf tn tf vv ov) (exN nn) (fun w : va_W => w = (wX g ad bd sc tl tat tb cn cf sn sf tn tf vv ov)) := by
  refine exC.of (cc := cX3_key) (maxL := 5) (ret := (some .int)) (by decide) rfl (Nat.le_of_ble_eq_true rfl) ?_
  intro p e s m below meth c ls A X K hA hP hD hS hs hne hl
  obtain ⟨hx, hb, hml, hr, hown, hts, hk⟩ := id X
  have hl : lv_has ls 5 [(0, .ref (ad 0)), (1, .int p1), (2, .int p2), (3, .int p3)] := hl
  have hP1 : (fun w : va_W => w = (wX g ad bd sc tl tat tb cn cf sn sf tn tf vv ov)) (wX g ad bd sc tl tat tb cn cf sn sf tn tf vv ov) := rfl
  unfold F_X3_key at hq
  refine lv_aload_n hx hb dX3_key_0 rfl (lv_at hl 0 rfl) ?_
  refine lv_iload_n hx hb dX3_key_1 rfl (lv_at hl 1 rfl) ?_
  rcases q_thx hq with hh2 | ⟨r1, hh2, hq⟩
  · exact exV_call (ci := 3) (As := [.int p1]) (rest := []) X K (kx_X3_curveNumbered l hf0 G g ad bd sc tl tat tb cn cf sn sf tn tf vv ov p1 _ hh2) hd_X3_curveNumbered gX3_key_X3_curveNumbered hP hD hS hA hs foc_id (fun w h => by subst h; exact hP1) hne hl.1 dX3_key_2 rfl rfl ⟨Nat.le_of_ble_eq_true rfl, Nat.le_of_ble_eq_true rfl⟩ rfl rfl rfl (Nat.le_of_ble_eq_true rfl) ⟨Nat.le_of_ble_eq_true rfl, Nat.le_of_ble_eq_true rfl⟩ hk
  refine roV (ci := 3) (As := [.int p1]) (rest := []) X K (k_X3_curveNumbered l G g ad bd sc tl tat tb cn cf sn sf tn tf vv ov p1 _ hh2) hd_X3_curveNumbered gX3_key_X3_curveNumbered hP hl.1 dX3_key_2 rfl rfl ⟨Nat.le_of_ble_eq_true rfl, Nat.le_of_ble_eq_true rfl⟩ rfl rfl rfl (Nat.le_of_ble_eq_true rfl) ⟨Nat.zero_le _, Nat.zero_le _⟩ ?_
  have lr1 := F_X3_curveNumbered_lt hh2
  refine lv_astore (lv' := [(4, .ref (cad ad r1)), (0, .ref (ad 0)), (1, .int p1), (2, .int p2), (3, .int p3)]) hx hb dX3_key_5 hl (by decide) rfl (fun ls hl => ?_)
  refine lv_iload_n hx hb dX3_key_7 rfl (lv_at hl 3 rfl) ?_
  refine lv_iconst (v := (-1)) hx hb dX3_key_8 (by decide) ?_
  refine lv_icmp_eq (tgt := 18) hx hb dX3_key_9 (by decide) (fun c3 => ?_) (fun c3 => ?_)
  · have hq := q_if_t hq c3
    exact wx_X3_key_18 X K hA hs hne hf0 (fun w : va_W => w = (wX g ad bd sc tl tat tb cn cf sn sf tn tf vv ov)) ad bd sc tl tat tb sn sf tn tf vv ov cn cf p2 p3 r1 lr1 hP1 _ hq _ _ hP hD hS ls (lv_sub hl [3, 4, 0] rfl)
  · have hq := q_if_f hq c3
    refine lv_aload hx hb dX3_key_12 (lv_at hl 0 rfl) ?_
    refine lv_iload_n hx hb dX3_key_14 rfl (lv_at hl 3 rfl) ?_
    rcases q_thx hq with hh4 | ⟨_, hh4, hq⟩
    · exact exS_call (As := [.ref (cad ad r1), .int p2]) (rest := []) X K (kx_X3_requireKey l hf0 G g (cad ad r1) (aad ad r1) (cn r1) (cf r1) p2 _ hh4) hd_X3_requireKey gX3_key_X3_requireKey hP hD hS hA hs ((foc_c_X0_insert (n_cn := 0) (n_cf := fun _ => 0) lr1).same) (fun w h => by subst h; exact hP1) hne hl.1 dX3_key_15 rfl rfl ⟨Nat.le_of_ble_eq_true rfl, Nat.le_of_ble_eq_true rfl⟩ rfl (Nat.le_of_ble_eq_true rfl) ⟨Nat.le_of_ble_eq_true rfl, Nat.le_of_ble_eq_true rfl⟩ hk
    refine roS (As := [.ref (cad ad r1), .int p2]) (rest := []) X K (k_X3_requireKey l G g (cad ad r1) (aad ad r1) (cn r1) (cf r1) p2 _ hh4) hd_X3_requireKey gX3_key_X3_requireKey (sub_c lr1 hP) hl.1 dX3_key_15 rfl rfl ⟨Nat.le_of_ble_eq_true rfl, Nat.le_of_ble_eq_true rfl⟩ rfl (Nat.le_of_ble_eq_true rfl) ⟨Nat.zero_le _, Nat.zero_le _⟩ ?_
    exact wx_X3_key_18 X K hA hs hne hf0 (fun w : va_W => w = (wX g ad bd sc tl tat tb cn cf sn sf tn tf vv ov)) ad bd sc tl tat tb sn sf tn tf vv ov cn cf p2 p3 r1 lr1 hP1 _ hq _ _ hP hD hS ls (lv_sub hl [3, 4, 0] rfl)
set_option maxHeartbeats 4000000 in
set_option maxRecDepth 100000 in
theorem kx_X3_value (l : Launch) (hf0 : l.stackTraces = false) (G : va_G) (g : Nat → ClassId) (ad : Nat → Nat) (bd : Nat → Nat → Nat) (sc : Int32) (tl : Int32) (tat : Int32) (tb : Nat → Int32) (cn : Nat → Int32) (cf : Nat → Nat → Int32) (sn : Nat → Nat → Int32) (sf : Nat → Nat → Nat → Int32) (tn : Int32) (tf : Nat → Int32) (vv : Nat → Int32) (ov : Nat → Int32) (p1 : Int32) (p2 : Int32) (nn : Nat) (hq : F_X3_value cn cf p1 p2 = some (.inl nn)) : exC l yX3_value wsX3_value (rmX 7 112) G g [.ref (ad 0), .int p1, .int p2] (wX g ad bd sc tl tat tb cn cf sn sf tn tf vv ov) (exN nn) (fun w : va_W => w = (wX g ad bd sc tl tat tb cn cf sn sf tn tf vv ov)) := by
  refine exC.of (cc := cX3_value) (maxL := 4) (ret := (some .int)) (by decide) rfl (Nat.le_of_ble_eq_true rfl) ?_
  intro p e s m below meth c ls A X K hA hP hD hS hs hne hl
  obtain ⟨hx, hb, hml, hr, hown, hts, hk⟩ := id X
  have hl : lv_has ls 4 [(0, .ref (ad 0)), (1, .int p1), (2, .int p2)] := hl
  have hP1 : (fun w : va_W => w = (wX g ad bd sc tl tat tb cn cf sn sf tn tf vv ov)) (wX g ad bd sc tl tat tb cn cf sn sf tn tf vv ov) := rfl
  unfold F_X3_value at hq
  refine lv_aload_n hx hb dX3_value_0 rfl (lv_at hl 0 rfl) ?_
  refine lv_iload_n hx hb dX3_value_1 rfl (lv_at hl 1 rfl) ?_
  rcases q_thx hq with hh2 | ⟨r1, hh2, hq⟩
  · exact exV_call (ci := 3) (As := [.int p1]) (rest := []) X K (kx_X3_curveNumbered l hf0 G g ad bd sc tl tat tb cn cf sn sf tn tf vv ov p1 _ hh2) hd_X3_curveNumbered gX3_value_X3_curveNumbered hP hD hS hA hs foc_id (fun w h => by subst h; exact hP1) hne hl.1 dX3_value_2 rfl rfl ⟨Nat.le_of_ble_eq_true rfl, Nat.le_of_ble_eq_true rfl⟩ rfl rfl rfl (Nat.le_of_ble_eq_true rfl) ⟨Nat.le_of_ble_eq_true rfl, Nat.le_of_ble_eq_true rfl⟩ hk
  refine roV (ci := 3) (As := [.int p1]) (rest := []) X K (k_X3_curveNumbered l G g ad bd sc tl tat tb cn cf sn sf tn tf vv ov p1 _ hh2) hd_X3_curveNumbered gX3_value_X3_curveNumbered hP hl.1 dX3_value_2 rfl rfl ⟨Nat.le_of_ble_eq_true rfl, Nat.le_of_ble_eq_true rfl⟩ rfl rfl rfl (Nat.le_of_ble_eq_true rfl) ⟨Nat.zero_le _, Nat.zero_le _⟩ ?_
  have lr1 := F_X3_curveNumbered_lt hh2
  refine lv_astore_n (lv' := [(3, .ref (cad ad r1)), (0, .ref (ad 0)), (1, .int p1), (2, .int p2)]) hx hb dX3_value_5 rfl hl (by decide) rfl (fun ls hl => ?_)
  refine lv_iload_n hx hb dX3_value_6 rfl (lv_at hl 3 rfl) ?_
  refine lv_iconst (v := 0) hx hb dX3_value_7 (by decide) ?_
  refine lv_sipush (v := 999) hx hb dX3_value_8 (by decide) ?_
  rcases q_thx hq with hh3 | ⟨_, hh3, hq⟩
  · exact exS_call (As := [.int p2, .int 0, .int 999]) (rest := []) X K (kx_X3_requireRange l hf0 G g p2 0 999 _ hh3) hd_X3_requireRange gX3_value_X3_requireRange hP hD hS hA hs foc_nil (fun w h => by subst h; exact hP1) hne hl.1 dX3_value_11 rfl rfl ⟨Nat.le_of_ble_eq_true rfl, Nat.le_of_ble_eq_true rfl⟩ rfl (Nat.le_of_ble_eq_true rfl) ⟨Nat.le_of_ble_eq_true rfl, Nat.le_of_ble_eq_true rfl⟩ hk
  refine roS (As := [.int p2, .int 0, .int 999]) (rest := []) X K (k_X3_requireRange l G g p2 0 999 _ hh3) hd_X3_requireRange gX3_value_X3_requireRange (va_P.none G) hl.1 dX3_value_11 rfl rfl ⟨Nat.le_of_ble_eq_true rfl, Nat.le_of_ble_eq_true rfl⟩ rfl (Nat.le_of_ble_eq_true rfl) ⟨Nat.zero_le _, Nat.zero_le _⟩ ?_
  refine lv_aload_n hx hb dX3_value_14 rfl (lv_at hl 0 rfl) ?_
  refine lv_iload_n hx hb dX3_value_15 rfl (lv_at hl 3 rfl) ?_
  obtain ⟨r4, hh5, hq⟩ := q_bd hq
  refine roN (ci := 0) (host := RX3) (As := [.int p2]) (rest := []) X K (k_X0_valueAt l G g (cad ad r1) (aad ad r1) (cn r1) (cf r1) p2 _ hh5) hd_X0_valueAt ggX3_value_X0_valueAt (by decide +kernel) (List.mem_of_getElem? (i := 15) rfl) (List.mem_of_getElem? (i := 14) rfl) (List.mem_of_getElem? (i := 16) rfl) (sub_c lr1 hP) hl.1 dX3_value_16 rfl rfl ⟨Nat.le_of_ble_eq_true rfl, Nat.le_of_ble_eq_true rfl⟩ rfl rfl rfl (Nat.le_of_ble_eq_true rfl) ⟨Nat.zero_le _, Nat.zero_le _⟩ ?_
  exact q_rl hq

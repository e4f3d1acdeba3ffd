/-! ===== the whole world of the system ===== -/
theorem va_P.none (G : va_G) {H : Heap} : va_P G vwCl [] H := fun k q h => by simp at h
theorem ix_lt {i : Int32} {n : Nat} (h : ix i n) : i.toNatClampNeg < n := Nat.not_le.mp fun q => (vp_in_iff.mpr h) (Or.inr q)
theorem vq4_at (f : Nat → Nat) {k : Nat} (h : k < 4) : vq4 (f 0) (f 1) (f 2) (f 3) k = some (f k) := by
  match k, h with
  | 0, _ => rfl
  | 1, _ => rfl
  | 2, _ => rfl
  | 3, _ => rfl
theorem vq4_s0 {a b c d x : Nat} : va_up (vq4 a b c d) 0 (some x) = vq4 x b c d := by funext k; unfold va_up vq4; split <;> simp_all
theorem vq4_s1 {a b c d x : Nat} : va_up (vq4 a b c d) 1 (some x) = vq4 a x c d := by funext k; unfold va_up vq4; split <;> simp_all
theorem vq4_s2 {a b c d x : Nat} : va_up (vq4 a b c d) 2 (some x) = vq4 a b x d := by funext k; unfold va_up vq4; split <;> simp_all
theorem vq4_s3 {a b c d x : Nat} : va_up (vq4 a b c d) 3 (some x) = vq4 a b c x := by funext k; unfold va_up vq4; split <;> simp_all
def rot4 {α : Type} (f : Nat → α) : Nat → α := fun j => f ((j + 1) % 4)
def vu {α : Type} (f : Nat → α) (k : Nat) (v : α) : Nat → α := fun j => bif Nat.beq j k then v else f j
def v4 {α : Type} (a b c d : α) : Nat → α
  | 0 => a
  | 1 => b
  | 2 => c
  | _ => d
abbrev cad (ad : Nat → Nat) (k : Nat) : Nat := ad (10 + 2 * k)
abbrev aad (ad : Nat → Nat) (k : Nat) : Nat := ad (11 + 2 * k)
def wXh (g : Nat → ClassId) (ad : Nat → Nat) (bd : Nat → Nat → Nat) (sc tl tat : Int32) (tb : Nat → Int32) (cn : Nat → Int32) (cf : Nat → Nat → Int32) (tn : Int32) (tf vv ov : Nat → Int32) : va_W :=
  [(ad 0, .inr (3, [.ref (ad 1), .ref (ad 3), .int sc, .ref (ad 4), .ref (ad 6), .ref (ad 8), .ref (ad 9)])), (ad 1, .inr (2, [.ref (ad 2)])), (ad 2, .inl (g 2, 4, .inr (.inr (.inr (.inr (vq4 (cad ad 0) (cad ad 1) (cad ad 2) (cad ad 3))))))), (ad 3, .inl (g 3, 4, .inr (.inr (.inr (.inr (vq4 (bd 0 0) (bd 1 0) (bd 2 0) (bd 3 0))))))),
   (ad 4, .inr (1, [.ref (ad 5), .int tl, .int tat])), (ad 5, .inl (g 1, 150, .inl tb)), (ad 6, .inr (0, [.int tn, .ref (ad 7)])), (ad 7, .inl (g 0, 96, .inl tf)), (ad 8, .inl (g 0, 1000, .inl vv)), (ad 9, .inl (g 0, 1000, .inl ov)),
   (cad ad 0, .inr (0, [.int (cn 0), .ref (aad ad 0)])), (aad ad 0, .inl (g 0, 96, .inl (cf 0))), (cad ad 1, .inr (0, [.int (cn 1), .ref (aad ad 1)])), (aad ad 1, .inl (g 0, 96, .inl (cf 1))), (cad ad 2, .inr (0, [.int (cn 2), .ref (aad ad 2)])), (aad ad 2, .inl (g 0, 96, .inl (cf 2))), (cad ad 3, .inr (0, [.int (cn 3), .ref (aad ad 3)])), (aad ad 3, .inl (g 0, 96, .inl (cf 3)))]
def wXt (g : Nat → ClassId) (bd : Nat → Nat → Nat) (sn : Nat → Nat → Int32) (sf : Nat → Nat → Nat → Int32) : va_W :=
  [(bd 0 0, .inr (2, [.ref (bd 0 1)])), (bd 0 1, .inl (g 2, 4, .inr (.inr (.inr (.inr (vq4 (bd 0 2) (bd 0 4) (bd 0 6) (bd 0 8))))))), (bd 0 2, .inr (0, [.int (sn 0 0), .ref (bd 0 3)])), (bd 0 3, .inl (g 0, 96, .inl (sf 0 0))), (bd 0 4, .inr (0, [.int (sn 0 1), .ref (bd 0 5)])), (bd 0 5, .inl (g 0, 96, .inl (sf 0 1))), (bd 0 6, .inr (0, [.int (sn 0 2), .ref (bd 0 7)])), (bd 0 7, .inl (g 0, 96, .inl (sf 0 2))), (bd 0 8, .inr (0, [.int (sn 0 3), .ref (bd 0 9)])), (bd 0 9, .inl (g 0, 96, .inl (sf 0 3))),
   (bd 1 0, .inr (2, [.ref (bd 1 1)])), (bd 1 1, .inl (g 2, 4, .inr (.inr (.inr (.inr (vq4 (bd 1 2) (bd 1 4) (bd 1 6) (bd 1 8))))))), (bd 1 2, .inr (0, [.int (sn 1 0), .ref (bd 1 3)])), (bd 1 3, .inl (g 0, 96, .inl (sf 1 0))), (bd 1 4, .inr (0, [.int (sn 1 1), .ref (bd 1 5)])), (bd 1 5, .inl (g 0, 96, .inl (sf 1 1))), (bd 1 6, .inr (0, [.int (sn 1 2), .ref (bd 1 7)])), (bd 1 7, .inl (g 0, 96, .inl (sf 1 2))), (bd 1 8, .inr (0, [.int (sn 1 3), .ref (bd 1 9)])), (bd 1 9, .inl (g 0, 96, .inl (sf 1 3))),
   (bd 2 0, .inr (2, [.ref (bd 2 1)])), (bd 2 1, .inl (g 2, 4, .inr (.inr (.inr (.inr (vq4 (bd 2 2) (bd 2 4) (bd 2 6) (bd 2 8))))))), (bd 2 2, .inr (0, [.int (sn 2 0), .ref (bd 2 3)])), (bd 2 3, .inl (g 0, 96, .inl (sf 2 0))), (bd 2 4, .inr (0, [.int (sn 2 1), .ref (bd 2 5)])), (bd 2 5, .inl (g 0, 96, .inl (sf 2 1))), (bd 2 6, .inr (0, [.int (sn 2 2), .ref (bd 2 7)])), (bd 2 7, .inl (g 0, 96, .inl (sf 2 2))), (bd 2 8, .inr (0, [.int (sn 2 3), .ref (bd 2 9)])), (bd 2 9, .inl (g 0, 96, .inl (sf 2 3))),
   (bd 3 0, .inr (2, [.ref (bd 3 1)])), (bd 3 1, .inl (g 2, 4, .inr (.inr (.inr (.inr (vq4 (bd 3 2) (bd 3 4) (bd 3 6) (bd 3 8))))))), (bd 3 2, .inr (0, [.int (sn 3 0), .ref (bd 3 3)])), (bd 3 3, .inl (g 0, 96, .inl (sf 3 0))), (bd 3 4, .inr (0, [.int (sn 3 1), .ref (bd 3 5)])), (bd 3 5, .inl (g 0, 96, .inl (sf 3 1))), (bd 3 6, .inr (0, [.int (sn 3 2), .ref (bd 3 7)])), (bd 3 7, .inl (g 0, 96, .inl (sf 3 2))), (bd 3 8, .inr (0, [.int (sn 3 3), .ref (bd 3 9)])), (bd 3 9, .inl (g 0, 96, .inl (sf 3 3)))]
def wX (g : Nat → ClassId) (ad : Nat → Nat) (bd : Nat → Nat → Nat) (sc tl tat : Int32) (tb : Nat → Int32) (cn : Nat → Int32) (cf : Nat → Nat → Int32) (sn : Nat → Nat → Int32) (sf : Nat → Nat → Nat → Int32) (tn : Int32) (tf vv ov : Nat → Int32) : va_W := wXh g ad bd sc tl tat tb cn cf tn tf vv ov ++ wXt g bd sn sf
theorem va_P.mem {G : va_G} {ws : va_W} {H : Heap} : va_P G vwCl ws H ↔ ∀ q ∈ ws, va_at G vwCl q H := by
  constructor
  · intro h q hq
    obtain ⟨i, hi⟩ := List.getElem?_of_mem hq
    exact h i q hi
  · intro h k q hk
    exact h q (List.mem_of_getElem? hk)
theorem va_P.perm {G : va_G} {ws ws' : va_W} {H : Heap} (hp : ws.Perm ws') (h : va_P G vwCl ws H) : va_P G vwCl ws' H := va_P.mem.mpr fun q hq => va_P.mem.mp h q (hp.mem_iff.mpr hq)
theorem va_D.nd {A : Nat → Prop} {ws : va_W} (h : va_D A ws) : (ws.map Prod.fst).Nodup := by
  rw [List.nodup_iff_pairwise_ne, List.pairwise_iff_getElem]
  intro i j hi hj hij e
  simp only [List.length_map] at hi hj
  simp only [List.getElem_map] at e
  have h1 := h.1 i j ws[i] ws[j] (List.getElem?_eq_getElem hi) (List.getElem?_eq_getElem hj) e
  omega
theorem va_D.of {A : Nat → Prop} {ws : va_W} (h : (ws.map Prod.fst).Nodup) (hA : ∀ q ∈ ws, A q.1) : va_D A ws := by
  refine ⟨fun i j p q hi hj e => ?_, fun k q hk => hA q (List.mem_of_getElem? hk)⟩
  have h1 : (ws.map Prod.fst)[i]? = some p.1 := by rw [List.getElem?_map, hi]; rfl
  have h2 : (ws.map Prod.fst)[j]? = some p.1 := by rw [List.getElem?_map, hj, e]; rfl
  have hl : i < (ws.map Prod.fst).length := (List.getElem?_eq_some_iff.mp h1).1
  exact (List.getElem?_inj hl h).mp (h1.trans h2.symm)
theorem va_D.mem {A : Nat → Prop} {ws : va_W} (h : va_D A ws) : ∀ q ∈ ws, A q.1 := fun q hq => by
  obtain ⟨i, hi⟩ := List.getElem?_of_mem hq
  exact h.2 i q hi
theorem va_D.perm {A : Nat → Prop} {ws ws' : va_W} (hp : ws.Perm ws') (h : va_D A ws) : va_D A ws' := va_D.of ((hp.map Prod.fst).nodup h.nd) fun q hq => h.mem q (hp.mem_iff.mpr hq)
/-- the cells wc stand in the world ws; once they are w1, the world is ws1 -/
def focus (ws wc w1 ws1 : va_W) : Prop := ∃ wr : va_W, ws.Perm (wr ++ wc) ∧ (wr ++ w1).Perm ws1
theorem foc_id {ws w1 : va_W} : focus ws ws w1 w1 := ⟨[], List.Perm.refl _, List.Perm.refl _⟩
theorem focus.tail {ws wc w1 ws1 : va_W} (t : va_W) (f : focus ws wc w1 ws1) : focus (ws ++ t) wc w1 (ws1 ++ t) := by
  obtain ⟨wr, h1, h2⟩ := f
  refine ⟨wr ++ t, (h1.append_right t).trans ?_, List.Perm.trans ?_ (h2.append_right t)⟩
  · rw [List.append_assoc, List.append_assoc]; exact (List.perm_append_comm).append_left wr
  · rw [List.append_assoc, List.append_assoc]; exact (List.perm_append_comm).append_left wr
theorem perm_pick {ws : va_W} {n : Nat} (hn : ws.length = n) {is : List Nat} (hp : is.Perm (List.range n)) : ws.Perm (is.filterMap (fun i => ws[i]?)) := by
  have h := (hp.filterMap (fun i => ws[i]?)).symm
  have e : (List.range n).filterMap (fun i => ws[i]?) = ws := by
    have h1 : (List.range n).filterMap (fun i => ws[i]?) = ((List.range n).map (fun i => ws[i]?)).filterMap id := by rw [List.filterMap_map]; rfl
    have h2 : (List.range n).map (fun i => ws[i]?) = ws.map some := by
      subst hn
      apply List.ext_getElem?
      intro i
      by_cases h : i < ws.length
      · simp [h]
      · simp [h]
    rw [h1, h2, List.filterMap_map]
    exact List.filterMap_some
  rw [e] at h
  exact h
theorem focus.mk {ws wc w1 ws1 : va_W} {n : Nat} (isC isR isC1 isR1 : List Nat) (wr : va_W) (hp : (isR ++ isC).Perm (List.range n)) (hp1 : (isR1 ++ isC1).Perm (List.range n)) (hn : ws.length = n) (hn1 : ws1.length = n) (h1 : isC.filterMap (fun i => ws[i]?) = wc) (h2 : isR.filterMap (fun i => ws[i]?) = wr) (h4 : isR1.filterMap (fun i => ws1[i]?) = wr) (h3 : isC1.filterMap (fun i => ws1[i]?) = w1) : focus ws wc w1 ws1 := by
  refine ⟨wr, ?_, ?_⟩
  · have h := perm_pick hn hp
    rw [List.filterMap_append, h1, h2] at h
    exact h
  · have h := perm_pick hn1 hp1
    rw [List.filterMap_append, h3, h4] at h
    exact h.symm
theorem focus.sub {G : va_G} {ws wc w1 ws1 : va_W} {H : Heap} (f : focus ws wc w1 ws1) (hP : va_P G vwCl ws H) : va_P G vwCl wc H := by
  obtain ⟨wr, h1, -⟩ := f
  exact va_P.mem.mpr fun q hq => va_P.mem.mp (hP.perm h1) q (List.mem_append_right _ hq)
theorem focus.subD {A : Nat → Prop} {ws wc w1 ws1 : va_W} (f : focus ws wc w1 ws1) (hD : va_D A ws) : va_D A wc := by
  obtain ⟨wr, h1, -⟩ := f
  have h := hD.perm h1
  refine va_D.of ?_ fun q hq => h.mem q (List.mem_append_right _ hq)
  have h2 := h.nd
  rw [List.map_append] at h2
  exact (List.nodup_append.mp h2).2.1
theorem nd_range : ∀ n : Nat, va_nd (List.range n) = true := by
  have h : ∀ (l : List Nat), l.Nodup → va_nd l = true := by
    intro l
    induction l with
    | nil => intro _; rfl
    | cons a l ih =>
      intro hn
      have h2 := List.nodup_cons.mp hn
      simp only [va_nd, Bool.and_eq_true, decide_eq_true_eq]
      exact ⟨h2.1, ih h2.2⟩
  exact fun n => h _ List.nodup_range
section MyRows2
variable {p : Program} {l : Launch} {e : Env} {R : Room} {s : State} {m : MethodId} {args : Array Value} {below : List Frame} {meth : Method} {c : Code} {H H0 : Heap} {locs : List Loc} {cells slots : Nat} {Q : State → Prop} {pc : Nat} {ls : Array Slot}
variable {G : va_G} {g : Nat → ClassId} {A A0 : Nat → Prop} {cc : ByteArray} {nL : Nat} {rt : Option FieldType} {own : String} {Ts : List Cond}
theorem ro_aret {a : Nat} {n : String} (hx : p.tables.exec = Jvm.exec) (hb : c.code = cc) (hr : meth.sig.returnType = some (.object n)) (hk : meth.locks = false) (hdg : decode cc pc = .ok (.areturn, 1)) : W p l e R s m args below meth c s.heap [] 0 0 (roM below (some (.ref a)) args s) (F0 m pc ls [.ref a]) :=
  W.aret hx hb hr (Or.inl ⟨n, rfl⟩) (Or.inr ⟨a, rfl⟩) (fun t ht _ => ⟨rfl, ht⟩) (fun q hq => absurd hq List.not_mem_nil) hdg hk
theorem rw_gof {a : Array Value} {v : Option Value} {st0 rest : List Value} {ws wc w1 ws1 : va_W} (hr : va_Run p l e R s m args below meth c H locs cells slots 0 0 (F0 m pc ls st0) rest (rwQ G (va_A wc H.size) v w1 a) (va_A wc H.size))
    (hP : va_P G vwCl ws H) (hD : va_D A0 ws) (hS : va_S A0 H0 H locs) (hA : ∀ q, H0.size ≤ q → A0 q) (f : focus ws wc w1 ws1)
    (kk : ∀ (H1 : Heap) (locs1 : List Loc), va_P G vwCl ws1 H1 → va_D A0 ws1 → va_S A0 H0 H1 locs1 → W p l e R s m args below meth c H1 locs1 cells slots Q (F0 m (pc + 3) ls (v.toList ++ rest))) : W p l e R s m args below meth c H locs cells slots Q (F0 m pc ls st0) := by
  obtain ⟨wr, h1, h2⟩ := f
  refine rw_go hr (hP.perm h1) (hD.perm h1) hS hA ((List.range wc.length).map (fun i => wr.length + i)) (List.range wr.length) ?_ ?_ (nd_range _) ?_ (fun H1 locs1 hP1 hD1 hS1 => kk H1 locs1 (hP1.perm h2) (hD1.perm h2) hS1)
  · rw [List.map_map]
    apply List.ext_getElem?
    intro i
    by_cases h : i < wc.length
    · simp [h]
    · simp [h]
  · apply List.ext_getElem?
    intro i
    by_cases h : i < wr.length
    · simp [h, List.getElem?_append_left h]
    · simp [h]
  · intro i hi hc
    obtain ⟨j, -, hj⟩ := List.mem_map.mp hc
    have := List.mem_range.mp hi
    omega
theorem rwVf (X : cx p s m args meth c cc nL rt own Ts) (K : amb G g s) {y : MethodName} {ws' wsy : List Cond} {fr lo n index maxL ci N : Nat} {bytes : ByteArray} {ret : Option FieldType} {b : Addr} {As rest st0 fs : List Value} {ws wc w1 ws1 : va_W} {v : Option Value} {T : u_T}
    (hM : rwC l y wsy (rmF fr lo) G g (.ref b :: As) wc v w1) (hd : ynm y n) (hT : GoodIn Ts (wsV own index y.cls y wsy)) (hP : va_P G vwCl ws H) (hD : va_D A0 ws) (hS : va_S A0 H0 H locs) (hA : ∀ q, H0.size ≤ q → A0 q) (f : focus ws wc w1 ws1) (hls : ls.size = nL) (hdg : decode cc pc = .ok (.invokevirtual index, 3)) (hw : wsy = Cond.code y bytes maxL ret :: ws') (hn : As.length = n) (hR : fr + 1 ≤ R.frames ∧ 8 + (maxL + 11) + lo ≤ R.locals) (hc : vwCl[ci]? = some (y.cls, T, N)) (h0 : wc[0]? = some (b, .inr (ci, fs))) (hst : st0 = As.reverse ++ .ref b :: rest) (hsum : (rest.map fun v => v.category).sum ≤ 8) (hf : cells ≤ R.cells ∧ slots ≤ R.slots)
    (kk : ∀ (H1 : Heap) (locs1 : List Loc), va_P G vwCl ws1 H1 → va_D A0 ws1 → va_S A0 H0 H1 locs1 → W p l e R s m args below meth c H1 locs1 cells slots Q (F0 m (pc + 3) ls (v.toList ++ rest))) : W p l e R s m args below meth c H locs cells slots Q (F0 m pc ls st0) := by
  have hPc : va_P G vwCl wc H := f.sub hP
  have hDc : va_D A0 wc := f.subD hD
  exact rw_gof (va_runV (C := y.cls) X.fix (hM H.size) (cwV n X.2.2.2.2.2.1 hT hw rfl rfl ⟨rfl, hd⟩ hR) ⟨rwP.blind, va_recv K.1 hPc hc h0, fun U hU hW => ⟨rfl, by rw [hU], by rw [hU]; exact hPc, K.warm hW, hDc.weaken (fun _ _ _ _ => trivial)⟩⟩ rfl hn hls hst (lv_room hsum) hdg hf) hP hD hS hA f kk
theorem rwNf (X : cx p s m args meth c cc nL rt own Ts) (K : amb G g s) {y : MethodName} {ws' wsy : List Cond} {fr lo n index maxL ci N : Nat} {bytes : ByteArray} {ret : Option FieldType} {b : Addr} {As rest st0 fs : List Value} {ws wc w1 ws1 : va_W} {v : Option Value} {T : u_T} {host : String}
    (hM : rwC l y wsy (rmF fr lo) G g (.ref b :: As) wc v w1) (hd : ynm y n) (hT : GoodIn Ts wsy) (hns : (own, index, y, host) ∈ nsM) (hini : Cond.initialized y.cls ∈ Ts) (hins : Cond.instanceMethod y ∈ Ts) (hsel : Cond.selects y.cls y y ∈ Ts) (hP : va_P G vwCl ws H) (hD : va_D A0 ws) (hS : va_S A0 H0 H locs) (hA : ∀ q, H0.size ≤ q → A0 q) (f : focus ws wc w1 ws1) (hls : ls.size = nL) (hdg : decode cc pc = .ok (.invokevirtual index, 3)) (hw : wsy = Cond.code y bytes maxL ret :: ws') (hn : As.length = n) (hR : fr + 1 ≤ R.frames ∧ 8 + (maxL + 11) + lo ≤ R.locals) (hc : vwCl[ci]? = some (y.cls, T, N)) (h0 : wc[0]? = some (b, .inr (ci, fs))) (hst : st0 = As.reverse ++ .ref b :: rest) (hsum : (rest.map fun v => v.category).sum ≤ 8) (hf : cells ≤ R.cells ∧ slots ≤ R.slots)
    (kk : ∀ (H1 : Heap) (locs1 : List Loc), va_P G vwCl ws1 H1 → va_D A0 ws1 → va_S A0 H0 H1 locs1 → W p l e R s m args below meth c H1 locs1 cells slots Q (F0 m (pc + 3) ls (v.toList ++ rest))) : W p l e R s m args below meth c H locs cells slots Q (F0 m pc ls st0) := by
  have hPc : va_P G vwCl wc H := f.sub hP
  have hDc : va_D A0 wc := f.subD hD
  exact rw_gof (va_runVN (C := y.cls) (host := host) X.fix (hM H.size) ⟨va_cnB n X.2.2.2.2.2.1 hT hw rfl rfl (K.2.1 _ hns) (X.2.2.2.2.2.1 _ hini) hd hR, X.2.2.2.2.2.1 _ hins, X.2.2.2.2.2.1 _ hsel⟩ ⟨rwP.blind, va_recv K.1 hPc hc h0, fun U hU hW => ⟨rfl, by rw [hU], by rw [hU]; exact hPc, K.warm hW, hDc.weaken (fun _ _ _ _ => trivial)⟩⟩ rfl hn hls hst (lv_room hsum) hdg hf) hP hD hS hA f kk
end MyRows2
theorem in_X3_dropOldestState_X3 : ∀ w ∈ wsX30, w ∈ wsX3_dropOldestState := fun _ h => List.mem_cons_of_mem _ (List.mem_append_right _ h)
def F_X3_dropOldestState (sc : Int32) : Option (Int32) := some (3)
set_option maxHeartbeats 4000000 in
set_option maxRecDepth 100000 in
theorem k_X3_dropOldestState (l : Launch) (G : va_G) (g : Nat → ClassId) (x0 sv d0 d1 d2 d3 ps tx tr va vo e0 e1 e2 e3 : Nat) (sc : Int32) (res : Int32) (hq : F_X3_dropOldestState sc = some res) : rwC l yX3_dropOldestState wsX3_dropOldestState (rmF 0 0) G g [.ref x0] [(x0, .inr (3, [.ref ps, .ref sv, .int sc, .ref tx, .ref tr, .ref va, .ref vo])), (sv, .inl (g 3, 4, .inr (.inr (.inr (.inr (vq4 d0 d1 d2 d3)))))), (d0, .inr (2, [.ref e0])), (d1, .inr (2, [.ref e1])), (d2, .inr (2, [.ref e2])), (d3, .inr (2, [.ref e3]))] none [(x0, .inr (3, [.ref ps, .ref sv, .int res, .ref tx, .ref tr, .ref va, .ref vo])), (sv, .inl (g 3, 4, .inr (.inr (.inr (.inr (vq4 d1 d2 d3 d0)))))), (d0, .inr (2, [.ref e0])), (d1, .inr (2, [.ref e1])), (d2, .inr (2, [.ref e2])), (d3, .inr (2, [.ref e3]))] := by
  refine rwC.of (cc := cX3_dropOldestState) (maxL := 3) (ret := none) (by decide) rfl (Nat.le_of_ble_eq_true rfl) ?_
  intro p e s m below meth c ls A X K hA hP hD hS hl
  obtain ⟨hx, hb, hml, hr, hown, hts, hk⟩ := id X
  have hl : lv_has ls 3 [(0, .ref x0)] := hl
  unfold F_X3_dropOldestState at hq
  refine lv_aload_n hx hb dX3_dropOldestState_0 rfl (lv_at hl 0 rfl) ?_
  refine va_get (D := G) (ci := 3) (v := .ref sv) (C := RX3) (T := TX3) (N := 7) hx hb hts in_X3_dropOldestState_X3 hown K.1 hP 0 rfl rfl 1 (by decide) (hts _ (List.mem_of_getElem? (i := 1) rfl)) (fun _ h9 => h9) rfl dX3_dropOldestState_1 ?_
  refine lv_iconst (v := 0) hx hb dX3_dropOldestState_4 (by decide) ?_
  refine va_aldq hx hb K.1 hP 1 3 rfl rfl (vp_in_iff.mpr (by decide)) dX3_dropOldestState_5 ?_
  refine W.eq (g2 := F0 m 6 ls ([.ref d0])) (by rfl) ?_
  refine lv_astore_n (lv' := [(1, .ref d0), (0, .ref x0)]) hx hb dX3_dropOldestState_6 rfl hl (by decide) rfl (fun ls hl => ?_)
  refine lv_iconst (v := 1) hx hb dX3_dropOldestState_7 (by decide) ?_
  refine lv_istore_n (lv' := [(2, .int 1), (1, .ref d0), (0, .ref x0)]) hx hb dX3_dropOldestState_8 rfl hl (by decide) rfl (fun ls hl => ?_)
  refine lv_iload_n hx hb dX3_dropOldestState_9 rfl (lv_at hl 0 rfl) ?_
  refine lv_iconst (v := 4) hx hb dX3_dropOldestState_10 (by decide) ?_
  refine lv_icmp_ge (tgt := 34) hx hb dX3_dropOldestState_11 (by decide) (fun h => absurd h (by decide)) (fun _ => ?_)
  refine lv_aload_n hx hb dX3_dropOldestState_14 rfl (lv_at hl 2 rfl) ?_
  refine va_get (D := G) (ci := 3) (v := .ref sv) (C := RX3) (T := TX3) (N := 7) hx hb hts in_X3_dropOldestState_X3 hown K.1 hP 0 rfl rfl 1 (by decide) (hts _ (List.mem_of_getElem? (i := 1) rfl)) (fun _ h9 => h9) rfl dX3_dropOldestState_15 ?_
  refine lv_iload_n hx hb dX3_dropOldestState_18 rfl (lv_at hl 0 rfl) ?_
  refine lv_iconst (v := 1) hx hb dX3_dropOldestState_19 (by decide) ?_
  refine lv_isub hx hb dX3_dropOldestState_20 ?_
  refine W.eq (g2 := F0 m 21 ls ([.int 0, .ref sv])) (by rfl) ?_
  refine lv_aload_n hx hb dX3_dropOldestState_21 rfl (lv_at hl 2 rfl) ?_
  refine va_get (D := G) (ci := 3) (v := .ref sv) (C := RX3) (T := TX3) (N := 7) hx hb hts in_X3_dropOldestState_X3 hown K.1 hP 0 rfl rfl 1 (by decide) (hts _ (List.mem_of_getElem? (i := 1) rfl)) (fun _ h9 => h9) rfl dX3_dropOldestState_22 ?_
  refine lv_iload_n hx hb dX3_dropOldestState_25 rfl (lv_at hl 0 rfl) ?_
  refine va_aldq hx hb K.1 hP 1 3 rfl rfl (vp_in_iff.mpr (by decide)) dX3_dropOldestState_26 ?_
  refine W.eq (g2 := F0 m 27 ls ([.ref d1, .int 0, .ref sv])) (by rfl) ?_
  refine va_astq hx hb K.1 hP hD hS 1 3 3 2 rfl rfl rfl rfl (vp_in_iff.mpr (by decide)) dX3_dropOldestState_27 (fun H locs hP hD hS => ?_)
  have w1 : va_up (vq4 d0 d1 d2 d3) (Int32.toNatClampNeg 0) (some d1) = (vq4 d1 d1 d2 d3) := vq4_s0
  have hP : va_P G vwCl [(x0, .inr (3, [.ref ps, .ref sv, .int sc, .ref tx, .ref tr, .ref va, .ref vo])), (sv, .inl (g 3, 4, .inr (.inr (.inr (.inr (vq4 d1 d1 d2 d3)))))), (d0, .inr (2, [.ref e0])), (d1, .inr (2, [.ref e1])), (d2, .inr (2, [.ref e2])), (d3, .inr (2, [.ref e3]))] H := by rw [← w1]; exact hP
  have hD : va_D A [(x0, .inr (3, [.ref ps, .ref sv, .int sc, .ref tx, .ref tr, .ref va, .ref vo])), (sv, .inl (g 3, 4, .inr (.inr (.inr (.inr (vq4 d1 d1 d2 d3)))))), (d0, .inr (2, [.ref e0])), (d1, .inr (2, [.ref e1])), (d2, .inr (2, [.ref e2])), (d3, .inr (2, [.ref e3]))] := by rw [← w1]; exact hD
  refine lv_iinc (v := 2) (lv' := [(2, .int 2), (1, .ref d0), (0, .ref x0)]) hx hb dX3_dropOldestState_28 hl (k := 0) rfl (by decide) (by decide) rfl (fun ls hl => ?_)
  refine lv_goto (tgt := 9) hx hb dX3_dropOldestState_31 (by decide) ?_
  refine lv_iload_n hx hb dX3_dropOldestState_9 rfl (lv_at hl 0 rfl) ?_
  refine lv_iconst (v := 4) hx hb dX3_dropOldestState_10 (by decide) ?_
  refine lv_icmp_ge (tgt := 34) hx hb dX3_dropOldestState_11 (by decide) (fun h => absurd h (by decide)) (fun _ => ?_)
  refine lv_aload_n hx hb dX3_dropOldestState_14 rfl (lv_at hl 2 rfl) ?_
  refine va_get (D := G) (ci := 3) (v := .ref sv) (C := RX3) (T := TX3) (N := 7) hx hb hts in_X3_dropOldestState_X3 hown K.1 hP 0 rfl rfl 1 (by decide) (hts _ (List.mem_of_getElem? (i := 1) rfl)) (fun _ h9 => h9) rfl dX3_dropOldestState_15 ?_
  refine lv_iload_n hx hb dX3_dropOldestState_18 rfl (lv_at hl 0 rfl) ?_
  refine lv_iconst (v := 1) hx hb dX3_dropOldestState_19 (by decide) ?_
  refine lv_isub hx hb dX3_dropOldestState_20 ?_
  refine W.eq (g2 := F0 m 21 ls ([.int 1, .ref sv])) (by rfl) ?_
  refine lv_aload_n hx hb dX3_dropOldestState_21 rfl (lv_at hl 2 rfl) ?_
  refine va_get (D := G) (ci := 3) (v := .ref sv) (C := RX3) (T := TX3) (N := 7) hx hb hts in_X3_dropOldestState_X3 hown K.1 hP 0 rfl rfl 1 (by decide) (hts _ (List.mem_of_getElem? (i := 1) rfl)) (fun _ h9 => h9) rfl dX3_dropOldestState_22 ?_
  refine lv_iload_n hx hb dX3_dropOldestState_25 rfl (lv_at hl 0 rfl) ?_
  refine va_aldq hx hb K.1 hP 1 3 rfl rfl (vp_in_iff.mpr (by decide)) dX3_dropOldestState_26 ?_
  refine W.eq (g2 := F0 m 27 ls ([.ref d2, .int 1, .ref sv])) (by rfl) ?_
  refine va_astq hx hb K.1 hP hD hS 1 3 4 2 rfl rfl rfl rfl (vp_in_iff.mpr (by decide)) dX3_dropOldestState_27 (fun H locs hP hD hS => ?_)
  have w2 : va_up (vq4 d1 d1 d2 d3) (Int32.toNatClampNeg 1) (some d2) = (vq4 d1 d2 d2 d3) := vq4_s1
  have hP : va_P G vwCl [(x0, .inr (3, [.ref ps, .ref sv, .int sc, .ref tx, .ref tr, .ref va, .ref vo])), (sv, .inl (g 3, 4, .inr (.inr (.inr (.inr (vq4 d1 d2 d2 d3)))))), (d0, .inr (2, [.ref e0])), (d1, .inr (2, [.ref e1])), (d2, .inr (2, [.ref e2])), (d3, .inr (2, [.ref e3]))] H := by rw [← w2]; exact hP
  have hD : va_D A [(x0, .inr (3, [.ref ps, .ref sv, .int sc, .ref tx, .ref tr, .ref va, .ref vo])), (sv, .inl (g 3, 4, .inr (.inr (.inr (.inr (vq4 d1 d2 d2 d3)))))), (d0, .inr (2, [.ref e0])), (d1, .inr (2, [.ref e1])), (d2, .inr (2, [.ref e2])), (d3, .inr (2, [.ref e3]))] := by rw [← w2]; exact hD
  refine lv_iinc (v := 3) (lv' := [(2, .int 3), (1, .ref d0), (0, .ref x0)]) hx hb dX3_dropOldestState_28 hl (k := 0) rfl (by decide) (by decide) rfl (fun ls hl => ?_)
  refine lv_goto (tgt := 9) hx hb dX3_dropOldestState_31 (by decide) ?_
  refine lv_iload_n hx hb dX3_dropOldestState_9 rfl (lv_at hl 0 rfl) ?_
  refine lv_iconst (v := 4) hx hb dX3_dropOldestState_10 (by decide) ?_
  refine lv_icmp_ge (tgt := 34) hx hb dX3_dropOldestState_11 (by decide) (fun h => absurd h (by decide)) (fun _ => ?_)
  refine lv_aload_n hx hb dX3_dropOldestState_14 rfl (lv_at hl 2 rfl) ?_
  refine va_get (D := G) (ci := 3) (v := .ref sv) (C := RX3) (T := TX3) (N := 7) hx hb hts in_X3_dropOldestState_X3 hown K.1 hP 0 rfl rfl 1 (by decide) (hts _ (List.mem_of_getElem? (i := 1) rfl)) (fun _ h9 => h9) rfl dX3_dropOldestState_15 ?_
  refine lv_iload_n hx hb dX3_dropOldestState_18 rfl (lv_at hl 0 rfl) ?_
  refine lv_iconst (v := 1) hx hb dX3_dropOldestState_19 (by decide) ?_
  refine lv_isub hx hb dX3_dropOldestState_20 ?_
  refine W.eq (g2 := F0 m 21 ls ([.int 2, .ref sv])) (by rfl) ?_
  refine lv_aload_n hx hb dX3_dropOldestState_21 rfl (lv_at hl 2 rfl) ?_
  refine va_get (D := G) (ci := 3) (v := .ref sv) (C := RX3) (T := TX3) (N := 7) hx hb hts in_X3_dropOldestState_X3 hown K.1 hP 0 rfl rfl 1 (by decide) (hts _ (List.mem_of_getElem? (i := 1) rfl)) (fun _ h9 => h9) rfl dX3_dropOldestState_22 ?_
  refine lv_iload_n hx hb dX3_dropOldestState_25 rfl (lv_at hl 0 rfl) ?_
  refine va_aldq hx hb K.1 hP 1 3 rfl rfl (vp_in_iff.mpr (by decide)) dX3_dropOldestState_26 ?_
  refine W.eq (g2 := F0 m 27 ls ([.ref d3, .int 2, .ref sv])) (by rfl) ?_
  refine va_astq hx hb K.1 hP hD hS 1 3 5 2 rfl rfl rfl rfl (vp_in_iff.mpr (by decide)) dX3_dropOldestState_27 (fun H locs hP hD hS => ?_)
  have w3 : va_up (vq4 d1 d2 d2 d3) (Int32.toNatClampNeg 2) (some d3) = (vq4 d1 d2 d3 d3) := vq4_s2
  have hP : va_P G vwCl [(x0, .inr (3, [.ref ps, .ref sv, .int sc, .ref tx, .ref tr, .ref va, .ref vo])), (sv, .inl (g 3, 4, .inr (.inr (.inr (.inr (vq4 d1 d2 d3 d3)))))), (d0, .inr (2, [.ref e0])), (d1, .inr (2, [.ref e1])), (d2, .inr (2, [.ref e2])), (d3, .inr (2, [.ref e3]))] H := by rw [← w3]; exact hP
  have hD : va_D A [(x0, .inr (3, [.ref ps, .ref sv, .int sc, .ref tx, .ref tr, .ref va, .ref vo])), (sv, .inl (g 3, 4, .inr (.inr (.inr (.inr (vq4 d1 d2 d3 d3)))))), (d0, .inr (2, [.ref e0])), (d1, .inr (2, [.ref e1])), (d2, .inr (2, [.ref e2])), (d3, .inr (2, [.ref e3]))] := by rw [← w3]; exact hD
  refine lv_iinc (v := 4) (lv' := [(2, .int 4), (1, .ref d0), (0, .ref x0)]) hx hb dX3_dropOldestState_28 hl (k := 0) rfl (by decide) (by decide) rfl (fun ls hl => ?_)
  refine lv_goto (tgt := 9) hx hb dX3_dropOldestState_31 (by decide) ?_
  refine lv_iload_n hx hb dX3_dropOldestState_9 rfl (lv_at hl 0 rfl) ?_
  refine lv_iconst (v := 4) hx hb dX3_dropOldestState_10 (by decide) ?_
  refine lv_icmp_ge (tgt := 34) hx hb dX3_dropOldestState_11 (by decide) (fun _ => ?_) (fun h => absurd (by decide) h)
  refine lv_aload_n hx hb dX3_dropOldestState_34 rfl (lv_at hl 2 rfl) ?_
  refine va_get (D := G) (ci := 3) (v := .ref sv) (C := RX3) (T := TX3) (N := 7) hx hb hts in_X3_dropOldestState_X3 hown K.1 hP 0 rfl rfl 1 (by decide) (hts _ (List.mem_of_getElem? (i := 1) rfl)) (fun _ h9 => h9) rfl dX3_dropOldestState_35 ?_
  refine lv_iconst (v := 3) hx hb dX3_dropOldestState_38 (by decide) ?_
  refine lv_aload_n hx hb dX3_dropOldestState_39 rfl (lv_at hl 1 rfl) ?_
  refine va_astq hx hb K.1 hP hD hS 1 3 2 2 rfl rfl rfl rfl (vp_in_iff.mpr (by decide)) dX3_dropOldestState_40 (fun H locs hP hD hS => ?_)
  have w4 : va_up (vq4 d1 d2 d3 d3) (Int32.toNatClampNeg 3) (some d0) = (vq4 d1 d2 d3 d0) := vq4_s3
  have hP : va_P G vwCl [(x0, .inr (3, [.ref ps, .ref sv, .int sc, .ref tx, .ref tr, .ref va, .ref vo])), (sv, .inl (g 3, 4, .inr (.inr (.inr (.inr (vq4 d1 d2 d3 d0)))))), (d0, .inr (2, [.ref e0])), (d1, .inr (2, [.ref e1])), (d2, .inr (2, [.ref e2])), (d3, .inr (2, [.ref e3]))] H := by rw [← w4]; exact hP
  have hD : va_D A [(x0, .inr (3, [.ref ps, .ref sv, .int sc, .ref tx, .ref tr, .ref va, .ref vo])), (sv, .inl (g 3, 4, .inr (.inr (.inr (.inr (vq4 d1 d2 d3 d0)))))), (d0, .inr (2, [.ref e0])), (d1, .inr (2, [.ref e1])), (d2, .inr (2, [.ref e2])), (d3, .inr (2, [.ref e3]))] := by rw [← w4]; exact hD
  refine lv_aload_n hx hb dX3_dropOldestState_41 rfl (lv_at hl 2 rfl) ?_
  refine lv_iconst (v := 3) hx hb dX3_dropOldestState_42 (by decide) ?_
  refine va_put (D := G) (ci := 3) (v := .int 3) (ty := .int) (C := RX3) (T := TX3) (N := 7) hx hb hts in_X3_dropOldestState_X3 tyX3 tyX3_ok nmX3 hown K.1 hP hD hS 0 rfl rfl 2 (by decide) (hts _ (List.mem_of_getElem? (i := 2) rfl)) (fun _ h9 => h9) rfl (by decide +kernel) rfl rfl (Nat.le_of_ble_eq_true rfl) dX3_dropOldestState_43 (fun H locs hP hD hS => ?_)
  have hP : va_P G vwCl [(x0, .inr (3, [.ref ps, .ref sv, .int 3, .ref tx, .ref tr, .ref va, .ref vo])), (sv, .inl (g 3, 4, .inr (.inr (.inr (.inr (vq4 d1 d2 d3 d0)))))), (d0, .inr (2, [.ref e0])), (d1, .inr (2, [.ref e1])), (d2, .inr (2, [.ref e2])), (d3, .inr (2, [.ref e3]))] H := hP
  have hD : va_D A [(x0, .inr (3, [.ref ps, .ref sv, .int 3, .ref tx, .ref tr, .ref va, .ref vo])), (sv, .inl (g 3, 4, .inr (.inr (.inr (.inr (vq4 d1 d2 d3 d0)))))), (d0, .inr (2, [.ref e0])), (d1, .inr (2, [.ref e1])), (d2, .inr (2, [.ref e2])), (d3, .inr (2, [.ref e3]))] := hD
  obtain rfl := q_rt hq
  exact rw_vret hx hb hr hk hP hD hS dX3_dropOldestState_46
theorem in_X3_curveNumbered_X2 : ∀ w ∈ wsX20, w ∈ wsX3_curveNumbered := fun _ h => List.mem_cons_of_mem _ (List.mem_append_left _ (List.mem_append_right _ h))
theorem in_X3_curveNumbered_X3 : ∀ w ∈ wsX30, w ∈ wsX3_curveNumbered := fun _ h => List.mem_cons_of_mem _ (List.mem_append_left _ (List.mem_append_left _ (List.mem_append_right _ h)))
def F_X3_curveNumbered (p1 : Int32) : Option (Sum Nat (Nat)) := if p1 < 0 then (some (.inl 1)) else (if p1 < 4 then (vgd (ix (p1) 4) <| vlet (p1.toNatClampNeg) fun k4 => some (.inr k4)) else (some (.inl 1)))
set_option maxHeartbeats 4000000 in
set_option maxRecDepth 100000 in
theorem k_X3_curveNumbered (l : Launch) (G : va_G) (g : Nat → ClassId) (ad : Nat → Nat) (bd : Nat → Nat → Nat) (sc : Int32) (tl : Int32) (tat : Int32) (tb : Nat → Int32) (cn : Nat → Int32) (cf : Nat → Nat → Int32) (sn : Nat → Nat → Int32) (sf : Nat → Nat → Nat → Int32) (tn : Int32) (tf : Nat → Int32) (vv : Nat → Int32) (ov : Nat → Int32) (p1 : Int32) (res : Nat) (hq : F_X3_curveNumbered p1 = some (.inr res)) : roC l yX3_curveNumbered wsX3_curveNumbered (rmF 0 0) G g [.ref (ad 0), .int p1] (wX g ad bd sc tl tat tb cn cf sn sf tn tf vv ov) (some (.ref (cad ad res))) := by
  refine roC.of (cc := cX3_curveNumbered) (maxL := 2) (ret := (some (.object "EaseCurves$Curve"))) (by decide) rfl (Nat.le_of_ble_eq_true rfl) ?_
  intro p e s m below meth c ls X K hP hl
  obtain ⟨hx, hb, hml, hr, hown, hts, hk⟩ := id X
  have hl : lv_has ls 2 [(0, .ref (ad 0)), (1, .int p1)] := hl
  unfold F_X3_curveNumbered at hq
  refine lv_iload_n hx hb dX3_curveNumbered_0 rfl (lv_at hl 1 rfl) ?_
  refine lv_if_lt (tgt := 9) hx hb dX3_curveNumbered_1 (by decide) (fun c1 => ?_) (fun c1 => ?_)
  · have hq := q_if_t hq c1
    exact q_lr hq
  · have hq := q_if_f hq c1
    refine lv_iload_n hx hb dX3_curveNumbered_4 rfl (lv_at hl 1 rfl) ?_
    refine lv_iconst (v := 4) hx hb dX3_curveNumbered_5 (by decide) ?_
    refine lv_icmp_lt (tgt := 19) hx hb dX3_curveNumbered_6 (by decide) (fun c2 => ?_) (fun c2 => ?_)
    · have hq := q_if_t hq c2
      refine lv_aload_n hx hb dX3_curveNumbered_19 rfl (lv_at hl 0 rfl) ?_
      refine va_get (D := G) (ci := 3) (v := .ref (ad 1)) (C := RX3) (T := TX3) (N := 7) hx hb hts in_X3_curveNumbered_X3 hown K.1 hP 0 rfl rfl 0 (by decide) (hts _ (List.mem_of_getElem? (i := 3) rfl)) (fun _ h9 => h9) rfl dX3_curveNumbered_20 ?_
      refine va_getN (D := G) (ci := 2) (v := .ref (ad 2)) (C := RX2) (T := TX2) (N := 1) (host := RX3) hx hb hts in_X3_curveNumbered_X2 hown K.1 hP 1 rfl rfl 0 (by decide) ((K.2.2 (RX3, 200, RX2, "curves", "[LEaseCurves$Curve;", RX3) (by decide +kernel)).use rfl) (fun _ h9 => h9) rfl dX3_curveNumbered_23 ?_
      refine lv_iload_n hx hb dX3_curveNumbered_26 rfl (lv_at hl 1 rfl) ?_
      obtain ⟨hh3, hq⟩ := q_gd hq
      have lk4 := ix_lt hh3
      refine va_aldq hx hb K.1 hP 2 2 rfl rfl (vp_in_iff.mpr hh3) dX3_curveNumbered_27 ?_
      obtain ⟨k4, ek4⟩ : ∃ y : Nat, y = p1.toNatClampNeg := ⟨_, rfl⟩
      have hq := q_let hq ek4
      rw [← ek4] at lk4
      refine W.eq (g2 := F0 m 28 ls ([.ref (cad ad k4)])) (by rw [← ek4]; exact congrArg (fun z => F0 m 28 ls (va_rf z :: _)) (vq4_at (fun z => cad ad z) lk4)) ?_
      obtain rfl := q_ri hq
      exact ro_aret hx hb hr hk dX3_curveNumbered_28
    · have hq := q_if_f hq c2
      exact q_lr hq
theorem F_X3_curveNumbered_lt {p1 : Int32} {r : Nat} (h : F_X3_curveNumbered p1 = some (.inr r)) : r < 4 := by
  unfold F_X3_curveNumbered at h
  by_cases h1 : p1 < 0
  · exact q_lr (q_if_t h h1)
  · have h := q_if_f h h1
    by_cases h2 : p1 < 4
    · obtain ⟨h3, h⟩ := q_gd (q_if_t h h2)
      have h := q_ri h
      have h4 := ix_lt h3
      rw [← h]; exact h4
    · exact q_lr (q_if_f h h2)
theorem hd_X2_become : ynm yX2_become 1 := by unfold ynm; decide +kernel
theorem hd_X3_dropOldestState : ynm yX3_dropOldestState 0 := by unfold ynm; decide +kernel
set_option maxHeartbeats 4000000 in
set_option maxRecDepth 100000 in
theorem foc_sp_X2_become {g : Nat → ClassId} {ad : Nat → Nat} {bd : Nat → Nat → Nat} {sc : Int32} {tl : Int32} {tat : Int32} {tb : Nat → Int32} {cn : Nat → Int32} {cf : Nat → Nat → Int32} {sn : Nat → Nat → Int32} {sf : Nat → Nat → Nat → Int32} {tn : Int32} {tf : Nat → Int32} {vv : Nat → Int32} {ov : Nat → Int32} {k : Nat} (lk : k < 4) {n_bn0 : Int32} {n_bf0 : Nat → Int32} {n_bn1 : Int32} {n_bf1 : Nat → Int32} {n_bn2 : Int32} {n_bf2 : Nat → Int32} {n_bn3 : Int32} {n_bf3 : Nat → Int32} : focus (wX g ad bd sc tl tat tb cn cf sn sf tn tf vv ov) [((bd k 0), .inr (2, [.ref (bd k 1)])), ((bd k 1), .inl (g 2, 4, .inr (.inr (.inr (.inr (vq4 (bd k 2) (bd k 4) (bd k 6) (bd k 8))))))), ((bd k 2), .inr (0, [.int (sn k 0), .ref (bd k 3)])), ((bd k 3), .inl (g 0, 96, .inl (sf k 0))), ((bd k 4), .inr (0, [.int (sn k 1), .ref (bd k 5)])), ((bd k 5), .inl (g 0, 96, .inl (sf k 1))), ((bd k 6), .inr (0, [.int (sn k 2), .ref (bd k 7)])), ((bd k 7), .inl (g 0, 96, .inl (sf k 2))), ((bd k 8), .inr (0, [.int (sn k 3), .ref (bd k 9)])), ((bd k 9), .inl (g 0, 96, .inl (sf k 3))), ((ad 1), .inr (2, [.ref (ad 2)])), ((ad 2), .inl (g 2, 4, .inr (.inr (.inr (.inr (vq4 (cad ad 0) (cad ad 1) (cad ad 2) (cad ad 3))))))), ((cad ad 0), .inr (0, [.int (cn 0), .ref (aad ad 0)])), ((aad ad 0), .inl (g 0, 96, .inl (cf 0))), ((cad ad 1), .inr (0, [.int (cn 1), .ref (aad ad 1)])), ((aad ad 1), .inl (g 0, 96, .inl (cf 1))), ((cad ad 2), .inr (0, [.int (cn 2), .ref (aad ad 2)])), ((aad ad 2), .inl (g 0, 96, .inl (cf 2))), ((cad ad 3), .inr (0, [.int (cn 3), .ref (aad ad 3)])), ((aad ad 3), .inl (g 0, 96, .inl (cf 3)))] [((bd k 0), .inr (2, [.ref (bd k 1)])), ((bd k 1), .inl (g 2, 4, .inr (.inr (.inr (.inr (vq4 (bd k 2) (bd k 4) (bd k 6) (bd k 8))))))), ((bd k 2), .inr (0, [.int n_bn0, .ref (bd k 3)])), ((bd k 3), .inl (g 0, 96, .inl n_bf0)), ((bd k 4), .inr (0, [.int n_bn1, .ref (bd k 5)])), ((bd k 5), .inl (g 0, 96, .inl n_bf1)), ((bd k 6), .inr (0, [.int n_bn2, .ref (bd k 7)])), ((bd k 7), .inl (g 0, 96, .inl n_bf2)), ((bd k 8), .inr (0, [.int n_bn3, .ref (bd k 9)])), ((bd k 9), .inl (g 0, 96, .inl n_bf3)), ((ad 1), .inr (2, [.ref (ad 2)])), ((ad 2), .inl (g 2, 4, .inr (.inr (.inr (.inr (vq4 (cad ad 0) (cad ad 1) (cad ad 2) (cad ad 3))))))), ((cad ad 0), .inr (0, [.int (cn 0), .ref (aad ad 0)])), ((aad ad 0), .inl (g 0, 96, .inl (cf 0))), ((cad ad 1), .inr (0, [.int (cn 1), .ref (aad ad 1)])), ((aad ad 1), .inl (g 0, 96, .inl (cf 1))), ((cad ad 2), .inr (0, [.int (cn 2), .ref (aad ad 2)])), ((aad ad 2), .inl (g 0, 96, .inl (cf 2))), ((cad ad 3), .inr (0, [.int (cn 3), .ref (aad ad 3)])), ((aad ad 3), .inl (g 0, 96, .inl (cf 3)))] (wX g ad bd sc tl tat tb cn cf (vu sn k (v4 n_bn0 n_bn1 n_bn2 n_bn3)) (vu sf k (v4 n_bf0 n_bf1 n_bf2 n_bf3)) tn tf vv ov) := by
  match k, lk with
  | 0, _ => exact focus.mk (n := 58) [18, 19, 20, 21, 22, 23, 24, 25, 26, 27, 1, 2, 10, 11, 12, 13, 14, 15, 16, 17] [0, 3, 4, 5, 6, 7, 8, 9, 28, 29, 30, 31, 32, 33, 34, 35, 36, 37, 38, 39, 40, 41, 42, 43, 44, 45, 46, 47, 48, 49, 50, 51, 52, 53, 54, 55, 56, 57] [18, 19, 20, 21, 22, 23, 24, 25, 26, 27, 1, 2, 10, 11, 12, 13, 14, 15, 16, 17] [0, 3, 4, 5, 6, 7, 8, 9, 28, 29, 30, 31, 32, 33, 34, 35, 36, 37, 38, 39, 40, 41, 42, 43, 44, 45, 46, 47, 48, 49, 50, 51, 52, 53, 54, 55, 56, 57] [(ad 0, .inr (3, [.ref (ad 1), .ref (ad 3), .int sc, .ref (ad 4), .ref (ad 6), .ref (ad 8), .ref (ad 9)])), (ad 3, .inl (g 3, 4, .inr (.inr (.inr (.inr (vq4 (bd 0 0) (bd 1 0) (bd 2 0) (bd 3 0))))))), (ad 4, .inr (1, [.ref (ad 5), .int tl, .int tat])), (ad 5, .inl (g 1, 150, .inl tb)), (ad 6, .inr (0, [.int tn, .ref (ad 7)])), (ad 7, .inl (g 0, 96, .inl tf)), (ad 8, .inl (g 0, 1000, .inl vv)), (ad 9, .inl (g 0, 1000, .inl ov)), ((bd 1 0), .inr (2, [.ref (bd 1 1)])), ((bd 1 1), .inl (g 2, 4, .inr (.inr (.inr (.inr (vq4 (bd 1 2) (bd 1 4) (bd 1 6) (bd 1 8))))))), ((bd 1 2), .inr (0, [.int (sn 1 0), .ref (bd 1 3)])), ((bd 1 3), .inl (g 0, 96, .inl (sf 1 0))), ((bd 1 4), .inr (0, [.int (sn 1 1), .ref (bd 1 5)])), ((bd 1 5), .inl (g 0, 96, .inl (sf 1 1))), ((bd 1 6), .inr (0, [.int (sn 1 2), .ref (bd 1 7)])), ((bd 1 7), .inl (g 0, 96, .inl (sf 1 2))), ((bd 1 8), .inr (0, [.int (sn 1 3), .ref (bd 1 9)])), ((bd 1 9), .inl (g 0, 96, .inl (sf 1 3))), ((bd 2 0), .inr (2, [.ref (bd 2 1)])), ((bd 2 1), .inl (g 2, 4, .inr (.inr (.inr (.inr (vq4 (bd 2 2) (bd 2 4) (bd 2 6) (bd 2 8))))))), ((bd 2 2), .inr (0, [.int (sn 2 0), .ref (bd 2 3)])), ((bd 2 3), .inl (g 0, 96, .inl (sf 2 0))), ((bd 2 4), .inr (0, [.int (sn 2 1), .ref (bd 2 5)])), ((bd 2 5), .inl (g 0, 96, .inl (sf 2 1))), ((bd 2 6), .inr (0, [.int (sn 2 2), .ref (bd 2 7)])), ((bd 2 7), .inl (g 0, 96, .inl (sf 2 2))), ((bd 2 8), .inr (0, [.int (sn 2 3), .ref (bd 2 9)])), ((bd 2 9), .inl (g 0, 96, .inl (sf 2 3))), ((bd 3 0), .inr (2, [.ref (bd 3 1)])), ((bd 3 1), .inl (g 2, 4, .inr (.inr (.inr (.inr (vq4 (bd 3 2) (bd 3 4) (bd 3 6) (bd 3 8))))))), ((bd 3 2), .inr (0, [.int (sn 3 0), .ref (bd 3 3)])), ((bd 3 3), .inl (g 0, 96, .inl (sf 3 0))), ((bd 3 4), .inr (0, [.int (sn 3 1), .ref (bd 3 5)])), ((bd 3 5), .inl (g 0, 96, .inl (sf 3 1))), ((bd 3 6), .inr (0, [.int (sn 3 2), .ref (bd 3 7)])), ((bd 3 7), .inl (g 0, 96, .inl (sf 3 2))), ((bd 3 8), .inr (0, [.int (sn 3 3), .ref (bd 3 9)])), ((bd 3 9), .inl (g 0, 96, .inl (sf 3 3)))] (by decide +kernel) (by decide +kernel) rfl rfl rfl rfl rfl rfl
  | 1, _ => exact focus.mk (n := 58) [28, 29, 30, 31, 32, 33, 34, 35, 36, 37, 1, 2, 10, 11, 12, 13, 14, 15, 16, 17] [0, 3, 4, 5, 6, 7, 8, 9, 18, 19, 20, 21, 22, 23, 24, 25, 26, 27, 38, 39, 40, 41, 42, 43, 44, 45, 46, 47, 48, 49, 50, 51, 52, 53, 54, 55, 56, 57] [28, 29, 30, 31, 32, 33, 34, 35, 36, 37, 1, 2, 10, 11, 12, 13, 14, 15, 16, 17] [0, 3, 4, 5, 6, 7, 8, 9, 18, 19, 20, 21, 22, 23, 24, 25, 26, 27, 38, 39, 40, 41, 42, 43, 44, 45, 46, 47, 48, 49, 50, 51, 52, 53, 54, 55, 56, 57] [(ad 0, .inr (3, [.ref (ad 1), .ref (ad 3), .int sc, .ref (ad 4), .ref (ad 6), .ref (ad 8), .ref (ad 9)])), (ad 3, .inl (g 3, 4, .inr (.inr (.inr (.inr (vq4 (bd 0 0) (bd 1 0) (bd 2 0) (bd 3 0))))))), (ad 4, .inr (1, [.ref (ad 5), .int tl, .int tat])), (ad 5, .inl (g 1, 150, .inl tb)), (ad 6, .inr (0, [.int tn, .ref (ad 7)])), (ad 7, .inl (g 0, 96, .inl tf)), (ad 8, .inl (g 0, 1000, .inl vv)), (ad 9, .inl (g 0, 1000, .inl ov)), ((bd 0 0), .inr (2, [.ref (bd 0 1)])), ((bd 0 1), .inl (g 2, 4, .inr (.inr (.inr (.inr (vq4 (bd 0 2) (bd 0 4) (bd 0 6) (bd 0 8))))))), ((bd 0 2), .inr (0, [.int (sn 0 0), .ref (bd 0 3)])), ((bd 0 3), .inl (g 0, 96, .inl (sf 0 0))), ((bd 0 4), .inr (0, [.int (sn 0 1), .ref (bd 0 5)])), ((bd 0 5), .inl (g 0, 96, .inl (sf 0 1))), ((bd 0 6), .inr (0, [.int (sn 0 2), .ref (bd 0 7)])), ((bd 0 7), .inl (g 0, 96, .inl (sf 0 2))), ((bd 0 8), .inr (0, [.int (sn 0 3), .ref (bd 0 9)])), ((bd 0 9), .inl (g 0, 96, .inl (sf 0 3))), ((bd 2 0), .inr (2, [.ref (bd 2 1)])), ((bd 2 1), .inl (g 2, 4, .inr (.inr (.inr (.inr (vq4 (bd 2 2) (bd 2 4) (bd 2 6) (bd 2 8))))))), ((bd 2 2), .inr (0, [.int (sn 2 0), .ref (bd 2 3)])), ((bd 2 3), .inl (g 0, 96, .inl (sf 2 0))), ((bd 2 4), .inr (0, [.int (sn 2 1), .ref (bd 2 5)])), ((bd 2 5), .inl (g 0, 96, .inl (sf 2 1))), ((bd 2 6), .inr (0, [.int (sn 2 2), .ref (bd 2 7)])), ((bd 2 7), .inl (g 0, 96, .inl (sf 2 2))), ((bd 2 8), .inr (0, [.int (sn 2 3), .ref (bd 2 9)])), ((bd 2 9), .inl (g 0, 96, .inl (sf 2 3))), ((bd 3 0), .inr (2, [.ref (bd 3 1)])), ((bd 3 1), .inl (g 2, 4, .inr (.inr (.inr (.inr (vq4 (bd 3 2) (bd 3 4) (bd 3 6) (bd 3 8))))))), ((bd 3 2), .inr (0, [.int (sn 3 0), .ref (bd 3 3)])), ((bd 3 3), .inl (g 0, 96, .inl (sf 3 0))), ((bd 3 4), .inr (0, [.int (sn 3 1), .ref (bd 3 5)])), ((bd 3 5), .inl (g 0, 96, .inl (sf 3 1))), ((bd 3 6), .inr (0, [.int (sn 3 2), .ref (bd 3 7)])), ((bd 3 7), .inl (g 0, 96, .inl (sf 3 2))), ((bd 3 8), .inr (0, [.int (sn 3 3), .ref (bd 3 9)])), ((bd 3 9), .inl (g 0, 96, .inl (sf 3 3)))] (by decide +kernel) (by decide +kernel) rfl rfl rfl rfl rfl rfl
  | 2, _ => exact focus.mk (n := 58) [38, 39, 40, 41, 42, 43, 44, 45, 46, 47, 1, 2, 10, 11, 12, 13, 14, 15, 16, 17] [0, 3, 4, 5, 6, 7, 8, 9, 18, 19, 20, 21, 22, 23, 24, 25, 26, 27, 28, 29, 30, 31, 32, 33, 34, 35, 36, 37, 48, 49, 50, 51, 52, 53, 54, 55, 56, 57] [38, 39, 40, 41, 42, 43, 44, 45, 46, 47, 1, 2, 10, 11, 12, 13, 14, 15, 16, 17] [0, 3, 4, 5, 6, 7, 8, 9, 18, 19, 20, 21, 22, 23, 24, 25, 26, 27, 28, 29, 30, 31, 32, 33, 34, 35, 36, 37, 48, 49, 50, 51, 52, 53, 54, 55, 56, 57] [(ad 0, .inr (3, [.ref (ad 1), .ref (ad 3), .int sc, .ref (ad 4), .ref (ad 6), .ref (ad 8), .ref (ad 9)])), (ad 3, .inl (g 3, 4, .inr (.inr (.inr (.inr (vq4 (bd 0 0) (bd 1 0) (bd 2 0) (bd 3 0))))))), (ad 4, .inr (1, [.ref (ad 5), .int tl, .int tat])), (ad 5, .inl (g 1, 150, .inl tb)), (ad 6, .inr (0, [.int tn, .ref (ad 7)])), (ad 7, .inl (g 0, 96, .inl tf)), (ad 8, .inl (g 0, 1000, .inl vv)), (ad 9, .inl (g 0, 1000, .inl ov)), ((bd 0 0), .inr (2, [.ref (bd 0 1)])), ((bd 0 1), .inl (g 2, 4, .inr (.inr (.inr (.inr (vq4 (bd 0 2) (bd 0 4) (bd 0 6) (bd 0 8))))))), ((bd 0 2), .inr (0, [.int (sn 0 0), .ref (bd 0 3)])), ((bd 0 3), .inl (g 0, 96, .inl (sf 0 0))), ((bd 0 4), .inr (0, [.int (sn 0 1), .ref (bd 0 5)])), ((bd 0 5), .inl (g 0, 96, .inl (sf 0 1))), ((bd 0 6), .inr (0, [.int (sn 0 2), .ref (bd 0 7)])), ((bd 0 7), .inl (g 0, 96, .inl (sf 0 2))), ((bd 0 8), .inr (0, [.int (sn 0 3), .ref (bd 0 9)])), ((bd 0 9), .inl (g 0, 96, .inl (sf 0 3))), ((bd 1 0), .inr (2, [.ref (bd 1 1)])), ((bd 1 1), .inl (g 2, 4, .inr (.inr (.inr (.inr (vq4 (bd 1 2) (bd 1 4) (bd 1 6) (bd 1 8))))))), ((bd 1 2), .inr (0, [.int (sn 1 0), .ref (bd 1 3)])), ((bd 1 3), .inl (g 0, 96, .inl (sf 1 0))), ((bd 1 4), .inr (0, [.int (sn 1 1), .ref (bd 1 5)])), ((bd 1 5), .inl (g 0, 96, .inl (sf 1 1))), ((bd 1 6), .inr (0, [.int (sn 1 2), .ref (bd 1 7)])), ((bd 1 7), .inl (g 0, 96, .inl (sf 1 2))), ((bd 1 8), .inr (0, [.int (sn 1 3), .ref (bd 1 9)])), ((bd 1 9), .inl (g 0, 96, .inl (sf 1 3))), ((bd 3 0), .inr (2, [.ref (bd 3 1)])), ((bd 3 1), .inl (g 2, 4, .inr (.inr (.inr (.inr (vq4 (bd 3 2) (bd 3 4) (bd 3 6) (bd 3 8))))))), ((bd 3 2), .inr (0, [.int (sn 3 0), .ref (bd 3 3)])), ((bd 3 3), .inl (g 0, 96, .inl (sf 3 0))), ((bd 3 4), .inr (0, [.int (sn 3 1), .ref (bd 3 5)])), ((bd 3 5), .inl (g 0, 96, .inl (sf 3 1))), ((bd 3 6), .inr (0, [.int (sn 3 2), .ref (bd 3 7)])), ((bd 3 7), .inl (g 0, 96, .inl (sf 3 2))), ((bd 3 8), .inr (0, [.int (sn 3 3), .ref (bd 3 9)])), ((bd 3 9), .inl (g 0, 96, .inl (sf 3 3)))] (by decide +kernel) (by decide +kernel) rfl rfl rfl rfl rfl rfl
  | 3, _ => exact focus.mk (n := 58) [48, 49, 50, 51, 52, 53, 54, 55, 56, 57, 1, 2, 10, 11, 12, 13, 14, 15, 16, 17] [0, 3, 4, 5, 6, 7, 8, 9, 18, 19, 20, 21, 22, 23, 24, 25, 26, 27, 28, 29, 30, 31, 32, 33, 34, 35, 36, 37, 38, 39, 40, 41, 42, 43, 44, 45, 46, 47] [48, 49, 50, 51, 52, 53, 54, 55, 56, 57, 1, 2, 10, 11, 12, 13, 14, 15, 16, 17] [0, 3, 4, 5, 6, 7, 8, 9, 18, 19, 20, 21, 22, 23, 24, 25, 26, 27, 28, 29, 30, 31, 32, 33, 34, 35, 36, 37, 38, 39, 40, 41, 42, 43, 44, 45, 46, 47] [(ad 0, .inr (3, [.ref (ad 1), .ref (ad 3), .int sc, .ref (ad 4), .ref (ad 6), .ref (ad 8), .ref (ad 9)])), (ad 3, .inl (g 3, 4, .inr (.inr (.inr (.inr (vq4 (bd 0 0) (bd 1 0) (bd 2 0) (bd 3 0))))))), (ad 4, .inr (1, [.ref (ad 5), .int tl, .int tat])), (ad 5, .inl (g 1, 150, .inl tb)), (ad 6, .inr (0, [.int tn, .ref (ad 7)])), (ad 7, .inl (g 0, 96, .inl tf)), (ad 8, .inl (g 0, 1000, .inl vv)), (ad 9, .inl (g 0, 1000, .inl ov)), ((bd 0 0), .inr (2, [.ref (bd 0 1)])), ((bd 0 1), .inl (g 2, 4, .inr (.inr (.inr (.inr (vq4 (bd 0 2) (bd 0 4) (bd 0 6) (bd 0 8))))))), ((bd 0 2), .inr (0, [.int (sn 0 0), .ref (bd 0 3)])), ((bd 0 3), .inl (g 0, 96, .inl (sf 0 0))), ((bd 0 4), .inr (0, [.int (sn 0 1), .ref (bd 0 5)])), ((bd 0 5), .inl (g 0, 96, .inl (sf 0 1))), ((bd 0 6), .inr (0, [.int (sn 0 2), .ref (bd 0 7)])), ((bd 0 7), .inl (g 0, 96, .inl (sf 0 2))), ((bd 0 8), .inr (0, [.int (sn 0 3), .ref (bd 0 9)])), ((bd 0 9), .inl (g 0, 96, .inl (sf 0 3))), ((bd 1 0), .inr (2, [.ref (bd 1 1)])), ((bd 1 1), .inl (g 2, 4, .inr (.inr (.inr (.inr (vq4 (bd 1 2) (bd 1 4) (bd 1 6) (bd 1 8))))))), ((bd 1 2), .inr (0, [.int (sn 1 0), .ref (bd 1 3)])), ((bd 1 3), .inl (g 0, 96, .inl (sf 1 0))), ((bd 1 4), .inr (0, [.int (sn 1 1), .ref (bd 1 5)])), ((bd 1 5), .inl (g 0, 96, .inl (sf 1 1))), ((bd 1 6), .inr (0, [.int (sn 1 2), .ref (bd 1 7)])), ((bd 1 7), .inl (g 0, 96, .inl (sf 1 2))), ((bd 1 8), .inr (0, [.int (sn 1 3), .ref (bd 1 9)])), ((bd 1 9), .inl (g 0, 96, .inl (sf 1 3))), ((bd 2 0), .inr (2, [.ref (bd 2 1)])), ((bd 2 1), .inl (g 2, 4, .inr (.inr (.inr (.inr (vq4 (bd 2 2) (bd 2 4) (bd 2 6) (bd 2 8))))))), ((bd 2 2), .inr (0, [.int (sn 2 0), .ref (bd 2 3)])), ((bd 2 3), .inl (g 0, 96, .inl (sf 2 0))), ((bd 2 4), .inr (0, [.int (sn 2 1), .ref (bd 2 5)])), ((bd 2 5), .inl (g 0, 96, .inl (sf 2 1))), ((bd 2 6), .inr (0, [.int (sn 2 2), .ref (bd 2 7)])), ((bd 2 7), .inl (g 0, 96, .inl (sf 2 2))), ((bd 2 8), .inr (0, [.int (sn 2 3), .ref (bd 2 9)])), ((bd 2 9), .inl (g 0, 96, .inl (sf 2 3)))] (by decide +kernel) (by decide +kernel) rfl rfl rfl rfl rfl rfl
  | n + 4, h => exact absurd h (by omega)
set_option maxHeartbeats 4000000 in
set_option maxRecDepth 100000 in
theorem foc_xr_X3_dropOldestState {g : Nat → ClassId} {ad : Nat → Nat} {bd : Nat → Nat → Nat} {sc : Int32} {tl : Int32} {tat : Int32} {tb : Nat → Int32} {cn : Nat → Int32} {cf : Nat → Nat → Int32} {sn : Nat → Nat → Int32} {sf : Nat → Nat → Nat → Int32} {tn : Int32} {tf : Nat → Int32} {vv : Nat → Int32} {ov : Nat → Int32} {n_sc : Int32} : focus (wX g ad bd sc tl tat tb cn cf sn sf tn tf vv ov) [((ad 0), .inr (3, [.ref (ad 1), .ref (ad 3), .int sc, .ref (ad 4), .ref (ad 6), .ref (ad 8), .ref (ad 9)])), ((ad 3), .inl (g 3, 4, .inr (.inr (.inr (.inr (vq4 (bd 0 0) (bd 1 0) (bd 2 0) (bd 3 0))))))), ((bd 0 0), .inr (2, [.ref (bd 0 1)])), ((bd 1 0), .inr (2, [.ref (bd 1 1)])), ((bd 2 0), .inr (2, [.ref (bd 2 1)])), ((bd 3 0), .inr (2, [.ref (bd 3 1)]))] [((ad 0), .inr (3, [.ref (ad 1), .ref (ad 3), .int n_sc, .ref (ad 4), .ref (ad 6), .ref (ad 8), .ref (ad 9)])), ((ad 3), .inl (g 3, 4, .inr (.inr (.inr (.inr (vq4 (bd 1 0) (bd 2 0) (bd 3 0) (bd 0 0))))))), ((bd 0 0), .inr (2, [.ref (bd 0 1)])), ((bd 1 0), .inr (2, [.ref (bd 1 1)])), ((bd 2 0), .inr (2, [.ref (bd 2 1)])), ((bd 3 0), .inr (2, [.ref (bd 3 1)]))] (wX g ad (rot4 bd) n_sc tl tat tb cn cf (rot4 sn) (rot4 sf) tn tf vv ov) := by
  exact focus.mk (n := 58) [0, 3, 18, 28, 38, 48] [1, 2, 4, 5, 6, 7, 8, 9, 10, 11, 12, 13, 14, 15, 16, 17, 19, 20, 21, 22, 23, 24, 25, 26, 27, 29, 30, 31, 32, 33, 34, 35, 36, 37, 39, 40, 41, 42, 43, 44, 45, 46, 47, 49, 50, 51, 52, 53, 54, 55, 56, 57] [0, 3, 48, 18, 28, 38] [1, 2, 4, 5, 6, 7, 8, 9, 10, 11, 12, 13, 14, 15, 16, 17, 49, 50, 51, 52, 53, 54, 55, 56, 57, 19, 20, 21, 22, 23, 24, 25, 26, 27, 29, 30, 31, 32, 33, 34, 35, 36, 37, 39, 40, 41, 42, 43, 44, 45, 46, 47] [(ad 1, .inr (2, [.ref (ad 2)])), (ad 2, .inl (g 2, 4, .inr (.inr (.inr (.inr (vq4 (cad ad 0) (cad ad 1) (cad ad 2) (cad ad 3))))))), (ad 4, .inr (1, [.ref (ad 5), .int tl, .int tat])), (ad 5, .inl (g 1, 150, .inl tb)), (ad 6, .inr (0, [.int tn, .ref (ad 7)])), (ad 7, .inl (g 0, 96, .inl tf)), (ad 8, .inl (g 0, 1000, .inl vv)), (ad 9, .inl (g 0, 1000, .inl ov)), (cad ad 0, .inr (0, [.int (cn 0), .ref (aad ad 0)])), (aad ad 0, .inl (g 0, 96, .inl (cf 0))), (cad ad 1, .inr (0, [.int (cn 1), .ref (aad ad 1)])), (aad ad 1, .inl (g 0, 96, .inl (cf 1))), (cad ad 2, .inr (0, [.int (cn 2), .ref (aad ad 2)])), (aad ad 2, .inl (g 0, 96, .inl (cf 2))), (cad ad 3, .inr (0, [.int (cn 3), .ref (aad ad 3)])), (aad ad 3, .inl (g 0, 96, .inl (cf 3))), ((bd 0 1), .inl (g 2, 4, .inr (.inr (.inr (.inr (vq4 (bd 0 2) (bd 0 4) (bd 0 6) (bd 0 8))))))), ((bd 0 2), .inr (0, [.int (sn 0 0), .ref (bd 0 3)])), ((bd 0 3), .inl (g 0, 96, .inl (sf 0 0))), ((bd 0 4), .inr (0, [.int (sn 0 1), .ref (bd 0 5)])), ((bd 0 5), .inl (g 0, 96, .inl (sf 0 1))), ((bd 0 6), .inr (0, [.int (sn 0 2), .ref (bd 0 7)])), ((bd 0 7), .inl (g 0, 96, .inl (sf 0 2))), ((bd 0 8), .inr (0, [.int (sn 0 3), .ref (bd 0 9)])), ((bd 0 9), .inl (g 0, 96, .inl (sf 0 3))), ((bd 1 1), .inl (g 2, 4, .inr (.inr (.inr (.inr (vq4 (bd 1 2) (bd 1 4) (bd 1 6) (bd 1 8))))))), ((bd 1 2), .inr (0, [.int (sn 1 0), .ref (bd 1 3)])), ((bd 1 3), .inl (g 0, 96, .inl (sf 1 0))), ((bd 1 4), .inr (0, [.int (sn 1 1), .ref (bd 1 5)])), ((bd 1 5), .inl (g 0, 96, .inl (sf 1 1))), ((bd 1 6), .inr (0, [.int (sn 1 2), .ref (bd 1 7)])), ((bd 1 7), .inl (g 0, 96, .inl (sf 1 2))), ((bd 1 8), .inr (0, [.int (sn 1 3), .ref (bd 1 9)])), ((bd 1 9), .inl (g 0, 96, .inl (sf 1 3))), ((bd 2 1), .inl (g 2, 4, .inr (.inr (.inr (.inr (vq4 (bd 2 2) (bd 2 4) (bd 2 6) (bd 2 8))))))), ((bd 2 2), .inr (0, [.int (sn 2 0), .ref (bd 2 3)])), ((bd 2 3), .inl (g 0, 96, .inl (sf 2 0))), ((bd 2 4), .inr (0, [.int (sn 2 1), .ref (bd 2 5)])), ((bd 2 5), .inl (g 0, 96, .inl (sf 2 1))), ((bd 2 6), .inr (0, [.int (sn 2 2), .ref (bd 2 7)])), ((bd 2 7), .inl (g 0, 96, .inl (sf 2 2))), ((bd 2 8), .inr (0, [.int (sn 2 3), .ref (bd 2 9)])), ((bd 2 9), .inl (g 0, 96, .inl (sf 2 3))), ((bd 3 1), .inl (g 2, 4, .inr (.inr (.inr (.inr (vq4 (bd 3 2) (bd 3 4) (bd 3 6) (bd 3 8))))))), ((bd 3 2), .inr (0, [.int (sn 3 0), .ref (bd 3 3)])), ((bd 3 3), .inl (g 0, 96, .inl (sf 3 0))), ((bd 3 4), .inr (0, [.int (sn 3 1), .ref (bd 3 5)])), ((bd 3 5), .inl (g 0, 96, .inl (sf 3 1))), ((bd 3 6), .inr (0, [.int (sn 3 2), .ref (bd 3 7)])), ((bd 3 7), .inl (g 0, 96, .inl (sf 3 2))), ((bd 3 8), .inr (0, [.int (sn 3 3), .ref (bd 3 9)])), ((bd 3 9), .inl (g 0, 96, .inl (sf 3 3)))] (by decide +kernel) (by decide +kernel) rfl rfl rfl rfl rfl rfl
theorem in_X3_saveState_X3 : ∀ w ∈ wsX30, w ∈ wsX3_saveState := fun _ h => List.mem_cons_of_mem _ (List.mem_append_left _ (List.mem_append_left _ (List.mem_append_right _ h)))
def F_X3_saveState_12 (bd : Nat → Nat → Nat) (sc : Int32) (cn : Nat → Int32) (cf : Nat → Nat → Int32) (sn : Nat → Nat → Int32) (sf : Nat → Nat → Nat → Int32) : Option ((Nat → Nat → Nat) × Int32 × (Nat → Nat → Int32) × (Nat → Nat → Nat → Int32)) := vgd (ix (sc) 4) <| vlet (sc.toNatClampNeg) fun k2 => (F_X2_become (sn k2 0) (sf k2 0) (sn k2 1) (sf k2 1) (sn k2 2) (sf k2 2) (sn k2 3) (sf k2 3) (cn 0) (cf 0) (cn 1) (cf 1) (cn 2) (cf 2) (cn 3) (cf 3)).bind fun o12 => vlet (vu sn k2 (v4 o12.1 o12.2.2.1 o12.2.2.2.2.1 o12.2.2.2.2.2.2.1)) fun y13 => vlet (vu sf k2 (v4 o12.2.1 o12.2.2.2.1 o12.2.2.2.2.2.1 o12.2.2.2.2.2.2.2)) fun y14 => vlet (sc + 1) fun x15 => some (bd, x15, y13, y14)
set_option maxHeartbeats 4000000 in
set_option maxRecDepth 100000 in
theorem w_X3_saveState_12 {p : Program} {l : Launch} {e : Env} {s : State} {m : MethodId} {args : Array Value} {below : List Frame} {meth : Method} {c : Code} {G : va_G} {g : Nat → ClassId} (X : cx p s m args meth c cX3_saveState 1 none RX3 wsX3_saveState) (K : amb G g s) {A : Nat → Prop} (hA : ∀ q : Nat, s.heap.size ≤ q → A q) (ad : Nat → Nat) (tl : Int32) (tat : Int32) (tb : Nat → Int32) (tn : Int32) (tf : Nat → Int32) (vv : Nat → Int32) (ov : Nat → Int32) (bd : Nat → Nat → Nat) (sc : Int32) (cn : Nat → Int32) (cf : Nat → Nat → Int32) (sn : Nat → Nat → Int32) (sf : Nat → Nat → Nat → Int32) (res : (Nat → Nat → Nat) × Int32 × (Nat → Nat → Int32) × (Nat → Nat → Nat → Int32)) (hq : F_X3_saveState_12 bd sc cn cf sn sf = some res) : ∀ (H : Heap) (locs : List Loc), va_P G vwCl (wX g ad bd sc tl tat tb cn cf sn sf tn tf vv ov) H → va_D A (wX g ad bd sc tl tat tb cn cf sn sf tn tf vv ov) → va_S A s.heap H locs → ∀ (ls : Array Slot), lv_has ls 1 [(0, .ref (ad 0))] → W p l e (rmF 3 83) s m args below meth c H locs 0 0 (rwM G A below none (wX g ad res.1 res.2.1 tl tat tb cn cf res.2.2.1 res.2.2.2 tn tf vv ov) args s) (F0 m 12 ls []) := by
  obtain ⟨hx, hb, hml, hr, hown, hts, hk⟩ := id X
  intro H locs hP hD hS ls hl
  unfold F_X3_saveState_12 at hq
  refine lv_aload_n hx hb dX3_saveState_12 rfl (lv_at hl 0 rfl) ?_
  refine va_get (D := G) (ci := 3) (v := .ref (ad 3)) (C := RX3) (T := TX3) (N := 7) hx hb hts in_X3_saveState_X3 hown K.1 hP 0 rfl rfl 1 (by decide) (hts _ (List.mem_of_getElem? (i := 2) rfl)) (fun _ h9 => h9) rfl dX3_saveState_13 ?_
  refine lv_aload_n hx hb dX3_saveState_16 rfl (lv_at hl 0 rfl) ?_
  refine va_get (D := G) (ci := 3) (v := .int sc) (C := RX3) (T := TX3) (N := 7) hx hb hts in_X3_saveState_X3 hown K.1 hP 0 rfl rfl 2 (by decide) (hts _ (List.mem_of_getElem? (i := 1) rfl)) (fun _ h9 => h9) rfl dX3_saveState_17 ?_
  obtain ⟨hh1, hq⟩ := q_gd hq
  have lk2 := ix_lt hh1
  refine va_aldq hx hb K.1 hP 3 3 rfl rfl (vp_in_iff.mpr hh1) dX3_saveState_20 ?_
  obtain ⟨k2, ek2⟩ : ∃ y : Nat, y = sc.toNatClampNeg := ⟨_, rfl⟩
  have hq := q_let hq ek2
  rw [← ek2] at lk2
  refine W.eq (g2 := F0 m 21 ls ([.ref (bd k2 0)])) (by rw [← ek2]; exact congrArg (fun z => F0 m 21 ls (va_rf z :: _)) (vq4_at (fun z => bd z 0) lk2)) ?_
  refine lv_aload_n hx hb dX3_saveState_21 rfl (lv_at hl 0 rfl) ?_
  refine va_get (D := G) (ci := 3) (v := .ref (ad 1)) (C := RX3) (T := TX3) (N := 7) hx hb hts in_X3_saveState_X3 hown K.1 hP 0 rfl rfl 0 (by decide) (hts _ (List.mem_of_getElem? (i := 3) rfl)) (fun _ h9 => h9) rfl dX3_saveState_22 ?_
  obtain ⟨⟨y3, y4, y5, y6, y7, y8, y9, y10⟩, hh11, hq⟩ := q_bd hq
  refine rwNf (ci := 2) (host := RX3) (As := [.ref (ad 1)]) (rest := []) X K (k_X2_become l G g (bd k2 0) (bd k2 1) (bd k2 2) (bd k2 3) (bd k2 4) (bd k2 5) (bd k2 6) (bd k2 7) (bd k2 8) (bd k2 9) (ad 1) (ad 2) (cad ad 0) (aad ad 0) (cad ad 1) (aad ad 1) (cad ad 2) (aad ad 2) (cad ad 3) (aad ad 3) (sn k2 0) (sf k2 0) (sn k2 1) (sf k2 1) (sn k2 2) (sf k2 2) (sn k2 3) (sf k2 3) (cn 0) (cf 0) (cn 1) (cf 1) (cn 2) (cf 2) (cn 3) (cf 3) _ hh11) hd_X2_become ggX3_saveState_X2_become (by decide +kernel) (List.mem_of_getElem? (i := 10) rfl) (List.mem_of_getElem? (i := 9) rfl) (List.mem_of_getElem? (i := 11) rfl) hP hD hS hA (foc_sp_X2_become lk2) hl.1 dX3_saveState_25 rfl rfl ⟨Nat.le_of_ble_eq_true rfl, Nat.le_of_ble_eq_true rfl⟩ rfl rfl rfl (Nat.le_of_ble_eq_true rfl) ⟨Nat.zero_le _, Nat.zero_le _⟩ (fun H locs hP hD hS => ?_)
  obtain ⟨y13, ey13⟩ : ∃ y, y = vu sn k2 (v4 y3 y5 y7 y9) := ⟨_, rfl⟩
  have hq := q_let hq ey13
  rw [← ey13] at hP hD
  obtain ⟨y14, ey14⟩ : ∃ y, y = vu sf k2 (v4 y4 y6 y8 y10) := ⟨_, rfl⟩
  have hq := q_let hq ey14
  rw [← ey14] at hP hD
  have hP : va_P G vwCl (wX g ad bd sc tl tat tb cn cf y13 y14 tn tf vv ov) H := hP
  have hD : va_D A (wX g ad bd sc tl tat tb cn cf y13 y14 tn tf vv ov) := hD
  refine lv_aload_n hx hb dX3_saveState_28 rfl (lv_at hl 0 rfl) ?_
  refine lv_dup hx hb dX3_saveState_29 rfl ?_
  refine va_get (D := G) (ci := 3) (v := .int sc) (C := RX3) (T := TX3) (N := 7) hx hb hts in_X3_saveState_X3 hown K.1 hP 0 rfl rfl 2 (by decide) (hts _ (List.mem_of_getElem? (i := 1) rfl)) (fun _ h9 => h9) rfl dX3_saveState_30 ?_
  refine lv_iconst (v := 1) hx hb dX3_saveState_33 (by decide) ?_
  refine lv_iadd hx hb dX3_saveState_34 ?_
  refine lv_topi (fun x15 ex15 => ?_)
  have hq := q_let hq ex15
  refine va_put (D := G) (ci := 3) (v := .int x15) (ty := .int) (C := RX3) (T := TX3) (N := 7) hx hb hts in_X3_saveState_X3 tyX3 tyX3_ok nmX3 hown K.1 hP hD hS 0 rfl rfl 2 (by decide) (hts _ (List.mem_of_getElem? (i := 1) rfl)) (fun _ h9 => h9) rfl (by decide +kernel) rfl rfl (Nat.le_of_ble_eq_true rfl) dX3_saveState_35 (fun H locs hP hD hS => ?_)
  have hP : va_P G vwCl (wX g ad bd x15 tl tat tb cn cf y13 y14 tn tf vv ov) H := hP
  have hD : va_D A (wX g ad bd x15 tl tat tb cn cf y13 y14 tn tf vv ov) := hD
  obtain rfl := q_rt hq
  exact rw_vret hx hb hr hk hP hD hS dX3_saveState_38
def F_X3_saveState (bd : Nat → Nat → Nat) (sc : Int32) (cn : Nat → Int32) (cf : Nat → Nat → Int32) (sn : Nat → Nat → Int32) (sf : Nat → Nat → Nat → Int32) : Option ((Nat → Nat → Nat) × Int32 × (Nat → Nat → Int32) × (Nat → Nat → Nat → Int32)) := if sc < 4 then (F_X3_saveState_12 bd sc cn cf sn sf) else ((F_X3_dropOldestState sc).bind fun y2 => vlet (rot4 bd) fun y4 => vlet (rot4 sn) fun y5 => vlet (rot4 sf) fun y6 => F_X3_saveState_12 y4 y2 cn cf y5 y6)
set_option maxHeartbeats 4000000 in
set_option maxRecDepth 100000 in
theorem k_X3_saveState (l : Launch) (G : va_G) (g : Nat → ClassId) (ad : Nat → Nat) (bd : Nat → Nat → Nat) (sc : Int32) (tl : Int32) (tat : Int32) (tb : Nat → Int32) (cn : Nat → Int32) (cf : Nat → Nat → Int32) (sn : Nat → Nat → Int32) (sf : Nat → Nat → Nat → Int32) (tn : Int32) (tf : Nat → Int32) (vv : Nat → Int32) (ov : Nat → Int32) (res : (Nat → Nat → Nat) × Int32 × (Nat → Nat → Int32) × (Nat → Nat → Nat → Int32)) (hq : F_X3_saveState bd sc cn cf sn sf = some res) : rwC l yX3_saveState wsX3_saveState (rmF 3 83) G g [.ref (ad 0)] (wX g ad bd sc tl tat tb cn cf sn sf tn tf vv ov) none (wX g ad res.1 res.2.1 tl tat tb cn cf res.2.2.1 res.2.2.2 tn tf vv ov) := by
  refine rwC.of (cc := cX3_saveState) (maxL := 1) (ret := none) (by decide) rfl (Nat.le_of_ble_eq_true rfl) ?_
  intro p e s m below meth c ls A X K hA hP hD hS hl
  obtain ⟨hx, hb, hml, hr, hown, hts, hk⟩ := id X
  have hl : lv_has ls 1 [(0, .ref (ad 0))] := hl
  unfold F_X3_saveState at hq
  refine lv_aload_n hx hb dX3_saveState_0 rfl (lv_at hl 0 rfl) ?_
  refine va_get (D := G) (ci := 3) (v := .int sc) (C := RX3) (T := TX3) (N := 7) hx hb hts in_X3_saveState_X3 hown K.1 hP 0 rfl rfl 2 (by decide) (hts _ (List.mem_of_getElem? (i := 1) rfl)) (fun _ h9 => h9) rfl dX3_saveState_1 ?_
  refine lv_iconst (v := 4) hx hb dX3_saveState_4 (by decide) ?_
  refine lv_icmp_lt (tgt := 12) hx hb dX3_saveState_5 (by decide) (fun c1 => ?_) (fun c1 => ?_)
  · have hq := q_if_t hq c1
    exact w_X3_saveState_12 X K hA ad tl tat tb tn tf vv ov bd sc cn cf sn sf _ hq _ _ hP hD hS ls (lv_sub hl [0] rfl)
  · have hq := q_if_f hq c1
    refine lv_aload_n hx hb dX3_saveState_8 rfl (lv_at hl 0 rfl) ?_
    obtain ⟨y2, hh3, hq⟩ := q_bd hq
    refine rwVf (ci := 3) (As := []) (rest := []) X K (k_X3_dropOldestState l G g (ad 0) (ad 3) (bd 0 0) (bd 1 0) (bd 2 0) (bd 3 0) (ad 1) (ad 4) (ad 6) (ad 8) (ad 9) (bd 0 1) (bd 1 1) (bd 2 1) (bd 3 1) sc _ hh3) hd_X3_dropOldestState gX3_saveState_X3_dropOldestState hP hD hS hA (foc_xr_X3_dropOldestState) hl.1 dX3_saveState_9 rfl rfl ⟨Nat.le_of_ble_eq_true rfl, Nat.le_of_ble_eq_true rfl⟩ rfl rfl rfl (Nat.le_of_ble_eq_true rfl) ⟨Nat.zero_le _, Nat.zero_le _⟩ (fun H locs hP hD hS => ?_)
    obtain ⟨y4, ey4⟩ : ∃ y, y = rot4 bd := ⟨_, rfl⟩
    have hq := q_let hq ey4
    rw [← ey4] at hP hD
    obtain ⟨y5, ey5⟩ : ∃ y, y = rot4 sn := ⟨_, rfl⟩
    have hq := q_let hq ey5
    rw [← ey5] at hP hD
    obtain ⟨y6, ey6⟩ : ∃ y, y = rot4 sf := ⟨_, rfl⟩
    have hq := q_let hq ey6
    rw [← ey6] at hP hD
    have hP : va_P G vwCl (wX g ad y4 y2 tl tat tb cn cf y5 y6 tn tf vv ov) H := hP
    have hD : va_D A (wX g ad y4 y2 tl tat tb cn cf y5 y6 tn tf vv ov) := hD
    exact w_X3_saveState_12 X K hA ad tl tat tb tn tf vv ov y4 y2 cn cf y5 y6 _ hq _ _ hP hD hS ls (lv_sub hl [0] rfl)
theorem hd_X0_numberAtFrame : ynm yX0_numberAtFrame 1 := by unfold ynm; decide +kernel
theorem hd_X3_curveNumbered : ynm yX3_curveNumbered 1 := by unfold ynm; decide +kernel
theorem hd_X3_saveState : ynm yX3_saveState 0 := by unfold ynm; decide +kernel
theorem sub_c {G : va_G} {g : Nat → ClassId} {ad : Nat → Nat} {bd : Nat → Nat → Nat} {sc : Int32} {tl : Int32} {tat : Int32} {tb : Nat → Int32} {cn : Nat → Int32} {cf : Nat → Nat → Int32} {sn : Nat → Nat → Int32} {sf : Nat → Nat → Nat → Int32} {tn : Int32} {tf : Nat → Int32} {vv : Nat → Int32} {ov : Nat → Int32} {k : Nat} (lk : k < 4) {H : Heap} (hP : va_P G vwCl (wX g ad bd sc tl tat tb cn cf sn sf tn tf vv ov) H) : va_P G vwCl [((cad ad k), .inr (0, [.int (cn k), .ref (aad ad k)])), ((aad ad k), .inl (g 0, 96, .inl (cf k)))] H := by
  match k, lk with
  | 0, _ => exact hP.sub [10, 11] rfl
  | 1, _ => exact hP.sub [12, 13] rfl
  | 2, _ => exact hP.sub [14, 15] rfl
  | 3, _ => exact hP.sub [16, 17] rfl
  | n + 4, h => exact absurd h (by omega)
set_option maxHeartbeats 4000000 in
set_option maxRecDepth 100000 in
theorem foc_c_X0_insert {g : Nat → ClassId} {ad : Nat → Nat} {bd : Nat → Nat → Nat} {sc : Int32} {tl : Int32} {tat : Int32} {tb : Nat → Int32} {cn : Nat → Int32} {cf : Nat → Nat → Int32} {sn : Nat → Nat → Int32} {sf : Nat → Nat → Nat → Int32} {tn : Int32} {tf : Nat → Int32} {vv : Nat → Int32} {ov : Nat → Int32} {k : Nat} (lk : k < 4) {n_cn : Int32} {n_cf : Nat → Int32} : focus (wX g ad bd sc tl tat tb cn cf sn sf tn tf vv ov) [((cad ad k), .inr (0, [.int (cn k), .ref (aad ad k)])), ((aad ad k), .inl (g 0, 96, .inl (cf k)))] [((cad ad k), .inr (0, [.int n_cn, .ref (aad ad k)])), ((aad ad k), .inl (g 0, 96, .inl n_cf))] (wX g ad bd sc tl tat tb (vu cn k n_cn) (vu cf k n_cf) sn sf tn tf vv ov) := by
  match k, lk with
  | 0, _ => exact focus.tail (wXt g bd sn sf) (focus.mk (ws := (wXh g ad bd sc tl tat tb cn cf tn tf vv ov)) (ws1 := (wXh g ad bd sc tl tat tb (vu cn 0 n_cn) (vu cf 0 n_cf) tn tf vv ov)) (n := 18) [10, 11] [0, 1, 2, 3, 4, 5, 6, 7, 8, 9, 12, 13, 14, 15, 16, 17] [10, 11] [0, 1, 2, 3, 4, 5, 6, 7, 8, 9, 12, 13, 14, 15, 16, 17] [(ad 0, .inr (3, [.ref (ad 1), .ref (ad 3), .int sc, .ref (ad 4), .ref (ad 6), .ref (ad 8), .ref (ad 9)])), (ad 1, .inr (2, [.ref (ad 2)])), (ad 2, .inl (g 2, 4, .inr (.inr (.inr (.inr (vq4 (cad ad 0) (cad ad 1) (cad ad 2) (cad ad 3))))))), (ad 3, .inl (g 3, 4, .inr (.inr (.inr (.inr (vq4 (bd 0 0) (bd 1 0) (bd 2 0) (bd 3 0))))))), (ad 4, .inr (1, [.ref (ad 5), .int tl, .int tat])), (ad 5, .inl (g 1, 150, .inl tb)), (ad 6, .inr (0, [.int tn, .ref (ad 7)])), (ad 7, .inl (g 0, 96, .inl tf)), (ad 8, .inl (g 0, 1000, .inl vv)), (ad 9, .inl (g 0, 1000, .inl ov)), (cad ad 1, .inr (0, [.int (cn 1), .ref (aad ad 1)])), (aad ad 1, .inl (g 0, 96, .inl (cf 1))), (cad ad 2, .inr (0, [.int (cn 2), .ref (aad ad 2)])), (aad ad 2, .inl (g 0, 96, .inl (cf 2))), (cad ad 3, .inr (0, [.int (cn 3), .ref (aad ad 3)])), (aad ad 3, .inl (g 0, 96, .inl (cf 3)))] (by decide +kernel) (by decide +kernel) rfl rfl rfl rfl rfl rfl)
  | 1, _ => exact focus.tail (wXt g bd sn sf) (focus.mk (ws := (wXh g ad bd sc tl tat tb cn cf tn tf vv ov)) (ws1 := (wXh g ad bd sc tl tat tb (vu cn 1 n_cn) (vu cf 1 n_cf) tn tf vv ov)) (n := 18) [12, 13] [0, 1, 2, 3, 4, 5, 6, 7, 8, 9, 10, 11, 14, 15, 16, 17] [12, 13] [0, 1, 2, 3, 4, 5, 6, 7, 8, 9, 10, 11, 14, 15, 16, 17] [(ad 0, .inr (3, [.ref (ad 1), .ref (ad 3), .int sc, .ref (ad 4), .ref (ad 6), .ref (ad 8), .ref (ad 9)])), (ad 1, .inr (2, [.ref (ad 2)])), (ad 2, .inl (g 2, 4, .inr (.inr (.inr (.inr (vq4 (cad ad 0) (cad ad 1) (cad ad 2) (cad ad 3))))))), (ad 3, .inl (g 3, 4, .inr (.inr (.inr (.inr (vq4 (bd 0 0) (bd 1 0) (bd 2 0) (bd 3 0))))))), (ad 4, .inr (1, [.ref (ad 5), .int tl, .int tat])), (ad 5, .inl (g 1, 150, .inl tb)), (ad 6, .inr (0, [.int tn, .ref (ad 7)])), (ad 7, .inl (g 0, 96, .inl tf)), (ad 8, .inl (g 0, 1000, .inl vv)), (ad 9, .inl (g 0, 1000, .inl ov)), (cad ad 0, .inr (0, [.int (cn 0), .ref (aad ad 0)])), (aad ad 0, .inl (g 0, 96, .inl (cf 0))), (cad ad 2, .inr (0, [.int (cn 2), .ref (aad ad 2)])), (aad ad 2, .inl (g 0, 96, .inl (cf 2))), (cad ad 3, .inr (0, [.int (cn 3), .ref (aad ad 3)])), (aad ad 3, .inl (g 0, 96, .inl (cf 3)))] (by decide +kernel) (by decide +kernel) rfl rfl rfl rfl rfl rfl)
  | 2, _ => exact focus.tail (wXt g bd sn sf) (focus.mk (ws := (wXh g ad bd sc tl tat tb cn cf tn tf vv ov)) (ws1 := (wXh g ad bd sc tl tat tb (vu cn 2 n_cn) (vu cf 2 n_cf) tn tf vv ov)) (n := 18) [14, 15] [0, 1, 2, 3, 4, 5, 6, 7, 8, 9, 10, 11, 12, 13, 16, 17] [14, 15] [0, 1, 2, 3, 4, 5, 6, 7, 8, 9, 10, 11, 12, 13, 16, 17] [(ad 0, .inr (3, [.ref (ad 1), .ref (ad 3), .int sc, .ref (ad 4), .ref (ad 6), .ref (ad 8), .ref (ad 9)])), (ad 1, .inr (2, [.ref (ad 2)])), (ad 2, .inl (g 2, 4, .inr (.inr (.inr (.inr (vq4 (cad ad 0) (cad ad 1) (cad ad 2) (cad ad 3))))))), (ad 3, .inl (g 3, 4, .inr (.inr (.inr (.inr (vq4 (bd 0 0) (bd 1 0) (bd 2 0) (bd 3 0))))))), (ad 4, .inr (1, [.ref (ad 5), .int tl, .int tat])), (ad 5, .inl (g 1, 150, .inl tb)), (ad 6, .inr (0, [.int tn, .ref (ad 7)])), (ad 7, .inl (g 0, 96, .inl tf)), (ad 8, .inl (g 0, 1000, .inl vv)), (ad 9, .inl (g 0, 1000, .inl ov)), (cad ad 0, .inr (0, [.int (cn 0), .ref (aad ad 0)])), (aad ad 0, .inl (g 0, 96, .inl (cf 0))), (cad ad 1, .inr (0, [.int (cn 1), .ref (aad ad 1)])), (aad ad 1, .inl (g 0, 96, .inl (cf 1))), (cad ad 3, .inr (0, [.int (cn 3), .ref (aad ad 3)])), (aad ad 3, .inl (g 0, 96, .inl (cf 3)))] (by decide +kernel) (by decide +kernel) rfl rfl rfl rfl rfl rfl)
  | 3, _ => exact focus.tail (wXt g bd sn sf) (focus.mk (ws := (wXh g ad bd sc tl tat tb cn cf tn tf vv ov)) (ws1 := (wXh g ad bd sc tl tat tb (vu cn 3 n_cn) (vu cf 3 n_cf) tn tf vv ov)) (n := 18) [16, 17] [0, 1, 2, 3, 4, 5, 6, 7, 8, 9, 10, 11, 12, 13, 14, 15] [16, 17] [0, 1, 2, 3, 4, 5, 6, 7, 8, 9, 10, 11, 12, 13, 14, 15] [(ad 0, .inr (3, [.ref (ad 1), .ref (ad 3), .int sc, .ref (ad 4), .ref (ad 6), .ref (ad 8), .ref (ad 9)])), (ad 1, .inr (2, [.ref (ad 2)])), (ad 2, .inl (g 2, 4, .inr (.inr (.inr (.inr (vq4 (cad ad 0) (cad ad 1) (cad ad 2) (cad ad 3))))))), (ad 3, .inl (g 3, 4, .inr (.inr (.inr (.inr (vq4 (bd 0 0) (bd 1 0) (bd 2 0) (bd 3 0))))))), (ad 4, .inr (1, [.ref (ad 5), .int tl, .int tat])), (ad 5, .inl (g 1, 150, .inl tb)), (ad 6, .inr (0, [.int tn, .ref (ad 7)])), (ad 7, .inl (g 0, 96, .inl tf)), (ad 8, .inl (g 0, 1000, .inl vv)), (ad 9, .inl (g 0, 1000, .inl ov)), (cad ad 0, .inr (0, [.int (cn 0), .ref (aad ad 0)])), (aad ad 0, .inl (g 0, 96, .inl (cf 0))), (cad ad 1, .inr (0, [.int (cn 1), .ref (aad ad 1)])), (aad ad 1, .inl (g 0, 96, .inl (cf 1))), (cad ad 2, .inr (0, [.int (cn 2), .ref (aad ad 2)])), (aad ad 2, .inl (g 0, 96, .inl (cf 2)))] (by decide +kernel) (by decide +kernel) rfl rfl rfl rfl rfl rfl)
  | n + 4, h => exact absurd h (by omega)
theorem in_X3_addKey_X0 : ∀ w ∈ wsX00, w ∈ wsX3_addKey := fun _ h => List.mem_cons_of_mem _ (List.mem_append_left _ (List.mem_append_left _ (List.mem_append_left _ (List.mem_append_left _ (List.mem_append_left _ (List.mem_append_right _ h))))))
def F_X3_addKey (bd : Nat → Nat → Nat) (sc : Int32) (cn : Nat → Int32) (cf : Nat → Nat → Int32) (sn : Nat → Nat → Int32) (sf : Nat → Nat → Nat → Int32) (p1 : Int32) (p2 : Int32) (p3 : Int32) (p4 : Int32) : Option (Sum Nat (Int32 × (Nat → Nat → Nat) × Int32 × (Nat → Int32) × (Nat → Nat → Int32) × (Nat → Nat → Int32) × (Nat → Nat → Nat → Int32))) := thr (F_X3_curveNumbered p1) fun r1 => thr (F_X3_requireRange p2 0 999) fun _u => thr (F_X3_requireRange p3 (-9999) 9999) fun _u => thr (F_X3_requireRange p4 0 5) fun _u => if (cn r1) < 16 then ((F_X0_numberAtFrame (cn r1) (cf r1) p2).bind fun r7 => if r7 = (-1) then ((F_X3_saveState bd sc cn cf sn sf).bind fun o15 => (F_X0_insert (cn r1) (cf r1) p2 p3 p4 0 0 0).bind fun o20 => vlet (vu cn r1 o20.2.1) fun y21 => vlet (vu cf r1 o20.2.2) fun y22 => some (.inr (o20.1, o15.1, o15.2.1, y21, y22, o15.2.2.1, o15.2.2.2))) else (some (.inl 3))) else (some (.inl 3))
set_option maxHeartbeats 4000000 in
set_option maxRecDepth 100000 in
theorem k_X3_addKey (l : Launch) (G : va_G) (g : Nat → ClassId) (ad : Nat → Nat) (bd : Nat → Nat → Nat) (sc : Int32) (tl : Int32) (tat : Int32) (tb : Nat → Int32) (cn : Nat → Int32) (cf : Nat → Nat → Int32) (sn : Nat → Nat → Int32) (sf : Nat → Nat → Nat → Int32) (tn : Int32) (tf : Nat → Int32) (vv : Nat → Int32) (ov : Nat → Int32) (p1 : Int32) (p2 : Int32) (p3 : Int32) (p4 : Int32) (res : Int32 × (Nat → Nat → Nat) × Int32 × (Nat → Int32) × (Nat → Nat → Int32) × (Nat → Nat → Int32) × (Nat → Nat → Nat → Int32)) (hq : F_X3_addKey bd sc cn cf sn sf p1 p2 p3 p4 = some (.inr res)) : rwC l yX3_addKey wsX3_addKey (rmF 4 103) G g [.ref (ad 0), .int p1, .int p2, .int p3, .int p4] (wX g ad bd sc tl tat tb cn cf sn sf tn tf vv ov) (some (.int res.1)) (wX g ad res.2.1 res.2.2.1 tl tat tb res.2.2.2.1 res.2.2.2.2.1 res.2.2.2.2.2.1 res.2.2.2.2.2.2 tn tf vv ov) := by
  refine rwC.of (cc := cX3_addKey) (maxL := 6) (ret := (some .int)) (by decide) rfl (Nat.le_of_ble_eq_true rfl) ?_
  intro p e s m below meth c ls A X K hA hP hD hS hl
  obtain ⟨hx, hb, hml, hr, hown, hts, hk⟩ := id X
  have hl : lv_has ls 6 [(0, .ref (ad 0)), (1, .int p1), (2, .int p2), (3, .int p3), (4, .int p4)] := hl
  unfold F_X3_addKey at hq
  refine lv_aload_n hx hb dX3_addKey_0 rfl (lv_at hl 0 rfl) ?_
  refine lv_iload_n hx hb dX3_addKey_1 rfl (lv_at hl 1 rfl) ?_
  obtain ⟨r1, hh2, hq⟩ := q_th hq
  refine roV (ci := 3) (As := [.int p1]) (rest := []) X K (k_X3_curveNumbered l G g ad bd sc tl tat tb cn cf sn sf tn tf vv ov p1 _ hh2) hd_X3_curveNumbered gX3_addKey_X3_curveNumbered hP hl.1 dX3_addKey_2 rfl rfl ⟨Nat.le_of_ble_eq_true rfl, Nat.le_of_ble_eq_true rfl⟩ rfl rfl rfl (Nat.le_of_ble_eq_true rfl) ⟨Nat.zero_le _, Nat.zero_le _⟩ ?_
  have lr1 := F_X3_curveNumbered_lt hh2
  refine lv_astore (lv' := [(5, .ref (cad ad r1)), (0, .ref (ad 0)), (1, .int p1), (2, .int p2), (3, .int p3), (4, .int p4)]) hx hb dX3_addKey_5 hl (by decide) rfl (fun ls hl => ?_)
  refine lv_iload_n hx hb dX3_addKey_7 rfl (lv_at hl 3 rfl) ?_
  refine lv_iconst (v := 0) hx hb dX3_addKey_8 (by decide) ?_
  refine lv_sipush (v := 999) hx hb dX3_addKey_9 (by decide) ?_
  obtain ⟨_, hh3, hq⟩ := q_th hq
  refine roS (As := [.int p2, .int 0, .int 999]) (rest := []) X K (k_X3_requireRange l G g p2 0 999 _ hh3) hd_X3_requireRange gX3_addKey_X3_requireRange (va_P.none G) hl.1 dX3_addKey_12 rfl rfl ⟨Nat.le_of_ble_eq_true rfl, Nat.le_of_ble_eq_true rfl⟩ rfl (Nat.le_of_ble_eq_true rfl) ⟨Nat.zero_le _, Nat.zero_le _⟩ ?_
  refine lv_iload_n hx hb dX3_addKey_15 rfl (lv_at hl 4 rfl) ?_
  refine lv_sipush (v := (-9999)) hx hb dX3_addKey_16 (by decide) ?_
  refine lv_sipush (v := 9999) hx hb dX3_addKey_19 (by decide) ?_
  obtain ⟨_, hh4, hq⟩ := q_th hq
  refine roS (As := [.int p3, .int (-9999), .int 9999]) (rest := []) X K (k_X3_requireRange l G g p3 (-9999) 9999 _ hh4) hd_X3_requireRange gX3_addKey_X3_requireRange (va_P.none G) hl.1 dX3_addKey_22 rfl rfl ⟨Nat.le_of_ble_eq_true rfl, Nat.le_of_ble_eq_true rfl⟩ rfl (Nat.le_of_ble_eq_true rfl) ⟨Nat.zero_le _, Nat.zero_le _⟩ ?_
  refine lv_iload hx hb dX3_addKey_25 (lv_at hl 5 rfl) ?_
  refine lv_iconst (v := 0) hx hb dX3_addKey_27 (by decide) ?_
  refine lv_iconst (v := 5) hx hb dX3_addKey_28 (by decide) ?_
  obtain ⟨_, hh5, hq⟩ := q_th hq
  refine roS (As := [.int p4, .int 0, .int 5]) (rest := []) X K (k_X3_requireRange l G g p4 0 5 _ hh5) hd_X3_requireRange gX3_addKey_X3_requireRange (va_P.none G) hl.1 dX3_addKey_29 rfl rfl ⟨Nat.le_of_ble_eq_true rfl, Nat.le_of_ble_eq_true rfl⟩ rfl (Nat.le_of_ble_eq_true rfl) ⟨Nat.zero_le _, Nat.zero_le _⟩ ?_
  refine lv_aload hx hb dX3_addKey_32 (lv_at hl 0 rfl) ?_
  refine va_getN (D := G) (ci := 0) (v := .int (cn r1)) (C := RX0) (T := TX0) (N := 2) (host := RX3) hx hb hts in_X3_addKey_X0 hown K.1 (sub_c lr1 hP) 0 rfl rfl 0 (by decide) ((K.2.2 (RX3, 53, RX0, "count", "I", RX3) (by decide +kernel)).use rfl) (fun _ h9 => h9) rfl dX3_addKey_34 ?_
  refine lv_bipush (v := 16) hx hb dX3_addKey_37 (by decide) ?_
  refine lv_icmp_lt (tgt := 52) hx hb dX3_addKey_39 (by decide) (fun c6 => ?_) (fun c6 => ?_)
  · have hq := q_if_t hq c6
    refine lv_aload hx hb dX3_addKey_52 (lv_at hl 0 rfl) ?_
    refine lv_iload_n hx hb dX3_addKey_54 rfl (lv_at hl 3 rfl) ?_
    obtain ⟨r7, hh8, hq⟩ := q_bd hq
    refine roN (ci := 0) (host := RX3) (As := [.int p2]) (rest := []) X K (k_X0_numberAtFrame l G g (cad ad r1) (aad ad r1) (cn r1) (cf r1) p2 _ hh8) hd_X0_numberAtFrame ggX3_addKey_X0_numberAtFrame (by decide +kernel) (List.mem_of_getElem? (i := 17) rfl) (List.mem_of_getElem? (i := 16) rfl) (List.mem_of_getElem? (i := 18) rfl) (sub_c lr1 hP) hl.1 dX3_addKey_55 rfl rfl ⟨Nat.le_of_ble_eq_true rfl, Nat.le_of_ble_eq_true rfl⟩ rfl rfl rfl (Nat.le_of_ble_eq_true rfl) ⟨Nat.zero_le _, Nat.zero_le _⟩ ?_
    refine lv_iconst (v := (-1)) hx hb dX3_addKey_58 (by decide) ?_
    refine lv_icmp_eq (tgt := 72) hx hb dX3_addKey_59 (by decide) (fun c9 => ?_) (fun c9 => ?_)
    · have hq := q_if_t hq c9
      refine lv_aload_n hx hb dX3_addKey_72 rfl (lv_at hl 1 rfl) ?_
      obtain ⟨⟨y10, y11, y12, y13⟩, hh14, hq⟩ := q_bd hq
      refine rwVf (ci := 3) (As := []) (rest := []) X K (k_X3_saveState l G g ad bd sc tl tat tb cn cf sn sf tn tf vv ov _ hh14) hd_X3_saveState gX3_addKey_X3_saveState hP hD hS hA foc_id hl.1 dX3_addKey_73 rfl rfl ⟨Nat.le_of_ble_eq_true rfl, Nat.le_of_ble_eq_true rfl⟩ rfl rfl rfl (Nat.le_of_ble_eq_true rfl) ⟨Nat.zero_le _, Nat.zero_le _⟩ (fun H locs hP hD hS => ?_)
      have hP : va_P G vwCl (wX g ad y10 y11 tl tat tb cn cf y12 y13 tn tf vv ov) H := hP
      have hD : va_D A (wX g ad y10 y11 tl tat tb cn cf y12 y13 tn tf vv ov) := hD
      refine lv_aload hx hb dX3_addKey_76 (lv_at hl 0 rfl) ?_
      refine lv_iload_n hx hb dX3_addKey_78 rfl (lv_at hl 3 rfl) ?_
      refine lv_iload_n hx hb dX3_addKey_79 rfl (lv_at hl 4 rfl) ?_
      refine lv_iload hx hb dX3_addKey_80 (lv_at hl 5 rfl) ?_
      refine lv_iconst (v := 0) hx hb dX3_addKey_82 (by decide) ?_
      refine lv_iconst (v := 0) hx hb dX3_addKey_83 (by decide) ?_
      refine lv_iconst (v := 0) hx hb dX3_addKey_84 (by decide) ?_
      obtain ⟨⟨r16, y17, y18⟩, hh19, hq⟩ := q_bd hq
      refine rwNf (ci := 0) (host := RX3) (As := [.int p2, .int p3, .int p4, .int 0, .int 0, .int 0]) (rest := []) X K (k_X0_insert l G g (cad ad r1) (aad ad r1) (cn r1) (cf r1) p2 p3 p4 0 0 0 _ hh19) hd_X0_insert ggX3_addKey_X0_insert (by decide +kernel) (List.mem_of_getElem? (i := 17) rfl) (List.mem_of_getElem? (i := 52) rfl) (List.mem_of_getElem? (i := 53) rfl) hP hD hS hA (foc_c_X0_insert lr1) hl.1 dX3_addKey_85 rfl rfl ⟨Nat.le_of_ble_eq_true rfl, Nat.le_of_ble_eq_true rfl⟩ rfl rfl rfl (Nat.le_of_ble_eq_true rfl) ⟨Nat.zero_le _, Nat.zero_le _⟩ (fun H locs hP hD hS => ?_)
      obtain ⟨y21, ey21⟩ : ∃ y, y = vu cn r1 y17 := ⟨_, rfl⟩
      have hq := q_let hq ey21
      rw [← ey21] at hP hD
      obtain ⟨y22, ey22⟩ : ∃ y, y = vu cf r1 y18 := ⟨_, rfl⟩
      have hq := q_let hq ey22
      rw [← ey22] at hP hD
      have hP : va_P G vwCl (wX g ad y10 y11 tl tat tb y21 y22 y12 y13 tn tf vv ov) H := hP
      have hD : va_D A (wX g ad y10 y11 tl tat tb y21 y22 y12 y13 tn tf vv ov) := hD
      obtain rfl := q_ri hq
      exact rw_iret hx hb hr hk hP hD hS dX3_addKey_88
    · have hq := q_if_f hq c9
      exact q_lr hq
  · have hq := q_if_f hq c6
    exact q_lr hq
theorem hd_X3_requireKey : ynm yX3_requireKey 2 := by unfold ynm; decide +kernel
theorem hd_X3_requireUnlocked : ynm yX3_requireUnlocked 2 := by unfold ynm; decide +kernel
set_option maxHeartbeats 4000000 in
set_option maxRecDepth 100000 in
theorem foc_c_X0_takeOut {g : Nat → ClassId} {ad : Nat → Nat} {bd : Nat → Nat → Nat} {sc : Int32} {tl : Int32} {tat : Int32} {tb : Nat → Int32} {cn : Nat → Int32} {cf : Nat → Nat → Int32} {sn : Nat → Nat → Int32} {sf : Nat → Nat → Nat → Int32} {tn : Int32} {tf : Nat → Int32} {vv : Nat → Int32} {ov : Nat → Int32} {k : Nat} (lk : k < 4) {n_cn : Int32} {n_cf : Nat → Int32} : focus (wX g ad bd sc tl tat tb cn cf sn sf tn tf vv ov) [((cad ad k), .inr (0, [.int (cn k), .ref (aad ad k)])), ((aad ad k), .inl (g 0, 96, .inl (cf k)))] [((cad ad k), .inr (0, [.int n_cn, .ref (aad ad k)])), ((aad ad k), .inl (g 0, 96, .inl n_cf))] (wX g ad bd sc tl tat tb (vu cn k n_cn) (vu cf k n_cf) sn sf tn tf vv ov) := by
  match k, lk with
  | 0, _ => exact focus.tail (wXt g bd sn sf) (focus.mk (ws := (wXh g ad bd sc tl tat tb cn cf tn tf vv ov)) (ws1 := (wXh g ad bd sc tl tat tb (vu cn 0 n_cn) (vu cf 0 n_cf) tn tf vv ov)) (n := 18) [10, 11] [0, 1, 2, 3, 4, 5, 6, 7, 8, 9, 12, 13, 14, 15, 16, 17] [10, 11] [0, 1, 2, 3, 4, 5, 6, 7, 8, 9, 12, 13, 14, 15, 16, 17] [(ad 0, .inr (3, [.ref (ad 1), .ref (ad 3), .int sc, .ref (ad 4), .ref (ad 6), .ref (ad 8), .ref (ad 9)])), (ad 1, .inr (2, [.ref (ad 2)])), (ad 2, .inl (g 2, 4, .inr (.inr (.inr (.inr (vq4 (cad ad 0) (cad ad 1) (cad ad 2) (cad ad 3))))))), (ad 3, .inl (g 3, 4, .inr (.inr (.inr (.inr (vq4 (bd 0 0) (bd 1 0) (bd 2 0) (bd 3 0))))))), (ad 4, .inr (1, [.ref (ad 5), .int tl, .int tat])), (ad 5, .inl (g 1, 150, .inl tb)), (ad 6, .inr (0, [.int tn, .ref (ad 7)])), (ad 7, .inl (g 0, 96, .inl tf)), (ad 8, .inl (g 0, 1000, .inl vv)), (ad 9, .inl (g 0, 1000, .inl ov)), (cad ad 1, .inr (0, [.int (cn 1), .ref (aad ad 1)])), (aad ad 1, .inl (g 0, 96, .inl (cf 1))), (cad ad 2, .inr (0, [.int (cn 2), .ref (aad ad 2)])), (aad ad 2, .inl (g 0, 96, .inl (cf 2))), (cad ad 3, .inr (0, [.int (cn 3), .ref (aad ad 3)])), (aad ad 3, .inl (g 0, 96, .inl (cf 3)))] (by decide +kernel) (by decide +kernel) rfl rfl rfl rfl rfl rfl)
  | 1, _ => exact focus.tail (wXt g bd sn sf) (focus.mk (ws := (wXh g ad bd sc tl tat tb cn cf tn tf vv ov)) (ws1 := (wXh g ad bd sc tl tat tb (vu cn 1 n_cn) (vu cf 1 n_cf) tn tf vv ov)) (n := 18) [12, 13] [0, 1, 2, 3, 4, 5, 6, 7, 8, 9, 10, 11, 14, 15, 16, 17] [12, 13] [0, 1, 2, 3, 4, 5, 6, 7, 8, 9, 10, 11, 14, 15, 16, 17] [(ad 0, .inr (3, [.ref (ad 1), .ref (ad 3), .int sc, .ref (ad 4), .ref (ad 6), .ref (ad 8), .ref (ad 9)])), (ad 1, .inr (2, [.ref (ad 2)])), (ad 2, .inl (g 2, 4, .inr (.inr (.inr (.inr (vq4 (cad ad 0) (cad ad 1) (cad ad 2) (cad ad 3))))))), (ad 3, .inl (g 3, 4, .inr (.inr (.inr (.inr (vq4 (bd 0 0) (bd 1 0) (bd 2 0) (bd 3 0))))))), (ad 4, .inr (1, [.ref (ad 5), .int tl, .int tat])), (ad 5, .inl (g 1, 150, .inl tb)), (ad 6, .inr (0, [.int tn, .ref (ad 7)])), (ad 7, .inl (g 0, 96, .inl tf)), (ad 8, .inl (g 0, 1000, .inl vv)), (ad 9, .inl (g 0, 1000, .inl ov)), (cad ad 0, .inr (0, [.int (cn 0), .ref (aad ad 0)])), (aad ad 0, .inl (g 0, 96, .inl (cf 0))), (cad ad 2, .inr (0, [.int (cn 2), .ref (aad ad 2)])), (aad ad 2, .inl (g 0, 96, .inl (cf 2))), (cad ad 3, .inr (0, [.int (cn 3), .ref (aad ad 3)])), (aad ad 3, .inl (g 0, 96, .inl (cf 3)))] (by decide +kernel) (by decide +kernel) rfl rfl rfl rfl rfl rfl)
  | 2, _ => exact focus.tail (wXt g bd sn sf) (focus.mk (ws := (wXh g ad bd sc tl tat tb cn cf tn tf vv ov)) (ws1 := (wXh g ad bd sc tl tat tb (vu cn 2 n_cn) (vu cf 2 n_cf) tn tf vv ov)) (n := 18) [14, 15] [0, 1, 2, 3, 4, 5, 6, 7, 8, 9, 10, 11, 12, 13, 16, 17] [14, 15] [0, 1, 2, 3, 4, 5, 6, 7, 8, 9, 10, 11, 12, 13, 16, 17] [(ad 0, .inr (3, [.ref (ad 1), .ref (ad 3), .int sc, .ref (ad 4), .ref (ad 6), .ref (ad 8), .ref (ad 9)])), (ad 1, .inr (2, [.ref (ad 2)])), (ad 2, .inl (g 2, 4, .inr (.inr (.inr (.inr (vq4 (cad ad 0) (cad ad 1) (cad ad 2) (cad ad 3))))))), (ad 3, .inl (g 3, 4, .inr (.inr (.inr (.inr (vq4 (bd 0 0) (bd 1 0) (bd 2 0) (bd 3 0))))))), (ad 4, .inr (1, [.ref (ad 5), .int tl, .int tat])), (ad 5, .inl (g 1, 150, .inl tb)), (ad 6, .inr (0, [.int tn, .ref (ad 7)])), (ad 7, .inl (g 0, 96, .inl tf)), (ad 8, .inl (g 0, 1000, .inl vv)), (ad 9, .inl (g 0, 1000, .inl ov)), (cad ad 0, .inr (0, [.int (cn 0), .ref (aad ad 0)])), (aad ad 0, .inl (g 0, 96, .inl (cf 0))), (cad ad 1, .inr (0, [.int (cn 1), .ref (aad ad 1)])), (aad ad 1, .inl (g 0, 96, .inl (cf 1))), (cad ad 3, .inr (0, [.int (cn 3), .ref (aad ad 3)])), (aad ad 3, .inl (g 0, 96, .inl (cf 3)))] (by decide +kernel) (by decide +kernel) rfl rfl rfl rfl rfl rfl)
  | 3, _ => exact focus.tail (wXt g bd sn sf) (focus.mk (ws := (wXh g ad bd sc tl tat tb cn cf tn tf vv ov)) (ws1 := (wXh g ad bd sc tl tat tb (vu cn 3 n_cn) (vu cf 3 n_cf) tn tf vv ov)) (n := 18) [16, 17] [0, 1, 2, 3, 4, 5, 6, 7, 8, 9, 10, 11, 12, 13, 14, 15] [16, 17] [0, 1, 2, 3, 4, 5, 6, 7, 8, 9, 10, 11, 12, 13, 14, 15] [(ad 0, .inr (3, [.ref (ad 1), .ref (ad 3), .int sc, .ref (ad 4), .ref (ad 6), .ref (ad 8), .ref (ad 9)])), (ad 1, .inr (2, [.ref (ad 2)])), (ad 2, .inl (g 2, 4, .inr (.inr (.inr (.inr (vq4 (cad ad 0) (cad ad 1) (cad ad 2) (cad ad 3))))))), (ad 3, .inl (g 3, 4, .inr (.inr (.inr (.inr (vq4 (bd 0 0) (bd 1 0) (bd 2 0) (bd 3 0))))))), (ad 4, .inr (1, [.ref (ad 5), .int tl, .int tat])), (ad 5, .inl (g 1, 150, .inl tb)), (ad 6, .inr (0, [.int tn, .ref (ad 7)])), (ad 7, .inl (g 0, 96, .inl tf)), (ad 8, .inl (g 0, 1000, .inl vv)), (ad 9, .inl (g 0, 1000, .inl ov)), (cad ad 0, .inr (0, [.int (cn 0), .ref (aad ad 0)])), (aad ad 0, .inl (g 0, 96, .inl (cf 0))), (cad ad 1, .inr (0, [.int (cn 1), .ref (aad ad 1)])), (aad ad 1, .inl (g 0, 96, .inl (cf 1))), (cad ad 2, .inr (0, [.int (cn 2), .ref (aad ad 2)])), (aad ad 2, .inl (g 0, 96, .inl (cf 2)))] (by decide +kernel) (by decide +kernel) rfl rfl rfl rfl rfl rfl)
  | n + 4, h => exact absurd h (by omega)
theorem in_X3_removeKey_X0 : ∀ w ∈ wsX00, w ∈ wsX3_removeKey := fun _ h => List.mem_cons_of_mem _ (List.mem_append_left _ (List.mem_append_left _ (List.mem_append_left _ (List.mem_append_left _ (List.mem_append_right _ h)))))
def F_X3_removeKey (bd : Nat → Nat → Nat) (sc : Int32) (cn : Nat → Int32) (cf : Nat → Nat → Int32) (sn : Nat → Nat → Int32) (sf : Nat → Nat → Nat → Int32) (p1 : Int32) (p2 : Int32) : Option (Sum Nat (Int32 × (Nat → Nat → Nat) × Int32 × (Nat → Int32) × (Nat → Nat → Int32) × (Nat → Nat → Int32) × (Nat → Nat → Nat → Int32))) := thr (F_X3_curveNumbered p1) fun r1 => thr (F_X3_requireKey (cn r1) p2) fun _u => thr (F_X3_requireUnlocked (cn r1) (cf r1) p2) fun _u => (F_X3_saveState bd sc cn cf sn sf).bind fun o10 => (F_X0_takeOut (cn r1) (cf r1) p2).bind fun o14 => vlet (vu cn r1 o14.1) fun y15 => vlet (vu cf r1 o14.2) fun y16 => some (.inr (y15 r1, o10.1, o10.2.1, y15, y16, o10.2.2.1, o10.2.2.2))
set_option maxHeartbeats 4000000 in
set_option maxRecDepth 100000 in
theorem k_X3_removeKey (l : Launch) (G : va_G) (g : Nat → ClassId) (ad : Nat → Nat) (bd : Nat → Nat → Nat) (sc : Int32) (tl : Int32) (tat : Int32) (tb : Nat → Int32) (cn : Nat → Int32) (cf : Nat → Nat → Int32) (sn : Nat → Nat → Int32) (sf : Nat → Nat → Nat → Int32) (tn : Int32) (tf : Nat → Int32) (vv : Nat → Int32) (ov : Nat → Int32) (p1 : Int32) (p2 : Int32) (res : Int32 × (Nat → Nat → Nat) × Int32 × (Nat → Int32) × (Nat → Nat → Int32) × (Nat → Nat → Int32) × (Nat → Nat → Nat → Int32)) (hq : F_X3_removeKey bd sc cn cf sn sf p1 p2 = some (.inr res)) : rwC l yX3_removeKey wsX3_removeKey (rmF 4 103) G g [.ref (ad 0), .int p1, .int p2] (wX g ad bd sc tl tat tb cn cf sn sf tn tf vv ov) (some (.int res.1)) (wX g ad res.2.1 res.2.2.1 tl tat tb res.2.2.2.1 res.2.2.2.2.1 res.2.2.2.2.2.1 res.2.2.2.2.2.2 tn tf vv ov) := by
  refine rwC.of (cc := cX3_removeKey) (maxL := 4) (ret := (some .int)) (by decide) rfl (Nat.le_of_ble_eq_true rfl) ?_
  intro p e s m below meth c ls A X K hA hP hD hS hl
  obtain ⟨hx, hb, hml, hr, hown, hts, hk⟩ := id X
  have hl : lv_has ls 4 [(0, .ref (ad 0)), (1, .int p1), (2, .int p2)] := hl
  unfold F_X3_removeKey at hq
  refine lv_aload_n hx hb dX3_removeKey_0 rfl (lv_at hl 0 rfl) ?_
  refine lv_iload_n hx hb dX3_removeKey_1 rfl (lv_at hl 1 rfl) ?_
  obtain ⟨r1, hh2, hq⟩ := q_th hq
  refine roV (ci := 3) (As := [.int p1]) (rest := []) X K (k_X3_curveNumbered l G g ad bd sc tl tat tb cn cf sn sf tn tf vv ov p1 _ hh2) hd_X3_curveNumbered gX3_removeKey_X3_curveNumbered hP hl.1 dX3_removeKey_2 rfl rfl ⟨Nat.le_of_ble_eq_true rfl, Nat.le_of_ble_eq_true rfl⟩ rfl rfl rfl (Nat.le_of_ble_eq_true rfl) ⟨Nat.zero_le _, Nat.zero_le _⟩ ?_
  have lr1 := F_X3_curveNumbered_lt hh2
  refine lv_astore_n (lv' := [(3, .ref (cad ad r1)), (0, .ref (ad 0)), (1, .int p1), (2, .int p2)]) hx hb dX3_removeKey_5 rfl hl (by decide) rfl (fun ls hl => ?_)
  refine lv_aload_n hx hb dX3_removeKey_6 rfl (lv_at hl 0 rfl) ?_
  refine lv_iload_n hx hb dX3_removeKey_7 rfl (lv_at hl 3 rfl) ?_
  obtain ⟨_, hh3, hq⟩ := q_th hq
  refine roS (As := [.ref (cad ad r1), .int p2]) (rest := []) X K (k_X3_requireKey l G g (cad ad r1) (aad ad r1) (cn r1) (cf r1) p2 _ hh3) hd_X3_requireKey gX3_removeKey_X3_requireKey (sub_c lr1 hP) hl.1 dX3_removeKey_8 rfl rfl ⟨Nat.le_of_ble_eq_true rfl, Nat.le_of_ble_eq_true rfl⟩ rfl (Nat.le_of_ble_eq_true rfl) ⟨Nat.zero_le _, Nat.zero_le _⟩ ?_
  refine lv_aload_n hx hb dX3_removeKey_11 rfl (lv_at hl 0 rfl) ?_
  refine lv_iload_n hx hb dX3_removeKey_12 rfl (lv_at hl 3 rfl) ?_
  obtain ⟨_, hh4, hq⟩ := q_th hq
  refine roS (As := [.ref (cad ad r1), .int p2]) (rest := []) X K (k_X3_requireUnlocked l G g (cad ad r1) (aad ad r1) (cn r1) (cf r1) p2 _ hh4) hd_X3_requireUnlocked gX3_removeKey_X3_requireUnlocked (sub_c lr1 hP) hl.1 dX3_removeKey_13 rfl rfl ⟨Nat.le_of_ble_eq_true rfl, Nat.le_of_ble_eq_true rfl⟩ rfl (Nat.le_of_ble_eq_true rfl) ⟨Nat.zero_le _, Nat.zero_le _⟩ ?_
  refine lv_aload_n hx hb dX3_removeKey_16 rfl (lv_at hl 1 rfl) ?_
  obtain ⟨⟨y5, y6, y7, y8⟩, hh9, hq⟩ := q_bd hq
  refine rwVf (ci := 3) (As := []) (rest := []) X K (k_X3_saveState l G g ad bd sc tl tat tb cn cf sn sf tn tf vv ov _ hh9) hd_X3_saveState gX3_removeKey_X3_saveState hP hD hS hA foc_id hl.1 dX3_removeKey_17 rfl rfl ⟨Nat.le_of_ble_eq_true rfl, Nat.le_of_ble_eq_true rfl⟩ rfl rfl rfl (Nat.le_of_ble_eq_true rfl) ⟨Nat.zero_le _, Nat.zero_le _⟩ (fun H locs hP hD hS => ?_)
  have hP : va_P G vwCl (wX g ad y5 y6 tl tat tb cn cf y7 y8 tn tf vv ov) H := hP
  have hD : va_D A (wX g ad y5 y6 tl tat tb cn cf y7 y8 tn tf vv ov) := hD
  refine lv_aload_n hx hb dX3_removeKey_20 rfl (lv_at hl 0 rfl) ?_
  refine lv_iload_n hx hb dX3_removeKey_21 rfl (lv_at hl 3 rfl) ?_
  obtain ⟨⟨y11, y12⟩, hh13, hq⟩ := q_bd hq
  refine rwNf (ci := 0) (host := RX3) (As := [.int p2]) (rest := []) X K (k_X0_takeOut l G g (cad ad r1) (aad ad r1) (cn r1) (cf r1) p2 _ hh13) hd_X0_takeOut ggX3_removeKey_X0_takeOut (by decide +kernel) (List.mem_of_getElem? (i := 18) rfl) (List.mem_of_getElem? (i := 49) rfl) (List.mem_of_getElem? (i := 50) rfl) hP hD hS hA (foc_c_X0_takeOut lr1) hl.1 dX3_removeKey_22 rfl rfl ⟨Nat.le_of_ble_eq_true rfl, Nat.le_of_ble_eq_true rfl⟩ rfl rfl rfl (Nat.le_of_ble_eq_true rfl) ⟨Nat.zero_le _, Nat.zero_le _⟩ (fun H locs hP hD hS => ?_)
  obtain ⟨y15, ey15⟩ : ∃ y, y = vu cn r1 y11 := ⟨_, rfl⟩
  have hq := q_let hq ey15
  rw [← ey15] at hP hD
  obtain ⟨y16, ey16⟩ : ∃ y, y = vu cf r1 y12 := ⟨_, rfl⟩
  have hq := q_let hq ey16
  rw [← ey16] at hP hD
  have hP : va_P G vwCl (wX g ad y5 y6 tl tat tb y15 y16 y7 y8 tn tf vv ov) H := hP
  have hD : va_D A (wX g ad y5 y6 tl tat tb y15 y16 y7 y8 tn tf vv ov) := hD
  refine lv_aload_n hx hb dX3_removeKey_25 rfl (lv_at hl 0 rfl) ?_
  refine va_getN (D := G) (ci := 0) (v := .int (y15 r1)) (C := RX0) (T := TX0) (N := 2) (host := RX3) hx hb hts in_X3_removeKey_X0 hown K.1 (sub_c lr1 hP) 0 rfl rfl 0 (by decide) ((K.2.2 (RX3, 53, RX0, "count", "I", RX3) (by decide +kernel)).use rfl) (fun _ h9 => h9) rfl dX3_removeKey_26 ?_
  obtain rfl := q_ri hq
  exact rw_iret hx hb hr hk hP hD hS dX3_removeKey_29
set_option maxHeartbeats 4000000 in
set_option maxRecDepth 100000 in
theorem foc_c_X0_put {g : Nat → ClassId} {ad : Nat → Nat} {bd : Nat → Nat → Nat} {sc : Int32} {tl : Int32} {tat : Int32} {tb : Nat → Int32} {cn : Nat → Int32} {cf : Nat → Nat → Int32} {sn : Nat → Nat → Int32} {sf : Nat → Nat → Nat → Int32} {tn : Int32} {tf : Nat → Int32} {vv : Nat → Int32} {ov : Nat → Int32} {k : Nat} (lk : k < 4) {n_cf : Nat → Int32} : focus (wX g ad bd sc tl tat tb cn cf sn sf tn tf vv ov) [((cad ad k), .inr (0, [.int (cn k), .ref (aad ad k)])), ((aad ad k), .inl (g 0, 96, .inl (cf k)))] [((cad ad k), .inr (0, [.int (cn k), .ref (aad ad k)])), ((aad ad k), .inl (g 0, 96, .inl n_cf))] (wX g ad bd sc tl tat tb cn (vu cf k n_cf) sn sf tn tf vv ov) := by
  match k, lk with
  | 0, _ => exact focus.tail (wXt g bd sn sf) (focus.mk (ws := (wXh g ad bd sc tl tat tb cn cf tn tf vv ov)) (ws1 := (wXh g ad bd sc tl tat tb cn (vu cf 0 n_cf) tn tf vv ov)) (n := 18) [10, 11] [0, 1, 2, 3, 4, 5, 6, 7, 8, 9, 12, 13, 14, 15, 16, 17] [10, 11] [0, 1, 2, 3, 4, 5, 6, 7, 8, 9, 12, 13, 14, 15, 16, 17] [(ad 0, .inr (3, [.ref (ad 1), .ref (ad 3), .int sc, .ref (ad 4), .ref (ad 6), .ref (ad 8), .ref (ad 9)])), (ad 1, .inr (2, [.ref (ad 2)])), (ad 2, .inl (g 2, 4, .inr (.inr (.inr (.inr (vq4 (cad ad 0) (cad ad 1) (cad ad 2) (cad ad 3))))))), (ad 3, .inl (g 3, 4, .inr (.inr (.inr (.inr (vq4 (bd 0 0) (bd 1 0) (bd 2 0) (bd 3 0))))))), (ad 4, .inr (1, [.ref (ad 5), .int tl, .int tat])), (ad 5, .inl (g 1, 150, .inl tb)), (ad 6, .inr (0, [.int tn, .ref (ad 7)])), (ad 7, .inl (g 0, 96, .inl tf)), (ad 8, .inl (g 0, 1000, .inl vv)), (ad 9, .inl (g 0, 1000, .inl ov)), (cad ad 1, .inr (0, [.int (cn 1), .ref (aad ad 1)])), (aad ad 1, .inl (g 0, 96, .inl (cf 1))), (cad ad 2, .inr (0, [.int (cn 2), .ref (aad ad 2)])), (aad ad 2, .inl (g 0, 96, .inl (cf 2))), (cad ad 3, .inr (0, [.int (cn 3), .ref (aad ad 3)])), (aad ad 3, .inl (g 0, 96, .inl (cf 3)))] (by decide +kernel) (by decide +kernel) rfl rfl rfl rfl rfl rfl)
  | 1, _ => exact focus.tail (wXt g bd sn sf) (focus.mk (ws := (wXh g ad bd sc tl tat tb cn cf tn tf vv ov)) (ws1 := (wXh g ad bd sc tl tat tb cn (vu cf 1 n_cf) tn tf vv ov)) (n := 18) [12, 13] [0, 1, 2, 3, 4, 5, 6, 7, 8, 9, 10, 11, 14, 15, 16, 17] [12, 13] [0, 1, 2, 3, 4, 5, 6, 7, 8, 9, 10, 11, 14, 15, 16, 17] [(ad 0, .inr (3, [.ref (ad 1), .ref (ad 3), .int sc, .ref (ad 4), .ref (ad 6), .ref (ad 8), .ref (ad 9)])), (ad 1, .inr (2, [.ref (ad 2)])), (ad 2, .inl (g 2, 4, .inr (.inr (.inr (.inr (vq4 (cad ad 0) (cad ad 1) (cad ad 2) (cad ad 3))))))), (ad 3, .inl (g 3, 4, .inr (.inr (.inr (.inr (vq4 (bd 0 0) (bd 1 0) (bd 2 0) (bd 3 0))))))), (ad 4, .inr (1, [.ref (ad 5), .int tl, .int tat])), (ad 5, .inl (g 1, 150, .inl tb)), (ad 6, .inr (0, [.int tn, .ref (ad 7)])), (ad 7, .inl (g 0, 96, .inl tf)), (ad 8, .inl (g 0, 1000, .inl vv)), (ad 9, .inl (g 0, 1000, .inl ov)), (cad ad 0, .inr (0, [.int (cn 0), .ref (aad ad 0)])), (aad ad 0, .inl (g 0, 96, .inl (cf 0))), (cad ad 2, .inr (0, [.int (cn 2), .ref (aad ad 2)])), (aad ad 2, .inl (g 0, 96, .inl (cf 2))), (cad ad 3, .inr (0, [.int (cn 3), .ref (aad ad 3)])), (aad ad 3, .inl (g 0, 96, .inl (cf 3)))] (by decide +kernel) (by decide +kernel) rfl rfl rfl rfl rfl rfl)
  | 2, _ => exact focus.tail (wXt g bd sn sf) (focus.mk (ws := (wXh g ad bd sc tl tat tb cn cf tn tf vv ov)) (ws1 := (wXh g ad bd sc tl tat tb cn (vu cf 2 n_cf) tn tf vv ov)) (n := 18) [14, 15] [0, 1, 2, 3, 4, 5, 6, 7, 8, 9, 10, 11, 12, 13, 16, 17] [14, 15] [0, 1, 2, 3, 4, 5, 6, 7, 8, 9, 10, 11, 12, 13, 16, 17] [(ad 0, .inr (3, [.ref (ad 1), .ref (ad 3), .int sc, .ref (ad 4), .ref (ad 6), .ref (ad 8), .ref (ad 9)])), (ad 1, .inr (2, [.ref (ad 2)])), (ad 2, .inl (g 2, 4, .inr (.inr (.inr (.inr (vq4 (cad ad 0) (cad ad 1) (cad ad 2) (cad ad 3))))))), (ad 3, .inl (g 3, 4, .inr (.inr (.inr (.inr (vq4 (bd 0 0) (bd 1 0) (bd 2 0) (bd 3 0))))))), (ad 4, .inr (1, [.ref (ad 5), .int tl, .int tat])), (ad 5, .inl (g 1, 150, .inl tb)), (ad 6, .inr (0, [.int tn, .ref (ad 7)])), (ad 7, .inl (g 0, 96, .inl tf)), (ad 8, .inl (g 0, 1000, .inl vv)), (ad 9, .inl (g 0, 1000, .inl ov)), (cad ad 0, .inr (0, [.int (cn 0), .ref (aad ad 0)])), (aad ad 0, .inl (g 0, 96, .inl (cf 0))), (cad ad 1, .inr (0, [.int (cn 1), .ref (aad ad 1)])), (aad ad 1, .inl (g 0, 96, .inl (cf 1))), (cad ad 3, .inr (0, [.int (cn 3), .ref (aad ad 3)])), (aad ad 3, .inl (g 0, 96, .inl (cf 3)))] (by decide +kernel) (by decide +kernel) rfl rfl rfl rfl rfl rfl)
  | 3, _ => exact focus.tail (wXt g bd sn sf) (focus.mk (ws := (wXh g ad bd sc tl tat tb cn cf tn tf vv ov)) (ws1 := (wXh g ad bd sc tl tat tb cn (vu cf 3 n_cf) tn tf vv ov)) (n := 18) [16, 17] [0, 1, 2, 3, 4, 5, 6, 7, 8, 9, 10, 11, 12, 13, 14, 15] [16, 17] [0, 1, 2, 3, 4, 5, 6, 7, 8, 9, 10, 11, 12, 13, 14, 15] [(ad 0, .inr (3, [.ref (ad 1), .ref (ad 3), .int sc, .ref (ad 4), .ref (ad 6), .ref (ad 8), .ref (ad 9)])), (ad 1, .inr (2, [.ref (ad 2)])), (ad 2, .inl (g 2, 4, .inr (.inr (.inr (.inr (vq4 (cad ad 0) (cad ad 1) (cad ad 2) (cad ad 3))))))), (ad 3, .inl (g 3, 4, .inr (.inr (.inr (.inr (vq4 (bd 0 0) (bd 1 0) (bd 2 0) (bd 3 0))))))), (ad 4, .inr (1, [.ref (ad 5), .int tl, .int tat])), (ad 5, .inl (g 1, 150, .inl tb)), (ad 6, .inr (0, [.int tn, .ref (ad 7)])), (ad 7, .inl (g 0, 96, .inl tf)), (ad 8, .inl (g 0, 1000, .inl vv)), (ad 9, .inl (g 0, 1000, .inl ov)), (cad ad 0, .inr (0, [.int (cn 0), .ref (aad ad 0)])), (aad ad 0, .inl (g 0, 96, .inl (cf 0))), (cad ad 1, .inr (0, [.int (cn 1), .ref (aad ad 1)])), (aad ad 1, .inl (g 0, 96, .inl (cf 1))), (cad ad 2, .inr (0, [.int (cn 2), .ref (aad ad 2)])), (aad ad 2, .inl (g 0, 96, .inl (cf 2)))] (by decide +kernel) (by decide +kernel) rfl rfl rfl rfl rfl rfl)
  | n + 4, h => exact absurd h (by omega)
def F_X3_setKey (bd : Nat → Nat → Nat) (sc : Int32) (cn : Nat → Int32) (cf : Nat → Nat → Int32) (sn : Nat → Nat → Int32) (sf : Nat → Nat → Nat → Int32) (p1 : Int32) (p2 : Int32) (p3 : Int32) (p4 : Int32) : Option (Sum Nat (Int32 × (Nat → Nat → Nat) × Int32 × (Nat → Nat → Int32) × (Nat → Nat → Int32) × (Nat → Nat → Nat → Int32))) := thr (F_X3_curveNumbered p1) fun r1 => thr (F_X3_requireKey (cn r1) p2) fun _u => thr (F_X3_requireRange p3 (-9999) 9999) fun _u => thr (F_X3_requireRange p4 0 5) fun _u => thr (F_X3_requireUnlocked (cn r1) (cf r1) p2) fun _u => (F_X3_saveState bd sc cn cf sn sf).bind fun o12 => (F_X0_cell (cn r1) (cf r1) p2 1).bind fun r13 => (F_X0_put (cn r1) (cf r1) p2 1 p3).bind fun y15 => vlet (vu cf r1 y15) fun y17 => (F_X0_put (cn r1) (y17 r1) p2 2 p4).bind fun y18 => vlet (vu y17 r1 y18) fun y20 => some (.inr (r13, o12.1, o12.2.1, y20, o12.2.2.1, o12.2.2.2))
set_option maxHeartbeats 4000000 in
set_option maxRecDepth 100000 in
theorem k_X3_setKey (l : Launch) (G : va_G) (g : Nat → ClassId) (ad : Nat → Nat) (bd : Nat → Nat → Nat) (sc : Int32) (tl : Int32) (tat : Int32) (tb : Nat → Int32) (cn : Nat → Int32) (cf : Nat → Nat → Int32) (sn : Nat → Nat → Int32) (sf : Nat → Nat → Nat → Int32) (tn : Int32) (tf : Nat → Int32) (vv : Nat → Int32) (ov : Nat → Int32) (p1 : Int32) (p2 : Int32) (p3 : Int32) (p4 : Int32) (res : Int32 × (Nat → Nat → Nat) × Int32 × (Nat → Nat → Int32) × (Nat → Nat → Int32) × (Nat → Nat → Nat → Int32)) (hq : F_X3_setKey bd sc cn cf sn sf p1 p2 p3 p4 = some (.inr res)) : rwC l yX3_setKey wsX3_setKey (rmF 4 103) G g [.ref (ad 0), .int p1, .int p2, .int p3, .int p4] (wX g ad bd sc tl tat tb cn cf sn sf tn tf vv ov) (some (.int res.1)) (wX g ad res.2.1 res.2.2.1 tl tat tb cn res.2.2.2.1 res.2.2.2.2.1 res.2.2.2.2.2 tn tf vv ov) := by
  refine rwC.of (cc := cX3_setKey) (maxL := 7) (ret := (some .int)) (by decide) rfl (Nat.le_of_ble_eq_true rfl) ?_
  intro p e s m below meth c ls A X K hA hP hD hS hl
  obtain ⟨hx, hb, hml, hr, hown, hts, hk⟩ := id X
  have hl : lv_has ls 7 [(0, .ref (ad 0)), (1, .int p1), (2, .int p2), (3, .int p3), (4, .int p4)] := hl
  unfold F_X3_setKey at hq
  refine lv_aload_n hx hb dX3_setKey_0 rfl (lv_at hl 0 rfl) ?_
  refine lv_iload_n hx hb dX3_setKey_1 rfl (lv_at hl 1 rfl) ?_
  obtain ⟨r1, hh2, hq⟩ := q_th hq
  refine roV (ci := 3) (As := [.int p1]) (rest := []) X K (k_X3_curveNumbered l G g ad bd sc tl tat tb cn cf sn sf tn tf vv ov p1 _ hh2) hd_X3_curveNumbered gX3_setKey_X3_curveNumbered hP hl.1 dX3_setKey_2 rfl rfl ⟨Nat.le_of_ble_eq_true rfl, Nat.le_of_ble_eq_true rfl⟩ rfl rfl rfl (Nat.le_of_ble_eq_true rfl) ⟨Nat.zero_le _, Nat.zero_le _⟩ ?_
  have lr1 := F_X3_curveNumbered_lt hh2
  refine lv_astore (lv' := [(5, .ref (cad ad r1)), (0, .ref (ad 0)), (1, .int p1), (2, .int p2), (3, .int p3), (4, .int p4)]) hx hb dX3_setKey_5 hl (by decide) rfl (fun ls hl => ?_)
  refine lv_aload hx hb dX3_setKey_7 (lv_at hl 0 rfl) ?_
  refine lv_iload_n hx hb dX3_setKey_9 rfl (lv_at hl 3 rfl) ?_
  obtain ⟨_, hh3, hq⟩ := q_th hq
  refine roS (As := [.ref (cad ad r1), .int p2]) (rest := []) X K (k_X3_requireKey l G g (cad ad r1) (aad ad r1) (cn r1) (cf r1) p2 _ hh3) hd_X3_requireKey gX3_setKey_X3_requireKey (sub_c lr1 hP) hl.1 dX3_setKey_10 rfl rfl ⟨Nat.le_of_ble_eq_true rfl, Nat.le_of_ble_eq_true rfl⟩ rfl (Nat.le_of_ble_eq_true rfl) ⟨Nat.zero_le _, Nat.zero_le _⟩ ?_
  refine lv_iload_n hx hb dX3_setKey_13 rfl (lv_at hl 4 rfl) ?_
  refine lv_sipush (v := (-9999)) hx hb dX3_setKey_14 (by decide) ?_
  refine lv_sipush (v := 9999) hx hb dX3_setKey_17 (by decide) ?_
  obtain ⟨_, hh4, hq⟩ := q_th hq
  refine roS (As := [.int p3, .int (-9999), .int 9999]) (rest := []) X K (k_X3_requireRange l G g p3 (-9999) 9999 _ hh4) hd_X3_requireRange gX3_setKey_X3_requireRange (va_P.none G) hl.1 dX3_setKey_20 rfl rfl ⟨Nat.le_of_ble_eq_true rfl, Nat.le_of_ble_eq_true rfl⟩ rfl (Nat.le_of_ble_eq_true rfl) ⟨Nat.zero_le _, Nat.zero_le _⟩ ?_
  refine lv_iload hx hb dX3_setKey_23 (lv_at hl 5 rfl) ?_
  refine lv_iconst (v := 0) hx hb dX3_setKey_25 (by decide) ?_
  refine lv_iconst (v := 5) hx hb dX3_setKey_26 (by decide) ?_
  obtain ⟨_, hh5, hq⟩ := q_th hq
  refine roS (As := [.int p4, .int 0, .int 5]) (rest := []) X K (k_X3_requireRange l G g p4 0 5 _ hh5) hd_X3_requireRange gX3_setKey_X3_requireRange (va_P.none G) hl.1 dX3_setKey_27 rfl rfl ⟨Nat.le_of_ble_eq_true rfl, Nat.le_of_ble_eq_true rfl⟩ rfl (Nat.le_of_ble_eq_true rfl) ⟨Nat.zero_le _, Nat.zero_le _⟩ ?_
  refine lv_aload hx hb dX3_setKey_30 (lv_at hl 0 rfl) ?_
  refine lv_iload_n hx hb dX3_setKey_32 rfl (lv_at hl 3 rfl) ?_
  obtain ⟨_, hh6, hq⟩ := q_th hq
  refine roS (As := [.ref (cad ad r1), .int p2]) (rest := []) X K (k_X3_requireUnlocked l G g (cad ad r1) (aad ad r1) (cn r1) (cf r1) p2 _ hh6) hd_X3_requireUnlocked gX3_setKey_X3_requireUnlocked (sub_c lr1 hP) hl.1 dX3_setKey_33 rfl rfl ⟨Nat.le_of_ble_eq_true rfl, Nat.le_of_ble_eq_true rfl⟩ rfl (Nat.le_of_ble_eq_true rfl) ⟨Nat.zero_le _, Nat.zero_le _⟩ ?_
  refine lv_aload_n hx hb dX3_setKey_36 rfl (lv_at hl 1 rfl) ?_
  obtain ⟨⟨y7, y8, y9, y10⟩, hh11, hq⟩ := q_bd hq
  refine rwVf (ci := 3) (As := []) (rest := []) X K (k_X3_saveState l G g ad bd sc tl tat tb cn cf sn sf tn tf vv ov _ hh11) hd_X3_saveState gX3_setKey_X3_saveState hP hD hS hA foc_id hl.1 dX3_setKey_37 rfl rfl ⟨Nat.le_of_ble_eq_true rfl, Nat.le_of_ble_eq_true rfl⟩ rfl rfl rfl (Nat.le_of_ble_eq_true rfl) ⟨Nat.zero_le _, Nat.zero_le _⟩ (fun H locs hP hD hS => ?_)
  have hP : va_P G vwCl (wX g ad y7 y8 tl tat tb cn cf y9 y10 tn tf vv ov) H := hP
  have hD : va_D A (wX g ad y7 y8 tl tat tb cn cf y9 y10 tn tf vv ov) := hD
  refine lv_aload hx hb dX3_setKey_40 (lv_at hl 0 rfl) ?_
  refine lv_iload_n hx hb dX3_setKey_42 rfl (lv_at hl 3 rfl) ?_
  refine lv_iconst (v := 1) hx hb dX3_setKey_43 (by decide) ?_
  obtain ⟨r13, hh14, hq⟩ := q_bd hq
  refine roN (ci := 0) (host := RX3) (As := [.int p2, .int 1]) (rest := []) X K (k_X0_cell l G g (cad ad r1) (aad ad r1) (cn r1) (cf r1) p2 1 _ hh14) hd_X0_cell ggX3_setKey_X0_cell (by decide +kernel) (List.mem_of_getElem? (i := 23) rfl) (List.mem_of_getElem? (i := 27) rfl) (List.mem_of_getElem? (i := 28) rfl) (sub_c lr1 hP) hl.1 dX3_setKey_44 rfl rfl ⟨Nat.le_of_ble_eq_true rfl, Nat.le_of_ble_eq_true rfl⟩ rfl rfl rfl (Nat.le_of_ble_eq_true rfl) ⟨Nat.zero_le _, Nat.zero_le _⟩ ?_
  refine lv_istore (lv' := [(6, .int r13), (5, .ref (cad ad r1)), (0, .ref (ad 0)), (1, .int p1), (2, .int p2), (3, .int p3), (4, .int p4)]) hx hb dX3_setKey_47 hl (by decide) rfl (fun ls hl => ?_)
  refine lv_aload hx hb dX3_setKey_49 (lv_at hl 1 rfl) ?_
  refine lv_iload_n hx hb dX3_setKey_51 rfl (lv_at hl 4 rfl) ?_
  refine lv_iconst (v := 1) hx hb dX3_setKey_52 (by decide) ?_
  refine lv_iload_n hx hb dX3_setKey_53 rfl (lv_at hl 5 rfl) ?_
  obtain ⟨y15, hh16, hq⟩ := q_bd hq
  refine rwNf (ci := 0) (host := RX3) (As := [.int p2, .int 1, .int p3]) (rest := []) X K (k_X0_put l G g (cad ad r1) (aad ad r1) (cn r1) (cf r1) p2 1 p3 _ hh16) hd_X0_put ggX3_setKey_X0_put (by decide +kernel) (List.mem_of_getElem? (i := 23) rfl) (List.mem_of_getElem? (i := 54) rfl) (List.mem_of_getElem? (i := 55) rfl) hP hD hS hA (foc_c_X0_put lr1) hl.1 dX3_setKey_54 rfl rfl ⟨Nat.le_of_ble_eq_true rfl, Nat.le_of_ble_eq_true rfl⟩ rfl rfl rfl (Nat.le_of_ble_eq_true rfl) ⟨Nat.zero_le _, Nat.zero_le _⟩ (fun H locs hP hD hS => ?_)
  obtain ⟨y17, ey17⟩ : ∃ y, y = vu cf r1 y15 := ⟨_, rfl⟩
  have hq := q_let hq ey17
  rw [← ey17] at hP hD
  have hP : va_P G vwCl (wX g ad y7 y8 tl tat tb cn y17 y9 y10 tn tf vv ov) H := hP
  have hD : va_D A (wX g ad y7 y8 tl tat tb cn y17 y9 y10 tn tf vv ov) := hD
  refine lv_aload hx hb dX3_setKey_57 (lv_at hl 1 rfl) ?_
  refine lv_iload_n hx hb dX3_setKey_59 rfl (lv_at hl 4 rfl) ?_
  refine lv_iconst (v := 2) hx hb dX3_setKey_60 (by decide) ?_
  refine lv_iload hx hb dX3_setKey_61 (lv_at hl 6 rfl) ?_
  obtain ⟨y18, hh19, hq⟩ := q_bd hq
  refine rwNf (ci := 0) (host := RX3) (As := [.int p2, .int 2, .int p4]) (rest := []) X K (k_X0_put l G g (cad ad r1) (aad ad r1) (cn r1) (y17 r1) p2 2 p4 _ hh19) hd_X0_put ggX3_setKey_X0_put (by decide +kernel) (List.mem_of_getElem? (i := 23) rfl) (List.mem_of_getElem? (i := 54) rfl) (List.mem_of_getElem? (i := 55) rfl) hP hD hS hA (foc_c_X0_put lr1) hl.1 dX3_setKey_63 rfl rfl ⟨Nat.le_of_ble_eq_true rfl, Nat.le_of_ble_eq_true rfl⟩ rfl rfl rfl (Nat.le_of_ble_eq_true rfl) ⟨Nat.zero_le _, Nat.zero_le _⟩ (fun H locs hP hD hS => ?_)
  obtain ⟨y20, ey20⟩ : ∃ y, y = vu y17 r1 y18 := ⟨_, rfl⟩
  have hq := q_let hq ey20
  rw [← ey20] at hP hD
  have hP : va_P G vwCl (wX g ad y7 y8 tl tat tb cn y20 y9 y10 tn tf vv ov) H := hP
  have hD : va_D A (wX g ad y7 y8 tl tat tb cn y20 y9 y10 tn tf vv ov) := hD
  refine lv_iload hx hb dX3_setKey_66 (lv_at hl 0 rfl) ?_
  obtain rfl := q_ri hq
  exact rw_iret hx hb hr hk hP hD hS dX3_setKey_68
theorem hd_X0_moveTo : ynm yX0_moveTo 2 := by unfold ynm; decide +kernel
set_option maxHeartbeats 4000000 in
set_option maxRecDepth 100000 in
theorem foc_c_X0_moveTo {g : Nat → ClassId} {ad : Nat → Nat} {bd : Nat → Nat → Nat} {sc : Int32} {tl : Int32} {tat : Int32} {tb : Nat → Int32} {cn : Nat → Int32} {cf : Nat → Nat → Int32} {sn : Nat → Nat → Int32} {sf : Nat → Nat → Nat → Int32} {tn : Int32} {tf : Nat → Int32} {vv : Nat → Int32} {ov : Nat → Int32} {k : Nat} (lk : k < 4) {n_cn : Int32} {n_cf : Nat → Int32} : focus (wX g ad bd sc tl tat tb cn cf sn sf tn tf vv ov) [((cad ad k), .inr (0, [.int (cn k), .ref (aad ad k)])), ((aad ad k), .inl (g 0, 96, .inl (cf k)))] [((cad ad k), .inr (0, [.int n_cn, .ref (aad ad k)])), ((aad ad k), .inl (g 0, 96, .inl n_cf))] (wX g ad bd sc tl tat tb (vu cn k n_cn) (vu cf k n_cf) sn sf tn tf vv ov) := by
  match k, lk with
  | 0, _ => exact focus.tail (wXt g bd sn sf) (focus.mk (ws := (wXh g ad bd sc tl tat tb cn cf tn tf vv ov)) (ws1 := (wXh g ad bd sc tl tat tb (vu cn 0 n_cn) (vu cf 0 n_cf) tn tf vv ov)) (n := 18) [10, 11] [0, 1, 2, 3, 4, 5, 6, 7, 8, 9, 12, 13, 14, 15, 16, 17] [10, 11] [0, 1, 2, 3, 4, 5, 6, 7, 8, 9, 12, 13, 14, 15, 16, 17] [(ad 0, .inr (3, [.ref (ad 1), .ref (ad 3), .int sc, .ref (ad 4), .ref (ad 6), .ref (ad 8), .ref (ad 9)])), (ad 1, .inr (2, [.ref (ad 2)])), (ad 2, .inl (g 2, 4, .inr (.inr (.inr (.inr (vq4 (cad ad 0) (cad ad 1) (cad ad 2) (cad ad 3))))))), (ad 3, .inl (g 3, 4, .inr (.inr (.inr (.inr (vq4 (bd 0 0) (bd 1 0) (bd 2 0) (bd 3 0))))))), (ad 4, .inr (1, [.ref (ad 5), .int tl, .int tat])), (ad 5, .inl (g 1, 150, .inl tb)), (ad 6, .inr (0, [.int tn, .ref (ad 7)])), (ad 7, .inl (g 0, 96, .inl tf)), (ad 8, .inl (g 0, 1000, .inl vv)), (ad 9, .inl (g 0, 1000, .inl ov)), (cad ad 1, .inr (0, [.int (cn 1), .ref (aad ad 1)])), (aad ad 1, .inl (g 0, 96, .inl (cf 1))), (cad ad 2, .inr (0, [.int (cn 2), .ref (aad ad 2)])), (aad ad 2, .inl (g 0, 96, .inl (cf 2))), (cad ad 3, .inr (0, [.int (cn 3), .ref (aad ad 3)])), (aad ad 3, .inl (g 0, 96, .inl (cf 3)))] (by decide +kernel) (by decide +kernel) rfl rfl rfl rfl rfl rfl)
  | 1, _ => exact focus.tail (wXt g bd sn sf) (focus.mk (ws := (wXh g ad bd sc tl tat tb cn cf tn tf vv ov)) (ws1 := (wXh g ad bd sc tl tat tb (vu cn 1 n_cn) (vu cf 1 n_cf) tn tf vv ov)) (n := 18) [12, 13] [0, 1, 2, 3, 4, 5, 6, 7, 8, 9, 10, 11, 14, 15, 16, 17] [12, 13] [0, 1, 2, 3, 4, 5, 6, 7, 8, 9, 10, 11, 14, 15, 16, 17] [(ad 0, .inr (3, [.ref (ad 1), .ref (ad 3), .int sc, .ref (ad 4), .ref (ad 6), .ref (ad 8), .ref (ad 9)])), (ad 1, .inr (2, [.ref (ad 2)])), (ad 2, .inl (g 2, 4, .inr (.inr (.inr (.inr (vq4 (cad ad 0) (cad ad 1) (cad ad 2) (cad ad 3))))))), (ad 3, .inl (g 3, 4, .inr (.inr (.inr (.inr (vq4 (bd 0 0) (bd 1 0) (bd 2 0) (bd 3 0))))))), (ad 4, .inr (1, [.ref (ad 5), .int tl, .int tat])), (ad 5, .inl (g 1, 150, .inl tb)), (ad 6, .inr (0, [.int tn, .ref (ad 7)])), (ad 7, .inl (g 0, 96, .inl tf)), (ad 8, .inl (g 0, 1000, .inl vv)), (ad 9, .inl (g 0, 1000, .inl ov)), (cad ad 0, .inr (0, [.int (cn 0), .ref (aad ad 0)])), (aad ad 0, .inl (g 0, 96, .inl (cf 0))), (cad ad 2, .inr (0, [.int (cn 2), .ref (aad ad 2)])), (aad ad 2, .inl (g 0, 96, .inl (cf 2))), (cad ad 3, .inr (0, [.int (cn 3), .ref (aad ad 3)])), (aad ad 3, .inl (g 0, 96, .inl (cf 3)))] (by decide +kernel) (by decide +kernel) rfl rfl rfl rfl rfl rfl)
  | 2, _ => exact focus.tail (wXt g bd sn sf) (focus.mk (ws := (wXh g ad bd sc tl tat tb cn cf tn tf vv ov)) (ws1 := (wXh g ad bd sc tl tat tb (vu cn 2 n_cn) (vu cf 2 n_cf) tn tf vv ov)) (n := 18) [14, 15] [0, 1, 2, 3, 4, 5, 6, 7, 8, 9, 10, 11, 12, 13, 16, 17] [14, 15] [0, 1, 2, 3, 4, 5, 6, 7, 8, 9, 10, 11, 12, 13, 16, 17] [(ad 0, .inr (3, [.ref (ad 1), .ref (ad 3), .int sc, .ref (ad 4), .ref (ad 6), .ref (ad 8), .ref (ad 9)])), (ad 1, .inr (2, [.ref (ad 2)])), (ad 2, .inl (g 2, 4, .inr (.inr (.inr (.inr (vq4 (cad ad 0) (cad ad 1) (cad ad 2) (cad ad 3))))))), (ad 3, .inl (g 3, 4, .inr (.inr (.inr (.inr (vq4 (bd 0 0) (bd 1 0) (bd 2 0) (bd 3 0))))))), (ad 4, .inr (1, [.ref (ad 5), .int tl, .int tat])), (ad 5, .inl (g 1, 150, .inl tb)), (ad 6, .inr (0, [.int tn, .ref (ad 7)])), (ad 7, .inl (g 0, 96, .inl tf)), (ad 8, .inl (g 0, 1000, .inl vv)), (ad 9, .inl (g 0, 1000, .inl ov)), (cad ad 0, .inr (0, [.int (cn 0), .ref (aad ad 0)])), (aad ad 0, .inl (g 0, 96, .inl (cf 0))), (cad ad 1, .inr (0, [.int (cn 1), .ref (aad ad 1)])), (aad ad 1, .inl (g 0, 96, .inl (cf 1))), (cad ad 3, .inr (0, [.int (cn 3), .ref (aad ad 3)])), (aad ad 3, .inl (g 0, 96, .inl (cf 3)))] (by decide +kernel) (by decide +kernel) rfl rfl rfl rfl rfl rfl)
  | 3, _ => exact focus.tail (wXt g bd sn sf) (focus.mk (ws := (wXh g ad bd sc tl tat tb cn cf tn tf vv ov)) (ws1 := (wXh g ad bd sc tl tat tb (vu cn 3 n_cn) (vu cf 3 n_cf) tn tf vv ov)) (n := 18) [16, 17] [0, 1, 2, 3, 4, 5, 6, 7, 8, 9, 10, 11, 12, 13, 14, 15] [16, 17] [0, 1, 2, 3, 4, 5, 6, 7, 8, 9, 10, 11, 12, 13, 14, 15] [(ad 0, .inr (3, [.ref (ad 1), .ref (ad 3), .int sc, .ref (ad 4), .ref (ad 6), .ref (ad 8), .ref (ad 9)])), (ad 1, .inr (2, [.ref (ad 2)])), (ad 2, .inl (g 2, 4, .inr (.inr (.inr (.inr (vq4 (cad ad 0) (cad ad 1) (cad ad 2) (cad ad 3))))))), (ad 3, .inl (g 3, 4, .inr (.inr (.inr (.inr (vq4 (bd 0 0) (bd 1 0) (bd 2 0) (bd 3 0))))))), (ad 4, .inr (1, [.ref (ad 5), .int tl, .int tat])), (ad 5, .inl (g 1, 150, .inl tb)), (ad 6, .inr (0, [.int tn, .ref (ad 7)])), (ad 7, .inl (g 0, 96, .inl tf)), (ad 8, .inl (g 0, 1000, .inl vv)), (ad 9, .inl (g 0, 1000, .inl ov)), (cad ad 0, .inr (0, [.int (cn 0), .ref (aad ad 0)])), (aad ad 0, .inl (g 0, 96, .inl (cf 0))), (cad ad 1, .inr (0, [.int (cn 1), .ref (aad ad 1)])), (aad ad 1, .inl (g 0, 96, .inl (cf 1))), (cad ad 2, .inr (0, [.int (cn 2), .ref (aad ad 2)])), (aad ad 2, .inl (g 0, 96, .inl (cf 2)))] (by decide +kernel) (by decide +kernel) rfl rfl rfl rfl rfl rfl)
  | n + 4, h => exact absurd h (by omega)
def F_X3_moveKey (bd : Nat → Nat → Nat) (sc : Int32) (cn : Nat → Int32) (cf : Nat → Nat → Int32) (sn : Nat → Nat → Int32) (sf : Nat → Nat → Nat → Int32) (p1 : Int32) (p2 : Int32) (p3 : Int32) : Option (Sum Nat (Int32 × (Nat → Nat → Nat) × Int32 × (Nat → Int32) × (Nat → Nat → Int32) × (Nat → Nat → Int32) × (Nat → Nat → Nat → Int32))) := thr (F_X3_curveNumbered p1) fun r1 => thr (F_X3_requireKey (cn r1) p2) fun _u => thr (F_X3_requireRange p3 0 999) fun _u => thr (F_X3_requireUnlocked (cn r1) (cf r1) p2) fun _u => (F_X0_numberAtFrame (cn r1) (cf r1) p3).bind fun r6 => if r6 = (-1) then ((F_X3_saveState bd sc cn cf sn sf).bind fun o14 => (F_X0_moveTo (cn r1) (cf r1) p2 p3).bind fun o19 => vlet (vu cn r1 o19.2.1) fun y20 => vlet (vu cf r1 o19.2.2) fun y21 => some (.inr (o19.1, o14.1, o14.2.1, y20, y21, o14.2.2.1, o14.2.2.2))) else (if r6 = p2 then ((F_X3_saveState bd sc cn cf sn sf).bind fun o28 => (F_X0_moveTo (cn r1) (cf r1) p2 p3).bind fun o33 => vlet (vu cn r1 o33.2.1) fun y34 => vlet (vu cf r1 o33.2.2) fun y35 => some (.inr (o33.1, o28.1, o28.2.1, y34, y35, o28.2.2.1, o28.2.2.2))) else (some (.inl 3)))
set_option maxHeartbeats 4000000 in
set_option maxRecDepth 100000 in
theorem k_X3_moveKey (l : Launch) (G : va_G) (g : Nat → ClassId) (ad : Nat → Nat) (bd : Nat → Nat → Nat) (sc : Int32) (tl : Int32) (tat : Int32) (tb : Nat → Int32) (cn : Nat → Int32) (cf : Nat → Nat → Int32) (sn : Nat → Nat → Int32) (sf : Nat → Nat → Nat → Int32) (tn : Int32) (tf : Nat → Int32) (vv : Nat → Int32) (ov : Nat → Int32) (p1 : Int32) (p2 : Int32) (p3 : Int32) (res : Int32 × (Nat → Nat → Nat) × Int32 × (Nat → Int32) × (Nat → Nat → Int32) × (Nat → Nat → Int32) × (Nat → Nat → Nat → Int32)) (hq : F_X3_moveKey bd sc cn cf sn sf p1 p2 p3 = some (.inr res)) : rwC l yX3_moveKey wsX3_moveKey (rmF 4 103) G g [.ref (ad 0), .int p1, .int p2, .int p3] (wX g ad bd sc tl tat tb cn cf sn sf tn tf vv ov) (some (.int res.1)) (wX g ad res.2.1 res.2.2.1 tl tat tb res.2.2.2.1 res.2.2.2.2.1 res.2.2.2.2.2.1 res.2.2.2.2.2.2 tn tf vv ov) := by
  refine rwC.of (cc := cX3_moveKey) (maxL := 6) (ret := (some .int)) (by decide) rfl (Nat.le_of_ble_eq_true rfl) ?_
  intro p e s m below meth c ls A X K hA hP hD hS hl
  obtain ⟨hx, hb, hml, hr, hown, hts, hk⟩ := id X
  have hl : lv_has ls 6 [(0, .ref (ad 0)), (1, .int p1), (2, .int p2), (3, .int p3)] := hl
  unfold F_X3_moveKey at hq
  refine lv_aload_n hx hb dX3_moveKey_0 rfl (lv_at hl 0 rfl) ?_
  refine lv_iload_n hx hb dX3_moveKey_1 rfl (lv_at hl 1 rfl) ?_
  obtain ⟨r1, hh2, hq⟩ := q_th hq
  refine roV (ci := 3) (As := [.int p1]) (rest := []) X K (k_X3_curveNumbered l G g ad bd sc tl tat tb cn cf sn sf tn tf vv ov p1 _ hh2) hd_X3_curveNumbered gX3_moveKey_X3_curveNumbered hP hl.1 dX3_moveKey_2 rfl rfl ⟨Nat.le_of_ble_eq_true rfl, Nat.le_of_ble_eq_true rfl⟩ rfl rfl rfl (Nat.le_of_ble_eq_true rfl) ⟨Nat.zero_le _, Nat.zero_le _⟩ ?_
  have lr1 := F_X3_curveNumbered_lt hh2
  refine lv_astore (lv' := [(4, .ref (cad ad r1)), (0, .ref (ad 0)), (1, .int p1), (2, .int p2), (3, .int p3)]) hx hb dX3_moveKey_5 hl (by decide) rfl (fun ls hl => ?_)
  refine lv_aload hx hb dX3_moveKey_7 (lv_at hl 0 rfl) ?_
  refine lv_iload_n hx hb dX3_moveKey_9 rfl (lv_at hl 3 rfl) ?_
  obtain ⟨_, hh3, hq⟩ := q_th hq
  refine roS (As := [.ref (cad ad r1), .int p2]) (rest := []) X K (k_X3_requireKey l G g (cad ad r1) (aad ad r1) (cn r1) (cf r1) p2 _ hh3) hd_X3_requireKey gX3_moveKey_X3_requireKey (sub_c lr1 hP) hl.1 dX3_moveKey_10 rfl rfl ⟨Nat.le_of_ble_eq_true rfl, Nat.le_of_ble_eq_true rfl⟩ rfl (Nat.le_of_ble_eq_true rfl) ⟨Nat.zero_le _, Nat.zero_le _⟩ ?_
  refine lv_iload_n hx hb dX3_moveKey_13 rfl (lv_at hl 4 rfl) ?_
  refine lv_iconst (v := 0) hx hb dX3_moveKey_14 (by decide) ?_
  refine lv_sipush (v := 999) hx hb dX3_moveKey_15 (by decide) ?_
  obtain ⟨_, hh4, hq⟩ := q_th hq
  refine roS (As := [.int p3, .int 0, .int 999]) (rest := []) X K (k_X3_requireRange l G g p3 0 999 _ hh4) hd_X3_requireRange gX3_moveKey_X3_requireRange (va_P.none G) hl.1 dX3_moveKey_18 rfl rfl ⟨Nat.le_of_ble_eq_true rfl, Nat.le_of_ble_eq_true rfl⟩ rfl (Nat.le_of_ble_eq_true rfl) ⟨Nat.zero_le _, Nat.zero_le _⟩ ?_
  refine lv_aload hx hb dX3_moveKey_21 (lv_at hl 0 rfl) ?_
  refine lv_iload_n hx hb dX3_moveKey_23 rfl (lv_at hl 3 rfl) ?_
  obtain ⟨_, hh5, hq⟩ := q_th hq
  refine roS (As := [.ref (cad ad r1), .int p2]) (rest := []) X K (k_X3_requireUnlocked l G g (cad ad r1) (aad ad r1) (cn r1) (cf r1) p2 _ hh5) hd_X3_requireUnlocked gX3_moveKey_X3_requireUnlocked (sub_c lr1 hP) hl.1 dX3_moveKey_24 rfl rfl ⟨Nat.le_of_ble_eq_true rfl, Nat.le_of_ble_eq_true rfl⟩ rfl (Nat.le_of_ble_eq_true rfl) ⟨Nat.zero_le _, Nat.zero_le _⟩ ?_
  refine lv_aload hx hb dX3_moveKey_27 (lv_at hl 0 rfl) ?_
  refine lv_iload_n hx hb dX3_moveKey_29 rfl (lv_at hl 4 rfl) ?_
  obtain ⟨r6, hh7, hq⟩ := q_bd hq
  refine roN (ci := 0) (host := RX3) (As := [.int p3]) (rest := []) X K (k_X0_numberAtFrame l G g (cad ad r1) (aad ad r1) (cn r1) (cf r1) p3 _ hh7) hd_X0_numberAtFrame ggX3_moveKey_X0_numberAtFrame (by decide +kernel) (List.mem_of_getElem? (i := 23) rfl) (List.mem_of_getElem? (i := 32) rfl) (List.mem_of_getElem? (i := 33) rfl) (sub_c lr1 hP) hl.1 dX3_moveKey_30 rfl rfl ⟨Nat.le_of_ble_eq_true rfl, Nat.le_of_ble_eq_true rfl⟩ rfl rfl rfl (Nat.le_of_ble_eq_true rfl) ⟨Nat.zero_le _, Nat.zero_le _⟩ ?_
  refine lv_istore (lv' := [(5, .int r6), (4, .ref (cad ad r1)), (0, .ref (ad 0)), (1, .int p1), (2, .int p2), (3, .int p3)]) hx hb dX3_moveKey_33 hl (by decide) rfl (fun ls hl => ?_)
  refine lv_iload hx hb dX3_moveKey_35 (lv_at hl 0 rfl) ?_
  refine lv_iconst (v := (-1)) hx hb dX3_moveKey_37 (by decide) ?_
  refine lv_icmp_eq (tgt := 57) hx hb dX3_moveKey_38 (by decide) (fun c8 => ?_) (fun c8 => ?_)
  · have hq := q_if_t hq c8
    refine lv_aload_n hx hb dX3_moveKey_57 rfl (lv_at hl 2 rfl) ?_
    obtain ⟨⟨y9, y10, y11, y12⟩, hh13, hq⟩ := q_bd hq
    refine rwVf (ci := 3) (As := []) (rest := []) X K (k_X3_saveState l G g ad bd sc tl tat tb cn cf sn sf tn tf vv ov _ hh13) hd_X3_saveState gX3_moveKey_X3_saveState hP hD hS hA foc_id hl.1 dX3_moveKey_58 rfl rfl ⟨Nat.le_of_ble_eq_true rfl, Nat.le_of_ble_eq_true rfl⟩ rfl rfl rfl (Nat.le_of_ble_eq_true rfl) ⟨Nat.zero_le _, Nat.zero_le _⟩ (fun H locs hP hD hS => ?_)
    have hP : va_P G vwCl (wX g ad y9 y10 tl tat tb cn cf y11 y12 tn tf vv ov) H := hP
    have hD : va_D A (wX g ad y9 y10 tl tat tb cn cf y11 y12 tn tf vv ov) := hD
    refine lv_aload hx hb dX3_moveKey_61 (lv_at hl 1 rfl) ?_
    refine lv_iload_n hx hb dX3_moveKey_63 rfl (lv_at hl 4 rfl) ?_
    refine lv_iload_n hx hb dX3_moveKey_64 rfl (lv_at hl 5 rfl) ?_
    obtain ⟨⟨r15, y16, y17⟩, hh18, hq⟩ := q_bd hq
    refine rwNf (ci := 0) (host := RX3) (As := [.int p2, .int p3]) (rest := []) X K (k_X0_moveTo l G g (cad ad r1) (aad ad r1) (cn r1) (cf r1) p2 p3 _ hh18) hd_X0_moveTo ggX3_moveKey_X0_moveTo (by decide +kernel) (List.mem_of_getElem? (i := 23) rfl) (List.mem_of_getElem? (i := 61) rfl) (List.mem_of_getElem? (i := 62) rfl) hP hD hS hA (foc_c_X0_moveTo lr1) hl.1 dX3_moveKey_65 rfl rfl ⟨Nat.le_of_ble_eq_true rfl, Nat.le_of_ble_eq_true rfl⟩ rfl rfl rfl (Nat.le_of_ble_eq_true rfl) ⟨Nat.zero_le _, Nat.zero_le _⟩ (fun H locs hP hD hS => ?_)
    obtain ⟨y20, ey20⟩ : ∃ y, y = vu cn r1 y16 := ⟨_, rfl⟩
    have hq := q_let hq ey20
    rw [← ey20] at hP hD
    obtain ⟨y21, ey21⟩ : ∃ y, y = vu cf r1 y17 := ⟨_, rfl⟩
    have hq := q_let hq ey21
    rw [← ey21] at hP hD
    have hP : va_P G vwCl (wX g ad y9 y10 tl tat tb y20 y21 y11 y12 tn tf vv ov) H := hP
    have hD : va_D A (wX g ad y9 y10 tl tat tb y20 y21 y11 y12 tn tf vv ov) := hD
    obtain rfl := q_ri hq
    exact rw_iret hx hb hr hk hP hD hS dX3_moveKey_68
  · have hq := q_if_f hq c8
    refine lv_iload hx hb dX3_moveKey_41 (lv_at hl 0 rfl) ?_
    refine lv_iload_n hx hb dX3_moveKey_43 rfl (lv_at hl 4 rfl) ?_
    refine lv_icmp_eq (tgt := 57) hx hb dX3_moveKey_44 (by decide) (fun c22 => ?_) (fun c22 => ?_)
    · have hq := q_if_t hq c22
      refine lv_aload_n hx hb dX3_moveKey_57 rfl (lv_at hl 2 rfl) ?_
      obtain ⟨⟨y23, y24, y25, y26⟩, hh27, hq⟩ := q_bd hq
      refine rwVf (ci := 3) (As := []) (rest := []) X K (k_X3_saveState l G g ad bd sc tl tat tb cn cf sn sf tn tf vv ov _ hh27) hd_X3_saveState gX3_moveKey_X3_saveState hP hD hS hA foc_id hl.1 dX3_moveKey_58 rfl rfl ⟨Nat.le_of_ble_eq_true rfl, Nat.le_of_ble_eq_true rfl⟩ rfl rfl rfl (Nat.le_of_ble_eq_true rfl) ⟨Nat.zero_le _, Nat.zero_le _⟩ (fun H locs hP hD hS => ?_)
      have hP : va_P G vwCl (wX g ad y23 y24 tl tat tb cn cf y25 y26 tn tf vv ov) H := hP
      have hD : va_D A (wX g ad y23 y24 tl tat tb cn cf y25 y26 tn tf vv ov) := hD
      refine lv_aload hx hb dX3_moveKey_61 (lv_at hl 1 rfl) ?_
      refine lv_iload_n hx hb dX3_moveKey_63 rfl (lv_at hl 4 rfl) ?_
      refine lv_iload_n hx hb dX3_moveKey_64 rfl (lv_at hl 5 rfl) ?_
      obtain ⟨⟨r29, y30, y31⟩, hh32, hq⟩ := q_bd hq
      refine rwNf (ci := 0) (host := RX3) (As := [.int p2, .int p3]) (rest := []) X K (k_X0_moveTo l G g (cad ad r1) (aad ad r1) (cn r1) (cf r1) p2 p3 _ hh32) hd_X0_moveTo ggX3_moveKey_X0_moveTo (by decide +kernel) (List.mem_of_getElem? (i := 23) rfl) (List.mem_of_getElem? (i := 61) rfl) (List.mem_of_getElem? (i := 62) rfl) hP hD hS hA (foc_c_X0_moveTo lr1) hl.1 dX3_moveKey_65 rfl rfl ⟨Nat.le_of_ble_eq_true rfl, Nat.le_of_ble_eq_true rfl⟩ rfl rfl rfl (Nat.le_of_ble_eq_true rfl) ⟨Nat.zero_le _, Nat.zero_le _⟩ (fun H locs hP hD hS => ?_)
      obtain ⟨y34, ey34⟩ : ∃ y, y = vu cn r1 y30 := ⟨_, rfl⟩
      have hq := q_let hq ey34
      rw [← ey34] at hP hD
      obtain ⟨y35, ey35⟩ : ∃ y, y = vu cf r1 y31 := ⟨_, rfl⟩
      have hq := q_let hq ey35
      rw [← ey35] at hP hD
      have hP : va_P G vwCl (wX g ad y23 y24 tl tat tb y34 y35 y25 y26 tn tf vv ov) H := hP
      have hD : va_D A (wX g ad y23 y24 tl tat tb y34 y35 y25 y26 tn tf vv ov) := hD
      obtain rfl := q_ri hq
      exact rw_iret hx hb hr hk hP hD hS dX3_moveKey_68
    · have hq := q_if_f hq c22
      exact q_lr hq
def F_X3_setTangent (bd : Nat → Nat → Nat) (sc : Int32) (cn : Nat → Int32) (cf : Nat → Nat → Int32) (sn : Nat → Nat → Int32) (sf : Nat → Nat → Nat → Int32) (p1 : Int32) (p2 : Int32) (p3 : Int32) (p4 : Int32) : Option (Sum Nat (Int32 × (Nat → Nat → Nat) × Int32 × (Nat → Nat → Int32) × (Nat → Nat → Int32) × (Nat → Nat → Nat → Int32))) := thr (F_X3_curveNumbered p1) fun r1 => thr (F_X3_requireKey (cn r1) p2) fun _u => thr (F_X3_requireRange p3 0 2) fun _u => thr (F_X3_requireRange p4 (-99999) 99999) fun _u => thr (F_X3_requireUnlocked (cn r1) (cf r1) p2) fun _u => (F_X3_saveState bd sc cn cf sn sf).bind fun o12 => (F_X0_tangentOf (cn r1) (cf r1) p2).bind fun r13 => (F_X0_put (cn r1) (cf r1) p2 3 p3).bind fun y15 => vlet (vu cf r1 y15) fun y17 => (F_X0_put (cn r1) (y17 r1) p2 4 p4).bind fun y18 => vlet (vu y17 r1 y18) fun y20 => some (.inr (r13, o12.1, o12.2.1, y20, o12.2.2.1, o12.2.2.2))
set_option maxHeartbeats 4000000 in
set_option maxRecDepth 100000 in
theorem k_X3_setTangent (l : Launch) (G : va_G) (g : Nat → ClassId) (ad : Nat → Nat) (bd : Nat → Nat → Nat) (sc : Int32) (tl : Int32) (tat : Int32) (tb : Nat → Int32) (cn : Nat → Int32) (cf : Nat → Nat → Int32) (sn : Nat → Nat → Int32) (sf : Nat → Nat → Nat → Int32) (tn : Int32) (tf : Nat → Int32) (vv : Nat → Int32) (ov : Nat → Int32) (p1 : Int32) (p2 : Int32) (p3 : Int32) (p4 : Int32) (res : Int32 × (Nat → Nat → Nat) × Int32 × (Nat → Nat → Int32) × (Nat → Nat → Int32) × (Nat → Nat → Nat → Int32)) (hq : F_X3_setTangent bd sc cn cf sn sf p1 p2 p3 p4 = some (.inr res)) : rwC l yX3_setTangent wsX3_setTangent (rmF 4 103) G g [.ref (ad 0), .int p1, .int p2, .int p3, .int p4] (wX g ad bd sc tl tat tb cn cf sn sf tn tf vv ov) (some (.int res.1)) (wX g ad res.2.1 res.2.2.1 tl tat tb cn res.2.2.2.1 res.2.2.2.2.1 res.2.2.2.2.2 tn tf vv ov) := by
  refine rwC.of (cc := cX3_setTangent) (maxL := 7) (ret := (some .int)) (by decide) rfl (Nat.le_of_ble_eq_true rfl) ?_
  intro p e s m below meth c ls A X K hA hP hD hS hl
  obtain ⟨hx, hb, hml, hr, hown, hts, hk⟩ := id X
  have hl : lv_has ls 7 [(0, .ref (ad 0)), (1, .int p1), (2, .int p2), (3, .int p3), (4, .int p4)] := hl
  unfold F_X3_setTangent at hq
  refine lv_aload_n hx hb dX3_setTangent_0 rfl (lv_at hl 0 rfl) ?_
  refine lv_iload_n hx hb dX3_setTangent_1 rfl (lv_at hl 1 rfl) ?_
  obtain ⟨r1, hh2, hq⟩ := q_th hq
  refine roV (ci := 3) (As := [.int p1]) (rest := []) X K (k_X3_curveNumbered l G g ad bd sc tl tat tb cn cf sn sf tn tf vv ov p1 _ hh2) hd_X3_curveNumbered gX3_setTangent_X3_curveNumbered hP hl.1 dX3_setTangent_2 rfl rfl ⟨Nat.le_of_ble_eq_true rfl, Nat.le_of_ble_eq_true rfl⟩ rfl rfl rfl (Nat.le_of_ble_eq_true rfl) ⟨Nat.zero_le _, Nat.zero_le _⟩ ?_
  have lr1 := F_X3_curveNumbered_lt hh2
  refine lv_astore (lv' := [(5, .ref (cad ad r1)), (0, .ref (ad 0)), (1, .int p1), (2, .int p2), (3, .int p3), (4, .int p4)]) hx hb dX3_setTangent_5 hl (by decide) rfl (fun ls hl => ?_)
  refine lv_aload hx hb dX3_setTangent_7 (lv_at hl 0 rfl) ?_
  refine lv_iload_n hx hb dX3_setTangent_9 rfl (lv_at hl 3 rfl) ?_
  obtain ⟨_, hh3, hq⟩ := q_th hq
  refine roS (As := [.ref (cad ad r1), .int p2]) (rest := []) X K (k_X3_requireKey l G g (cad ad r1) (aad ad r1) (cn r1) (cf r1) p2 _ hh3) hd_X3_requireKey gX3_setTangent_X3_requireKey (sub_c lr1 hP) hl.1 dX3_setTangent_10 rfl rfl ⟨Nat.le_of_ble_eq_true rfl, Nat.le_of_ble_eq_true rfl⟩ rfl (Nat.le_of_ble_eq_true rfl) ⟨Nat.zero_le _, Nat.zero_le _⟩ ?_
  refine lv_iload_n hx hb dX3_setTangent_13 rfl (lv_at hl 4 rfl) ?_
  refine lv_iconst (v := 0) hx hb dX3_setTangent_14 (by decide) ?_
  refine lv_iconst (v := 2) hx hb dX3_setTangent_15 (by decide) ?_
  obtain ⟨_, hh4, hq⟩ := q_th hq
  refine roS (As := [.int p3, .int 0, .int 2]) (rest := []) X K (k_X3_requireRange l G g p3 0 2 _ hh4) hd_X3_requireRange gX3_setTangent_X3_requireRange (va_P.none G) hl.1 dX3_setTangent_16 rfl rfl ⟨Nat.le_of_ble_eq_true rfl, Nat.le_of_ble_eq_true rfl⟩ rfl (Nat.le_of_ble_eq_true rfl) ⟨Nat.zero_le _, Nat.zero_le _⟩ ?_
  refine lv_iload hx hb dX3_setTangent_19 (lv_at hl 5 rfl) ?_
  refine lv_ldc (v := (-99999)) hx hb hown (hts _ (List.mem_of_getElem? (i := 1) rfl)) dX3_setTangent_21 ?_
  refine lv_ldc (v := 99999) hx hb hown (hts _ (List.mem_of_getElem? (i := 2) rfl)) dX3_setTangent_23 ?_
  obtain ⟨_, hh5, hq⟩ := q_th hq
  refine roS (As := [.int p4, .int (-99999), .int 99999]) (rest := []) X K (k_X3_requireRange l G g p4 (-99999) 99999 _ hh5) hd_X3_requireRange gX3_setTangent_X3_requireRange (va_P.none G) hl.1 dX3_setTangent_25 rfl rfl ⟨Nat.le_of_ble_eq_true rfl, Nat.le_of_ble_eq_true rfl⟩ rfl (Nat.le_of_ble_eq_true rfl) ⟨Nat.zero_le _, Nat.zero_le _⟩ ?_
  refine lv_aload hx hb dX3_setTangent_28 (lv_at hl 0 rfl) ?_
  refine lv_iload_n hx hb dX3_setTangent_30 rfl (lv_at hl 3 rfl) ?_
  obtain ⟨_, hh6, hq⟩ := q_th hq
  refine roS (As := [.ref (cad ad r1), .int p2]) (rest := []) X K (k_X3_requireUnlocked l G g (cad ad r1) (aad ad r1) (cn r1) (cf r1) p2 _ hh6) hd_X3_requireUnlocked gX3_setTangent_X3_requireUnlocked (sub_c lr1 hP) hl.1 dX3_setTangent_31 rfl rfl ⟨Nat.le_of_ble_eq_true rfl, Nat.le_of_ble_eq_true rfl⟩ rfl (Nat.le_of_ble_eq_true rfl) ⟨Nat.zero_le _, Nat.zero_le _⟩ ?_
  refine lv_aload_n hx hb dX3_setTangent_34 rfl (lv_at hl 1 rfl) ?_
  obtain ⟨⟨y7, y8, y9, y10⟩, hh11, hq⟩ := q_bd hq
  refine rwVf (ci := 3) (As := []) (rest := []) X K (k_X3_saveState l G g ad bd sc tl tat tb cn cf sn sf tn tf vv ov _ hh11) hd_X3_saveState gX3_setTangent_X3_saveState hP hD hS hA foc_id hl.1 dX3_setTangent_35 rfl rfl ⟨Nat.le_of_ble_eq_true rfl, Nat.le_of_ble_eq_true rfl⟩ rfl rfl rfl (Nat.le_of_ble_eq_true rfl) ⟨Nat.zero_le _, Nat.zero_le _⟩ (fun H locs hP hD hS => ?_)
  have hP : va_P G vwCl (wX g ad y7 y8 tl tat tb cn cf y9 y10 tn tf vv ov) H := hP
  have hD : va_D A (wX g ad y7 y8 tl tat tb cn cf y9 y10 tn tf vv ov) := hD
  refine lv_aload hx hb dX3_setTangent_38 (lv_at hl 0 rfl) ?_
  refine lv_iload_n hx hb dX3_setTangent_40 rfl (lv_at hl 3 rfl) ?_
  obtain ⟨r13, hh14, hq⟩ := q_bd hq
  refine roN (ci := 0) (host := RX3) (As := [.int p2]) (rest := []) X K (k_X0_tangentOf l G g (cad ad r1) (aad ad r1) (cn r1) (cf r1) p2 _ hh14) hd_X0_tangentOf ggX3_setTangent_X0_tangentOf (by decide +kernel) (List.mem_of_getElem? (i := 25) rfl) (List.mem_of_getElem? (i := 56) rfl) (List.mem_of_getElem? (i := 57) rfl) (sub_c lr1 hP) hl.1 dX3_setTangent_41 rfl rfl ⟨Nat.le_of_ble_eq_true rfl, Nat.le_of_ble_eq_true rfl⟩ rfl rfl rfl (Nat.le_of_ble_eq_true rfl) ⟨Nat.zero_le _, Nat.zero_le _⟩ ?_
  refine lv_istore (lv' := [(6, .int r13), (5, .ref (cad ad r1)), (0, .ref (ad 0)), (1, .int p1), (2, .int p2), (3, .int p3), (4, .int p4)]) hx hb dX3_setTangent_44 hl (by decide) rfl (fun ls hl => ?_)
  refine lv_aload hx hb dX3_setTangent_46 (lv_at hl 1 rfl) ?_
  refine lv_iload_n hx hb dX3_setTangent_48 rfl (lv_at hl 4 rfl) ?_
  refine lv_iconst (v := 3) hx hb dX3_setTangent_49 (by decide) ?_
  refine lv_iload_n hx hb dX3_setTangent_50 rfl (lv_at hl 5 rfl) ?_
  obtain ⟨y15, hh16, hq⟩ := q_bd hq
  refine rwNf (ci := 0) (host := RX3) (As := [.int p2, .int 3, .int p3]) (rest := []) X K (k_X0_put l G g (cad ad r1) (aad ad r1) (cn r1) (cf r1) p2 3 p3 _ hh16) hd_X0_put ggX3_setTangent_X0_put (by decide +kernel) (List.mem_of_getElem? (i := 25) rfl) (List.mem_of_getElem? (i := 62) rfl) (List.mem_of_getElem? (i := 63) rfl) hP hD hS hA (foc_c_X0_put lr1) hl.1 dX3_setTangent_51 rfl rfl ⟨Nat.le_of_ble_eq_true rfl, Nat.le_of_ble_eq_true rfl⟩ rfl rfl rfl (Nat.le_of_ble_eq_true rfl) ⟨Nat.zero_le _, Nat.zero_le _⟩ (fun H locs hP hD hS => ?_)
  obtain ⟨y17, ey17⟩ : ∃ y, y = vu cf r1 y15 := ⟨_, rfl⟩
  have hq := q_let hq ey17
  rw [← ey17] at hP hD
  have hP : va_P G vwCl (wX g ad y7 y8 tl tat tb cn y17 y9 y10 tn tf vv ov) H := hP
  have hD : va_D A (wX g ad y7 y8 tl tat tb cn y17 y9 y10 tn tf vv ov) := hD
  refine lv_aload hx hb dX3_setTangent_54 (lv_at hl 1 rfl) ?_
  refine lv_iload_n hx hb dX3_setTangent_56 rfl (lv_at hl 4 rfl) ?_
  refine lv_iconst (v := 4) hx hb dX3_setTangent_57 (by decide) ?_
  refine lv_iload hx hb dX3_setTangent_58 (lv_at hl 6 rfl) ?_
  obtain ⟨y18, hh19, hq⟩ := q_bd hq
  refine rwNf (ci := 0) (host := RX3) (As := [.int p2, .int 4, .int p4]) (rest := []) X K (k_X0_put l G g (cad ad r1) (aad ad r1) (cn r1) (y17 r1) p2 4 p4 _ hh19) hd_X0_put ggX3_setTangent_X0_put (by decide +kernel) (List.mem_of_getElem? (i := 25) rfl) (List.mem_of_getElem? (i := 62) rfl) (List.mem_of_getElem? (i := 63) rfl) hP hD hS hA (foc_c_X0_put lr1) hl.1 dX3_setTangent_60 rfl rfl ⟨Nat.le_of_ble_eq_true rfl, Nat.le_of_ble_eq_true rfl⟩ rfl rfl rfl (Nat.le_of_ble_eq_true rfl) ⟨Nat.zero_le _, Nat.zero_le _⟩ (fun H locs hP hD hS => ?_)
  obtain ⟨y20, ey20⟩ : ∃ y, y = vu y17 r1 y18 := ⟨_, rfl⟩
  have hq := q_let hq ey20
  rw [← ey20] at hP hD
  have hP : va_P G vwCl (wX g ad y7 y8 tl tat tb cn y20 y9 y10 tn tf vv ov) H := hP
  have hD : va_D A (wX g ad y7 y8 tl tat tb cn y20 y9 y10 tn tf vv ov) := hD
  refine lv_iload hx hb dX3_setTangent_63 (lv_at hl 0 rfl) ?_
  obtain rfl := q_ri hq
  exact rw_iret hx hb hr hk hP hD hS dX3_setTangent_65
def F_X3_lock (bd : Nat → Nat → Nat) (sc : Int32) (cn : Nat → Int32) (cf : Nat → Nat → Int32) (sn : Nat → Nat → Int32) (sf : Nat → Nat → Nat → Int32) (p1 : Int32) (p2 : Int32) (p3 : Int32) : Option (Sum Nat (Int32 × (Nat → Nat → Nat) × Int32 × (Nat → Nat → Int32) × (Nat → Nat → Int32) × (Nat → Nat → Nat → Int32))) := thr (F_X3_curveNumbered p1) fun r1 => thr (F_X3_requireKey (cn r1) p2) fun _u => (F_X3_saveState bd sc cn cf sn sf).bind fun o9 => (F_X0_cell (cn r1) (cf r1) p2 5).bind fun r10 => if p3 = 0 then ((F_X0_put (cn r1) (cf r1) p2 5 0).bind fun y13 => vlet (vu cf r1 y13) fun y15 => some (.inr (r10, o9.1, o9.2.1, y15, o9.2.2.1, o9.2.2.2))) else ((F_X0_put (cn r1) (cf r1) p2 5 1).bind fun y16 => vlet (vu cf r1 y16) fun y18 => some (.inr (r10, o9.1, o9.2.1, y18, o9.2.2.1, o9.2.2.2)))
set_option maxHeartbeats 4000000 in
set_option maxRecDepth 100000 in
theorem k_X3_lock (l : Launch) (G : va_G) (g : Nat → ClassId) (ad : Nat → Nat) (bd : Nat → Nat → Nat) (sc : Int32) (tl : Int32) (tat : Int32) (tb : Nat → Int32) (cn : Nat → Int32) (cf : Nat → Nat → Int32) (sn : Nat → Nat → Int32) (sf : Nat → Nat → Nat → Int32) (tn : Int32) (tf : Nat → Int32) (vv : Nat → Int32) (ov : Nat → Int32) (p1 : Int32) (p2 : Int32) (p3 : Int32) (res : Int32 × (Nat → Nat → Nat) × Int32 × (Nat → Nat → Int32) × (Nat → Nat → Int32) × (Nat → Nat → Nat → Int32)) (hq : F_X3_lock bd sc cn cf sn sf p1 p2 p3 = some (.inr res)) : rwC l yX3_lock wsX3_lock (rmF 4 103) G g [.ref (ad 0), .int p1, .int p2, .int p3] (wX g ad bd sc tl tat tb cn cf sn sf tn tf vv ov) (some (.int res.1)) (wX g ad res.2.1 res.2.2.1 tl tat tb cn res.2.2.2.1 res.2.2.2.2.1 res.2.2.2.2.2 tn tf vv ov) := by
  refine rwC.of (cc := cX3_lock) (maxL := 6) (ret := (some .int)) (by decide) rfl (Nat.le_of_ble_eq_true rfl) ?_
  intro p e s m below meth c ls A X K hA hP hD hS hl
  obtain ⟨hx, hb, hml, hr, hown, hts, hk⟩ := id X
  have hl : lv_has ls 6 [(0, .ref (ad 0)), (1, .int p1), (2, .int p2), (3, .int p3)] := hl
  unfold F_X3_lock at hq
  refine lv_aload_n hx hb dX3_lock_0 rfl (lv_at hl 0 rfl) ?_
  refine lv_iload_n hx hb dX3_lock_1 rfl (lv_at hl 1 rfl) ?_
  obtain ⟨r1, hh2, hq⟩ := q_th hq
  refine roV (ci := 3) (As := [.int p1]) (rest := []) X K (k_X3_curveNumbered l G g ad bd sc tl tat tb cn cf sn sf tn tf vv ov p1 _ hh2) hd_X3_curveNumbered gX3_lock_X3_curveNumbered hP hl.1 dX3_lock_2 rfl rfl ⟨Nat.le_of_ble_eq_true rfl, Nat.le_of_ble_eq_true rfl⟩ rfl rfl rfl (Nat.le_of_ble_eq_true rfl) ⟨Nat.zero_le _, Nat.zero_le _⟩ ?_
  have lr1 := F_X3_curveNumbered_lt hh2
  refine lv_astore (lv' := [(4, .ref (cad ad r1)), (0, .ref (ad 0)), (1, .int p1), (2, .int p2), (3, .int p3)]) hx hb dX3_lock_5 hl (by decide) rfl (fun ls hl => ?_)
  refine lv_aload hx hb dX3_lock_7 (lv_at hl 0 rfl) ?_
  refine lv_iload_n hx hb dX3_lock_9 rfl (lv_at hl 3 rfl) ?_
  obtain ⟨_, hh3, hq⟩ := q_th hq
  refine roS (As := [.ref (cad ad r1), .int p2]) (rest := []) X K (k_X3_requireKey l G g (cad ad r1) (aad ad r1) (cn r1) (cf r1) p2 _ hh3) hd_X3_requireKey gX3_lock_X3_requireKey (sub_c lr1 hP) hl.1 dX3_lock_10 rfl rfl ⟨Nat.le_of_ble_eq_true rfl, Nat.le_of_ble_eq_true rfl⟩ rfl (Nat.le_of_ble_eq_true rfl) ⟨Nat.zero_le _, Nat.zero_le _⟩ ?_
  refine lv_aload_n hx hb dX3_lock_13 rfl (lv_at hl 1 rfl) ?_
  obtain ⟨⟨y4, y5, y6, y7⟩, hh8, hq⟩ := q_bd hq
  refine rwVf (ci := 3) (As := []) (rest := []) X K (k_X3_saveState l G g ad bd sc tl tat tb cn cf sn sf tn tf vv ov _ hh8) hd_X3_saveState gX3_lock_X3_saveState hP hD hS hA foc_id hl.1 dX3_lock_14 rfl rfl ⟨Nat.le_of_ble_eq_true rfl, Nat.le_of_ble_eq_true rfl⟩ rfl rfl rfl (Nat.le_of_ble_eq_true rfl) ⟨Nat.zero_le _, Nat.zero_le _⟩ (fun H locs hP hD hS => ?_)
  have hP : va_P G vwCl (wX g ad y4 y5 tl tat tb cn cf y6 y7 tn tf vv ov) H := hP
  have hD : va_D A (wX g ad y4 y5 tl tat tb cn cf y6 y7 tn tf vv ov) := hD
  refine lv_aload hx hb dX3_lock_17 (lv_at hl 0 rfl) ?_
  refine lv_iload_n hx hb dX3_lock_19 rfl (lv_at hl 3 rfl) ?_
  refine lv_iconst (v := 5) hx hb dX3_lock_20 (by decide) ?_
  obtain ⟨r10, hh11, hq⟩ := q_bd hq
  refine roN (ci := 0) (host := RX3) (As := [.int p2, .int 5]) (rest := []) X K (k_X0_cell l G g (cad ad r1) (aad ad r1) (cn r1) (cf r1) p2 5 _ hh11) hd_X0_cell ggX3_lock_X0_cell (by decide +kernel) (List.mem_of_getElem? (i := 28) rfl) (List.mem_of_getElem? (i := 37) rfl) (List.mem_of_getElem? (i := 38) rfl) (sub_c lr1 hP) hl.1 dX3_lock_21 rfl rfl ⟨Nat.le_of_ble_eq_true rfl, Nat.le_of_ble_eq_true rfl⟩ rfl rfl rfl (Nat.le_of_ble_eq_true rfl) ⟨Nat.zero_le _, Nat.zero_le _⟩ ?_
  refine lv_istore (lv' := [(5, .int r10), (4, .ref (cad ad r1)), (0, .ref (ad 0)), (1, .int p1), (2, .int p2), (3, .int p3)]) hx hb dX3_lock_24 hl (by decide) rfl (fun ls hl => ?_)
  refine lv_aload hx hb dX3_lock_26 (lv_at hl 1 rfl) ?_
  refine lv_iload_n hx hb dX3_lock_28 rfl (lv_at hl 4 rfl) ?_
  refine lv_iconst (v := 5) hx hb dX3_lock_29 (by decide) ?_
  refine lv_iload_n hx hb dX3_lock_30 rfl (lv_at hl 5 rfl) ?_
  refine lv_if_eq (tgt := 38) hx hb dX3_lock_31 (by decide) (fun c12 => ?_) (fun c12 => ?_)
  · have hq := q_if_t hq c12
    refine lv_iconst (v := 0) hx hb dX3_lock_38 (by decide) ?_
    obtain ⟨y13, hh14, hq⟩ := q_bd hq
    refine rwNf (ci := 0) (host := RX3) (As := [.int p2, .int 5, .int 0]) (rest := []) X K (k_X0_put l G g (cad ad r1) (aad ad r1) (cn r1) (cf r1) p2 5 0 _ hh14) hd_X0_put ggX3_lock_X0_put (by decide +kernel) (List.mem_of_getElem? (i := 28) rfl) (List.mem_of_getElem? (i := 40) rfl) (List.mem_of_getElem? (i := 41) rfl) hP hD hS hA (foc_c_X0_put lr1) hl.1 dX3_lock_39 rfl rfl ⟨Nat.le_of_ble_eq_true rfl, Nat.le_of_ble_eq_true rfl⟩ rfl rfl rfl (Nat.le_of_ble_eq_true rfl) ⟨Nat.zero_le _, Nat.zero_le _⟩ (fun H locs hP hD hS => ?_)
    obtain ⟨y15, ey15⟩ : ∃ y, y = vu cf r1 y13 := ⟨_, rfl⟩
    have hq := q_let hq ey15
    rw [← ey15] at hP hD
    have hP : va_P G vwCl (wX g ad y4 y5 tl tat tb cn y15 y6 y7 tn tf vv ov) H := hP
    have hD : va_D A (wX g ad y4 y5 tl tat tb cn y15 y6 y7 tn tf vv ov) := hD
    refine lv_iload hx hb dX3_lock_42 (lv_at hl 0 rfl) ?_
    obtain rfl := q_ri hq
    exact rw_iret hx hb hr hk hP hD hS dX3_lock_44
  · have hq := q_if_f hq c12
    refine lv_iconst (v := 1) hx hb dX3_lock_34 (by decide) ?_
    refine lv_goto (tgt := 39) hx hb dX3_lock_35 (by decide) ?_
    obtain ⟨y16, hh17, hq⟩ := q_bd hq
    refine rwNf (ci := 0) (host := RX3) (As := [.int p2, .int 5, .int 1]) (rest := []) X K (k_X0_put l G g (cad ad r1) (aad ad r1) (cn r1) (cf r1) p2 5 1 _ hh17) hd_X0_put ggX3_lock_X0_put (by decide +kernel) (List.mem_of_getElem? (i := 28) rfl) (List.mem_of_getElem? (i := 40) rfl) (List.mem_of_getElem? (i := 41) rfl) hP hD hS hA (foc_c_X0_put lr1) hl.1 dX3_lock_39 rfl rfl ⟨Nat.le_of_ble_eq_true rfl, Nat.le_of_ble_eq_true rfl⟩ rfl rfl rfl (Nat.le_of_ble_eq_true rfl) ⟨Nat.zero_le _, Nat.zero_le _⟩ (fun H locs hP hD hS => ?_)
    obtain ⟨y18, ey18⟩ : ∃ y, y = vu cf r1 y16 := ⟨_, rfl⟩
    have hq := q_let hq ey18
    rw [← ey18] at hP hD
    have hP : va_P G vwCl (wX g ad y4 y5 tl tat tb cn y18 y6 y7 tn tf vv ov) H := hP
    have hD : va_D A (wX g ad y4 y5 tl tat tb cn y18 y6 y7 tn tf vv ov) := hD
    refine lv_iload hx hb dX3_lock_42 (lv_at hl 0 rfl) ?_
    obtain rfl := q_ri hq
    exact rw_iret hx hb hr hk hP hD hS dX3_lock_44
theorem hd_X0_canStretch : ynm yX0_canStretch 3 := by unfold ynm; decide +kernel
theorem hd_X0_stretchSpan : ynm yX0_stretchSpan 3 := by unfold ynm; decide +kernel
theorem hd_X3_requireSpan : ynm yX3_requireSpan 2 := by unfold ynm; decide +kernel
set_option maxHeartbeats 4000000 in
set_option maxRecDepth 100000 in
theorem foc_c_X0_stretchSpan {g : Nat → ClassId} {ad : Nat → Nat} {bd : Nat → Nat → Nat} {sc : Int32} {tl : Int32} {tat : Int32} {tb : Nat → Int32} {cn : Nat → Int32} {cf : Nat → Nat → Int32} {sn : Nat → Nat → Int32} {sf : Nat → Nat → Nat → Int32} {tn : Int32} {tf : Nat → Int32} {vv : Nat → Int32} {ov : Nat → Int32} {k : Nat} (lk : k < 4) {n_cf : Nat → Int32} : focus (wX g ad bd sc tl tat tb cn cf sn sf tn tf vv ov) [((cad ad k), .inr (0, [.int (cn k), .ref (aad ad k)])), ((aad ad k), .inl (g 0, 96, .inl (cf k)))] [((cad ad k), .inr (0, [.int (cn k), .ref (aad ad k)])), ((aad ad k), .inl (g 0, 96, .inl n_cf))] (wX g ad bd sc tl tat tb cn (vu cf k n_cf) sn sf tn tf vv ov) := by
  match k, lk with
  | 0, _ => exact focus.tail (wXt g bd sn sf) (focus.mk (ws := (wXh g ad bd sc tl tat tb cn cf tn tf vv ov)) (ws1 := (wXh g ad bd sc tl tat tb cn (vu cf 0 n_cf) tn tf vv ov)) (n := 18) [10, 11] [0, 1, 2, 3, 4, 5, 6, 7, 8, 9, 12, 13, 14, 15, 16, 17] [10, 11] [0, 1, 2, 3, 4, 5, 6, 7, 8, 9, 12, 13, 14, 15, 16, 17] [(ad 0, .inr (3, [.ref (ad 1), .ref (ad 3), .int sc, .ref (ad 4), .ref (ad 6), .ref (ad 8), .ref (ad 9)])), (ad 1, .inr (2, [.ref (ad 2)])), (ad 2, .inl (g 2, 4, .inr (.inr (.inr (.inr (vq4 (cad ad 0) (cad ad 1) (cad ad 2) (cad ad 3))))))), (ad 3, .inl (g 3, 4, .inr (.inr (.inr (.inr (vq4 (bd 0 0) (bd 1 0) (bd 2 0) (bd 3 0))))))), (ad 4, .inr (1, [.ref (ad 5), .int tl, .int tat])), (ad 5, .inl (g 1, 150, .inl tb)), (ad 6, .inr (0, [.int tn, .ref (ad 7)])), (ad 7, .inl (g 0, 96, .inl tf)), (ad 8, .inl (g 0, 1000, .inl vv)), (ad 9, .inl (g 0, 1000, .inl ov)), (cad ad 1, .inr (0, [.int (cn 1), .ref (aad ad 1)])), (aad ad 1, .inl (g 0, 96, .inl (cf 1))), (cad ad 2, .inr (0, [.int (cn 2), .ref (aad ad 2)])), (aad ad 2, .inl (g 0, 96, .inl (cf 2))), (cad ad 3, .inr (0, [.int (cn 3), .ref (aad ad 3)])), (aad ad 3, .inl (g 0, 96, .inl (cf 3)))] (by decide +kernel) (by decide +kernel) rfl rfl rfl rfl rfl rfl)
  | 1, _ => exact focus.tail (wXt g bd sn sf) (focus.mk (ws := (wXh g ad bd sc tl tat tb cn cf tn tf vv ov)) (ws1 := (wXh g ad bd sc tl tat tb cn (vu cf 1 n_cf) tn tf vv ov)) (n := 18) [12, 13] [0, 1, 2, 3, 4, 5, 6, 7, 8, 9, 10, 11, 14, 15, 16, 17] [12, 13] [0, 1, 2, 3, 4, 5, 6, 7, 8, 9, 10, 11, 14, 15, 16, 17] [(ad 0, .inr (3, [.ref (ad 1), .ref (ad 3), .int sc, .ref (ad 4), .ref (ad 6), .ref (ad 8), .ref (ad 9)])), (ad 1, .inr (2, [.ref (ad 2)])), (ad 2, .inl (g 2, 4, .inr (.inr (.inr (.inr (vq4 (cad ad 0) (cad ad 1) (cad ad 2) (cad ad 3))))))), (ad 3, .inl (g 3, 4, .inr (.inr (.inr (.inr (vq4 (bd 0 0) (bd 1 0) (bd 2 0) (bd 3 0))))))), (ad 4, .inr (1, [.ref (ad 5), .int tl, .int tat])), (ad 5, .inl (g 1, 150, .inl tb)), (ad 6, .inr (0, [.int tn, .ref (ad 7)])), (ad 7, .inl (g 0, 96, .inl tf)), (ad 8, .inl (g 0, 1000, .inl vv)), (ad 9, .inl (g 0, 1000, .inl ov)), (cad ad 0, .inr (0, [.int (cn 0), .ref (aad ad 0)])), (aad ad 0, .inl (g 0, 96, .inl (cf 0))), (cad ad 2, .inr (0, [.int (cn 2), .ref (aad ad 2)])), (aad ad 2, .inl (g 0, 96, .inl (cf 2))), (cad ad 3, .inr (0, [.int (cn 3), .ref (aad ad 3)])), (aad ad 3, .inl (g 0, 96, .inl (cf 3)))] (by decide +kernel) (by decide +kernel) rfl rfl rfl rfl rfl rfl)
  | 2, _ => exact focus.tail (wXt g bd sn sf) (focus.mk (ws := (wXh g ad bd sc tl tat tb cn cf tn tf vv ov)) (ws1 := (wXh g ad bd sc tl tat tb cn (vu cf 2 n_cf) tn tf vv ov)) (n := 18) [14, 15] [0, 1, 2, 3, 4, 5, 6, 7, 8, 9, 10, 11, 12, 13, 16, 17] [14, 15] [0, 1, 2, 3, 4, 5, 6, 7, 8, 9, 10, 11, 12, 13, 16, 17] [(ad 0, .inr (3, [.ref (ad 1), .ref (ad 3), .int sc, .ref (ad 4), .ref (ad 6), .ref (ad 8), .ref (ad 9)])), (ad 1, .inr (2, [.ref (ad 2)])), (ad 2, .inl (g 2, 4, .inr (.inr (.inr (.inr (vq4 (cad ad 0) (cad ad 1) (cad ad 2) (cad ad 3))))))), (ad 3, .inl (g 3, 4, .inr (.inr (.inr (.inr (vq4 (bd 0 0) (bd 1 0) (bd 2 0) (bd 3 0))))))), (ad 4, .inr (1, [.ref (ad 5), .int tl, .int tat])), (ad 5, .inl (g 1, 150, .inl tb)), (ad 6, .inr (0, [.int tn, .ref (ad 7)])), (ad 7, .inl (g 0, 96, .inl tf)), (ad 8, .inl (g 0, 1000, .inl vv)), (ad 9, .inl (g 0, 1000, .inl ov)), (cad ad 0, .inr (0, [.int (cn 0), .ref (aad ad 0)])), (aad ad 0, .inl (g 0, 96, .inl (cf 0))), (cad ad 1, .inr (0, [.int (cn 1), .ref (aad ad 1)])), (aad ad 1, .inl (g 0, 96, .inl (cf 1))), (cad ad 3, .inr (0, [.int (cn 3), .ref (aad ad 3)])), (aad ad 3, .inl (g 0, 96, .inl (cf 3)))] (by decide +kernel) (by decide +kernel) rfl rfl rfl rfl rfl rfl)
  | 3, _ => exact focus.tail (wXt g bd sn sf) (focus.mk (ws := (wXh g ad bd sc tl tat tb cn cf tn tf vv ov)) (ws1 := (wXh g ad bd sc tl tat tb cn (vu cf 3 n_cf) tn tf vv ov)) (n := 18) [16, 17] [0, 1, 2, 3, 4, 5, 6, 7, 8, 9, 10, 11, 12, 13, 14, 15] [16, 17] [0, 1, 2, 3, 4, 5, 6, 7, 8, 9, 10, 11, 12, 13, 14, 15] [(ad 0, .inr (3, [.ref (ad 1), .ref (ad 3), .int sc, .ref (ad 4), .ref (ad 6), .ref (ad 8), .ref (ad 9)])), (ad 1, .inr (2, [.ref (ad 2)])), (ad 2, .inl (g 2, 4, .inr (.inr (.inr (.inr (vq4 (cad ad 0) (cad ad 1) (cad ad 2) (cad ad 3))))))), (ad 3, .inl (g 3, 4, .inr (.inr (.inr (.inr (vq4 (bd 0 0) (bd 1 0) (bd 2 0) (bd 3 0))))))), (ad 4, .inr (1, [.ref (ad 5), .int tl, .int tat])), (ad 5, .inl (g 1, 150, .inl tb)), (ad 6, .inr (0, [.int tn, .ref (ad 7)])), (ad 7, .inl (g 0, 96, .inl tf)), (ad 8, .inl (g 0, 1000, .inl vv)), (ad 9, .inl (g 0, 1000, .inl ov)), (cad ad 0, .inr (0, [.int (cn 0), .ref (aad ad 0)])), (aad ad 0, .inl (g 0, 96, .inl (cf 0))), (cad ad 1, .inr (0, [.int (cn 1), .ref (aad ad 1)])), (aad ad 1, .inl (g 0, 96, .inl (cf 1))), (cad ad 2, .inr (0, [.int (cn 2), .ref (aad ad 2)])), (aad ad 2, .inl (g 0, 96, .inl (cf 2)))] (by decide +kernel) (by decide +kernel) rfl rfl rfl rfl rfl rfl)
  | n + 4, h => exact absurd h (by omega)
def F_X3_stretch (bd : Nat → Nat → Nat) (sc : Int32) (cn : Nat → Int32) (cf : Nat → Nat → Int32) (sn : Nat → Nat → Int32) (sf : Nat → Nat → Nat → Int32) (p1 : Int32) (p2 : Int32) (p3 : Int32) (p4 : Int32) : Option (Sum Nat (Int32 × (Nat → Nat → Nat) × Int32 × (Nat → Nat → Int32) × (Nat → Nat → Int32) × (Nat → Nat → Nat → Int32))) := thr (F_X3_curveNumbered p1) fun r1 => thr (F_X3_requireSpan p2 p3) fun _u => thr (F_X3_requireRange p4 10 500) fun _u => (F_X0_canStretch (cn r1) (cf r1) p2 p3 p4).bind fun r5 => if r5 = 0 then (some (.inl 3)) else ((F_X3_saveState bd sc cn cf sn sf).bind fun o13 => (F_X0_stretchSpan (cn r1) (cf r1) p2 p3 p4).bind fun o17 => vlet (vu cf r1 o17.2) fun y18 => some (.inr (o17.1, o13.1, o13.2.1, y18, o13.2.2.1, o13.2.2.2)))
set_option maxHeartbeats 4000000 in
set_option maxRecDepth 100000 in
theorem k_X3_stretch (l : Launch) (G : va_G) (g : Nat → ClassId) (ad : Nat → Nat) (bd : Nat → Nat → Nat) (sc : Int32) (tl : Int32) (tat : Int32) (tb : Nat → Int32) (cn : Nat → Int32) (cf : Nat → Nat → Int32) (sn : Nat → Nat → Int32) (sf : Nat → Nat → Nat → Int32) (tn : Int32) (tf : Nat → Int32) (vv : Nat → Int32) (ov : Nat → Int32) (p1 : Int32) (p2 : Int32) (p3 : Int32) (p4 : Int32) (res : Int32 × (Nat → Nat → Nat) × Int32 × (Nat → Nat → Int32) × (Nat → Nat → Int32) × (Nat → Nat → Nat → Int32)) (hq : F_X3_stretch bd sc cn cf sn sf p1 p2 p3 p4 = some (.inr res)) : rwC l yX3_stretch wsX3_stretch (rmF 4 103) G g [.ref (ad 0), .int p1, .int p2, .int p3, .int p4] (wX g ad bd sc tl tat tb cn cf sn sf tn tf vv ov) (some (.int res.1)) (wX g ad res.2.1 res.2.2.1 tl tat tb cn res.2.2.2.1 res.2.2.2.2.1 res.2.2.2.2.2 tn tf vv ov) := by
  refine rwC.of (cc := cX3_stretch) (maxL := 6) (ret := (some .int)) (by decide) rfl (Nat.le_of_ble_eq_true rfl) ?_
  intro p e s m below meth c ls A X K hA hP hD hS hl
  obtain ⟨hx, hb, hml, hr, hown, hts, hk⟩ := id X
  have hl : lv_has ls 6 [(0, .ref (ad 0)), (1, .int p1), (2, .int p2), (3, .int p3), (4, .int p4)] := hl
  unfold F_X3_stretch at hq
  refine lv_aload_n hx hb dX3_stretch_0 rfl (lv_at hl 0 rfl) ?_
  refine lv_iload_n hx hb dX3_stretch_1 rfl (lv_at hl 1 rfl) ?_
  obtain ⟨r1, hh2, hq⟩ := q_th hq
  refine roV (ci := 3) (As := [.int p1]) (rest := []) X K (k_X3_curveNumbered l G g ad bd sc tl tat tb cn cf sn sf tn tf vv ov p1 _ hh2) hd_X3_curveNumbered gX3_stretch_X3_curveNumbered hP hl.1 dX3_stretch_2 rfl rfl ⟨Nat.le_of_ble_eq_true rfl, Nat.le_of_ble_eq_true rfl⟩ rfl rfl rfl (Nat.le_of_ble_eq_true rfl) ⟨Nat.zero_le _, Nat.zero_le _⟩ ?_
  have lr1 := F_X3_curveNumbered_lt hh2
  refine lv_astore (lv' := [(5, .ref (cad ad r1)), (0, .ref (ad 0)), (1, .int p1), (2, .int p2), (3, .int p3), (4, .int p4)]) hx hb dX3_stretch_5 hl (by decide) rfl (fun ls hl => ?_)
  refine lv_iload_n hx hb dX3_stretch_7 rfl (lv_at hl 3 rfl) ?_
  refine lv_iload_n hx hb dX3_stretch_8 rfl (lv_at hl 4 rfl) ?_
  obtain ⟨_, hh3, hq⟩ := q_th hq
  refine roS (As := [.int p2, .int p3]) (rest := []) X K (k_X3_requireSpan l G g p2 p3 _ hh3) hd_X3_requireSpan gX3_stretch_X3_requireSpan (va_P.none G) hl.1 dX3_stretch_9 rfl rfl ⟨Nat.le_of_ble_eq_true rfl, Nat.le_of_ble_eq_true rfl⟩ rfl (Nat.le_of_ble_eq_true rfl) ⟨Nat.zero_le _, Nat.zero_le _⟩ ?_
  refine lv_iload hx hb dX3_stretch_12 (lv_at hl 5 rfl) ?_
  refine lv_bipush (v := 10) hx hb dX3_stretch_14 (by decide) ?_
  refine lv_sipush (v := 500) hx hb dX3_stretch_16 (by decide) ?_
  obtain ⟨_, hh4, hq⟩ := q_th hq
  refine roS (As := [.int p4, .int 10, .int 500]) (rest := []) X K (k_X3_requireRange l G g p4 10 500 _ hh4) hd_X3_requireRange gX3_stretch_X3_requireRange (va_P.none G) hl.1 dX3_stretch_19 rfl rfl ⟨Nat.le_of_ble_eq_true rfl, Nat.le_of_ble_eq_true rfl⟩ rfl (Nat.le_of_ble_eq_true rfl) ⟨Nat.zero_le _, Nat.zero_le _⟩ ?_
  refine lv_aload hx hb dX3_stretch_22 (lv_at hl 0 rfl) ?_
  refine lv_iload_n hx hb dX3_stretch_24 rfl (lv_at hl 3 rfl) ?_
  refine lv_iload_n hx hb dX3_stretch_25 rfl (lv_at hl 4 rfl) ?_
  refine lv_iload hx hb dX3_stretch_26 (lv_at hl 5 rfl) ?_
  obtain ⟨r5, hh6, hq⟩ := q_bd hq
  refine roN (ci := 0) (host := RX3) (As := [.int p2, .int p3, .int p4]) (rest := []) X K (k_X0_canStretch l G g (cad ad r1) (aad ad r1) (cn r1) (cf r1) p2 p3 p4 _ hh6) hd_X0_canStretch ggX3_stretch_X0_canStretch (by decide +kernel) (List.mem_of_getElem? (i := 20) rfl) (List.mem_of_getElem? (i := 19) rfl) (List.mem_of_getElem? (i := 21) rfl) (sub_c lr1 hP) hl.1 dX3_stretch_28 rfl rfl ⟨Nat.le_of_ble_eq_true rfl, Nat.le_of_ble_eq_true rfl⟩ rfl rfl rfl (Nat.le_of_ble_eq_true rfl) ⟨Nat.zero_le _, Nat.zero_le _⟩ ?_
  refine lv_if_ne (tgt := 44) hx hb dX3_stretch_31 (by decide) (fun c7 => ?_) (fun c7 => ?_)
  · have hq := q_if_f hq c7
    refine lv_aload_n hx hb dX3_stretch_44 rfl (lv_at hl 1 rfl) ?_
    obtain ⟨⟨y8, y9, y10, y11⟩, hh12, hq⟩ := q_bd hq
    refine rwVf (ci := 3) (As := []) (rest := []) X K (k_X3_saveState l G g ad bd sc tl tat tb cn cf sn sf tn tf vv ov _ hh12) hd_X3_saveState gX3_stretch_X3_saveState hP hD hS hA foc_id hl.1 dX3_stretch_45 rfl rfl ⟨Nat.le_of_ble_eq_true rfl, Nat.le_of_ble_eq_true rfl⟩ rfl rfl rfl (Nat.le_of_ble_eq_true rfl) ⟨Nat.zero_le _, Nat.zero_le _⟩ (fun H locs hP hD hS => ?_)
    have hP : va_P G vwCl (wX g ad y8 y9 tl tat tb cn cf y10 y11 tn tf vv ov) H := hP
    have hD : va_D A (wX g ad y8 y9 tl tat tb cn cf y10 y11 tn tf vv ov) := hD
    refine lv_aload hx hb dX3_stretch_48 (lv_at hl 0 rfl) ?_
    refine lv_iload_n hx hb dX3_stretch_50 rfl (lv_at hl 3 rfl) ?_
    refine lv_iload_n hx hb dX3_stretch_51 rfl (lv_at hl 4 rfl) ?_
    refine lv_iload hx hb dX3_stretch_52 (lv_at hl 5 rfl) ?_
    obtain ⟨⟨r14, y15⟩, hh16, hq⟩ := q_bd hq
    refine rwNf (ci := 0) (host := RX3) (As := [.int p2, .int p3, .int p4]) (rest := []) X K (k_X0_stretchSpan l G g (cad ad r1) (aad ad r1) (cn r1) (cf r1) p2 p3 p4 _ hh16) hd_X0_stretchSpan ggX3_stretch_X0_stretchSpan (by decide +kernel) (List.mem_of_getElem? (i := 20) rfl) (List.mem_of_getElem? (i := 58) rfl) (List.mem_of_getElem? (i := 59) rfl) hP hD hS hA (foc_c_X0_stretchSpan lr1) hl.1 dX3_stretch_54 rfl rfl ⟨Nat.le_of_ble_eq_true rfl, Nat.le_of_ble_eq_true rfl⟩ rfl rfl rfl (Nat.le_of_ble_eq_true rfl) ⟨Nat.zero_le _, Nat.zero_le _⟩ (fun H locs hP hD hS => ?_)
    obtain ⟨y18, ey18⟩ : ∃ y, y = vu cf r1 y15 := ⟨_, rfl⟩
    have hq := q_let hq ey18
    rw [← ey18] at hP hD
    have hP : va_P G vwCl (wX g ad y8 y9 tl tat tb cn y18 y10 y11 tn tf vv ov) H := hP
    have hD : va_D A (wX g ad y8 y9 tl tat tb cn y18 y10 y11 tn tf vv ov) := hD
    obtain rfl := q_ri hq
    exact rw_iret hx hb hr hk hP hD hS dX3_stretch_57
  · have hq := q_if_t hq c7
    exact q_lr hq
theorem hd_X0_canRaise : ynm yX0_canRaise 1 := by unfold ynm; decide +kernel
theorem hd_X0_raise : ynm yX0_raise 1 := by unfold ynm; decide +kernel
theorem hd_X3_requireNoLock : ynm yX3_requireNoLock 1 := by unfold ynm; decide +kernel
set_option maxHeartbeats 4000000 in
set_option maxRecDepth 100000 in
theorem foc_c_X0_becomeS {g : Nat → ClassId} {ad : Nat → Nat} {bd : Nat → Nat → Nat} {sc : Int32} {tl : Int32} {tat : Int32} {tb : Nat → Int32} {cn : Nat → Int32} {cf : Nat → Nat → Int32} {sn : Nat → Nat → Int32} {sf : Nat → Nat → Nat → Int32} {tn : Int32} {tf : Nat → Int32} {vv : Nat → Int32} {ov : Nat → Int32} {k : Nat} (lk : k < 4) {n_cn : Int32} {n_cf : Nat → Int32} : focus (wX g ad bd sc tl tat tb cn cf sn sf tn tf vv ov) [((cad ad k), .inr (0, [.int (cn k), .ref (aad ad k)])), ((aad ad k), .inl (g 0, 96, .inl (cf k)))] [((cad ad k), .inr (0, [.int n_cn, .ref (aad ad k)])), ((aad ad k), .inl (g 0, 96, .inl n_cf))] (wX g ad bd sc tl tat tb (vu cn k n_cn) (vu cf k n_cf) sn sf tn tf vv ov) := by
  match k, lk with
  | 0, _ => exact focus.tail (wXt g bd sn sf) (focus.mk (ws := (wXh g ad bd sc tl tat tb cn cf tn tf vv ov)) (ws1 := (wXh g ad bd sc tl tat tb (vu cn 0 n_cn) (vu cf 0 n_cf) tn tf vv ov)) (n := 18) [10, 11] [0, 1, 2, 3, 4, 5, 6, 7, 8, 9, 12, 13, 14, 15, 16, 17] [10, 11] [0, 1, 2, 3, 4, 5, 6, 7, 8, 9, 12, 13, 14, 15, 16, 17] [(ad 0, .inr (3, [.ref (ad 1), .ref (ad 3), .int sc, .ref (ad 4), .ref (ad 6), .ref (ad 8), .ref (ad 9)])), (ad 1, .inr (2, [.ref (ad 2)])), (ad 2, .inl (g 2, 4, .inr (.inr (.inr (.inr (vq4 (cad ad 0) (cad ad 1) (cad ad 2) (cad ad 3))))))), (ad 3, .inl (g 3, 4, .inr (.inr (.inr (.inr (vq4 (bd 0 0) (bd 1 0) (bd 2 0) (bd 3 0))))))), (ad 4, .inr (1, [.ref (ad 5), .int tl, .int tat])), (ad 5, .inl (g 1, 150, .inl tb)), (ad 6, .inr (0, [.int tn, .ref (ad 7)])), (ad 7, .inl (g 0, 96, .inl tf)), (ad 8, .inl (g 0, 1000, .inl vv)), (ad 9, .inl (g 0, 1000, .inl ov)), (cad ad 1, .inr (0, [.int (cn 1), .ref (aad ad 1)])), (aad ad 1, .inl (g 0, 96, .inl (cf 1))), (cad ad 2, .inr (0, [.int (cn 2), .ref (aad ad 2)])), (aad ad 2, .inl (g 0, 96, .inl (cf 2))), (cad ad 3, .inr (0, [.int (cn 3), .ref (aad ad 3)])), (aad ad 3, .inl (g 0, 96, .inl (cf 3)))] (by decide +kernel) (by decide +kernel) rfl rfl rfl rfl rfl rfl)
  | 1, _ => exact focus.tail (wXt g bd sn sf) (focus.mk (ws := (wXh g ad bd sc tl tat tb cn cf tn tf vv ov)) (ws1 := (wXh g ad bd sc tl tat tb (vu cn 1 n_cn) (vu cf 1 n_cf) tn tf vv ov)) (n := 18) [12, 13] [0, 1, 2, 3, 4, 5, 6, 7, 8, 9, 10, 11, 14, 15, 16, 17] [12, 13] [0, 1, 2, 3, 4, 5, 6, 7, 8, 9, 10, 11, 14, 15, 16, 17] [(ad 0, .inr (3, [.ref (ad 1), .ref (ad 3), .int sc, .ref (ad 4), .ref (ad 6), .ref (ad 8), .ref (ad 9)])), (ad 1, .inr (2, [.ref (ad 2)])), (ad 2, .inl (g 2, 4, .inr (.inr (.inr (.inr (vq4 (cad ad 0) (cad ad 1) (cad ad 2) (cad ad 3))))))), (ad 3, .inl (g 3, 4, .inr (.inr (.inr (.inr (vq4 (bd 0 0) (bd 1 0) (bd 2 0) (bd 3 0))))))), (ad 4, .inr (1, [.ref (ad 5), .int tl, .int tat])), (ad 5, .inl (g 1, 150, .inl tb)), (ad 6, .inr (0, [.int tn, .ref (ad 7)])), (ad 7, .inl (g 0, 96, .inl tf)), (ad 8, .inl (g 0, 1000, .inl vv)), (ad 9, .inl (g 0, 1000, .inl ov)), (cad ad 0, .inr (0, [.int (cn 0), .ref (aad ad 0)])), (aad ad 0, .inl (g 0, 96, .inl (cf 0))), (cad ad 2, .inr (0, [.int (cn 2), .ref (aad ad 2)])), (aad ad 2, .inl (g 0, 96, .inl (cf 2))), (cad ad 3, .inr (0, [.int (cn 3), .ref (aad ad 3)])), (aad ad 3, .inl (g 0, 96, .inl (cf 3)))] (by decide +kernel) (by decide +kernel) rfl rfl rfl rfl rfl rfl)
  | 2, _ => exact focus.tail (wXt g bd sn sf) (focus.mk (ws := (wXh g ad bd sc tl tat tb cn cf tn tf vv ov)) (ws1 := (wXh g ad bd sc tl tat tb (vu cn 2 n_cn) (vu cf 2 n_cf) tn tf vv ov)) (n := 18) [14, 15] [0, 1, 2, 3, 4, 5, 6, 7, 8, 9, 10, 11, 12, 13, 16, 17] [14, 15] [0, 1, 2, 3, 4, 5, 6, 7, 8, 9, 10, 11, 12, 13, 16, 17] [(ad 0, .inr (3, [.ref (ad 1), .ref (ad 3), .int sc, .ref (ad 4), .ref (ad 6), .ref (ad 8), .ref (ad 9)])), (ad 1, .inr (2, [.ref (ad 2)])), (ad 2, .inl (g 2, 4, .inr (.inr (.inr (.inr (vq4 (cad ad 0) (cad ad 1) (cad ad 2) (cad ad 3))))))), (ad 3, .inl (g 3, 4, .inr (.inr (.inr (.inr (vq4 (bd 0 0) (bd 1 0) (bd 2 0) (bd 3 0))))))), (ad 4, .inr (1, [.ref (ad 5), .int tl, .int tat])), (ad 5, .inl (g 1, 150, .inl tb)), (ad 6, .inr (0, [.int tn, .ref (ad 7)])), (ad 7, .inl (g 0, 96, .inl tf)), (ad 8, .inl (g 0, 1000, .inl vv)), (ad 9, .inl (g 0, 1000, .inl ov)), (cad ad 0, .inr (0, [.int (cn 0), .ref (aad ad 0)])), (aad ad 0, .inl (g 0, 96, .inl (cf 0))), (cad ad 1, .inr (0, [.int (cn 1), .ref (aad ad 1)])), (aad ad 1, .inl (g 0, 96, .inl (cf 1))), (cad ad 3, .inr (0, [.int (cn 3), .ref (aad ad 3)])), (aad ad 3, .inl (g 0, 96, .inl (cf 3)))] (by decide +kernel) (by decide +kernel) rfl rfl rfl rfl rfl rfl)
  | 3, _ => exact focus.tail (wXt g bd sn sf) (focus.mk (ws := (wXh g ad bd sc tl tat tb cn cf tn tf vv ov)) (ws1 := (wXh g ad bd sc tl tat tb (vu cn 3 n_cn) (vu cf 3 n_cf) tn tf vv ov)) (n := 18) [16, 17] [0, 1, 2, 3, 4, 5, 6, 7, 8, 9, 10, 11, 12, 13, 14, 15] [16, 17] [0, 1, 2, 3, 4, 5, 6, 7, 8, 9, 10, 11, 12, 13, 14, 15] [(ad 0, .inr (3, [.ref (ad 1), .ref (ad 3), .int sc, .ref (ad 4), .ref (ad 6), .ref (ad 8), .ref (ad 9)])), (ad 1, .inr (2, [.ref (ad 2)])), (ad 2, .inl (g 2, 4, .inr (.inr (.inr (.inr (vq4 (cad ad 0) (cad ad 1) (cad ad 2) (cad ad 3))))))), (ad 3, .inl (g 3, 4, .inr (.inr (.inr (.inr (vq4 (bd 0 0) (bd 1 0) (bd 2 0) (bd 3 0))))))), (ad 4, .inr (1, [.ref (ad 5), .int tl, .int tat])), (ad 5, .inl (g 1, 150, .inl tb)), (ad 6, .inr (0, [.int tn, .ref (ad 7)])), (ad 7, .inl (g 0, 96, .inl tf)), (ad 8, .inl (g 0, 1000, .inl vv)), (ad 9, .inl (g 0, 1000, .inl ov)), (cad ad 0, .inr (0, [.int (cn 0), .ref (aad ad 0)])), (aad ad 0, .inl (g 0, 96, .inl (cf 0))), (cad ad 1, .inr (0, [.int (cn 1), .ref (aad ad 1)])), (aad ad 1, .inl (g 0, 96, .inl (cf 1))), (cad ad 2, .inr (0, [.int (cn 2), .ref (aad ad 2)])), (aad ad 2, .inl (g 0, 96, .inl (cf 2)))] (by decide +kernel) (by decide +kernel) rfl rfl rfl rfl rfl rfl)
  | n + 4, h => exact absurd h (by omega)
set_option maxHeartbeats 4000000 in
set_option maxRecDepth 100000 in
theorem foc_c_X0_raise {g : Nat → ClassId} {ad : Nat → Nat} {bd : Nat → Nat → Nat} {sc : Int32} {tl : Int32} {tat : Int32} {tb : Nat → Int32} {cn : Nat → Int32} {cf : Nat → Nat → Int32} {sn : Nat → Nat → Int32} {sf : Nat → Nat → Nat → Int32} {tn : Int32} {tf : Nat → Int32} {vv : Nat → Int32} {ov : Nat → Int32} {k : Nat} (lk : k < 4) {n_cf : Nat → Int32} : focus (wX g ad bd sc tl tat tb cn cf sn sf tn tf vv ov) [((cad ad k), .inr (0, [.int (cn k), .ref (aad ad k)])), ((aad ad k), .inl (g 0, 96, .inl (cf k)))] [((cad ad k), .inr (0, [.int (cn k), .ref (aad ad k)])), ((aad ad k), .inl (g 0, 96, .inl n_cf))] (wX g ad bd sc tl tat tb cn (vu cf k n_cf) sn sf tn tf vv ov) := by
  match k, lk with
  | 0, _ => exact focus.tail (wXt g bd sn sf) (focus.mk (ws := (wXh g ad bd sc tl tat tb cn cf tn tf vv ov)) (ws1 := (wXh g ad bd sc tl tat tb cn (vu cf 0 n_cf) tn tf vv ov)) (n := 18) [10, 11] [0, 1, 2, 3, 4, 5, 6, 7, 8, 9, 12, 13, 14, 15, 16, 17] [10, 11] [0, 1, 2, 3, 4, 5, 6, 7, 8, 9, 12, 13, 14, 15, 16, 17] [(ad 0, .inr (3, [.ref (ad 1), .ref (ad 3), .int sc, .ref (ad 4), .ref (ad 6), .ref (ad 8), .ref (ad 9)])), (ad 1, .inr (2, [.ref (ad 2)])), (ad 2, .inl (g 2, 4, .inr (.inr (.inr (.inr (vq4 (cad ad 0) (cad ad 1) (cad ad 2) (cad ad 3))))))), (ad 3, .inl (g 3, 4, .inr (.inr (.inr (.inr (vq4 (bd 0 0) (bd 1 0) (bd 2 0) (bd 3 0))))))), (ad 4, .inr (1, [.ref (ad 5), .int tl, .int tat])), (ad 5, .inl (g 1, 150, .inl tb)), (ad 6, .inr (0, [.int tn, .ref (ad 7)])), (ad 7, .inl (g 0, 96, .inl tf)), (ad 8, .inl (g 0, 1000, .inl vv)), (ad 9, .inl (g 0, 1000, .inl ov)), (cad ad 1, .inr (0, [.int (cn 1), .ref (aad ad 1)])), (aad ad 1, .inl (g 0, 96, .inl (cf 1))), (cad ad 2, .inr (0, [.int (cn 2), .ref (aad ad 2)])), (aad ad 2, .inl (g 0, 96, .inl (cf 2))), (cad ad 3, .inr (0, [.int (cn 3), .ref (aad ad 3)])), (aad ad 3, .inl (g 0, 96, .inl (cf 3)))] (by decide +kernel) (by decide +kernel) rfl rfl rfl rfl rfl rfl)
  | 1, _ => exact focus.tail (wXt g bd sn sf) (focus.mk (ws := (wXh g ad bd sc tl tat tb cn cf tn tf vv ov)) (ws1 := (wXh g ad bd sc tl tat tb cn (vu cf 1 n_cf) tn tf vv ov)) (n := 18) [12, 13] [0, 1, 2, 3, 4, 5, 6, 7, 8, 9, 10, 11, 14, 15, 16, 17] [12, 13] [0, 1, 2, 3, 4, 5, 6, 7, 8, 9, 10, 11, 14, 15, 16, 17] [(ad 0, .inr (3, [.ref (ad 1), .ref (ad 3), .int sc, .ref (ad 4), .ref (ad 6), .ref (ad 8), .ref (ad 9)])), (ad 1, .inr (2, [.ref (ad 2)])), (ad 2, .inl (g 2, 4, .inr (.inr (.inr (.inr (vq4 (cad ad 0) (cad ad 1) (cad ad 2) (cad ad 3))))))), (ad 3, .inl (g 3, 4, .inr (.inr (.inr (.inr (vq4 (bd 0 0) (bd 1 0) (bd 2 0) (bd 3 0))))))), (ad 4, .inr (1, [.ref (ad 5), .int tl, .int tat])), (ad 5, .inl (g 1, 150, .inl tb)), (ad 6, .inr (0, [.int tn, .ref (ad 7)])), (ad 7, .inl (g 0, 96, .inl tf)), (ad 8, .inl (g 0, 1000, .inl vv)), (ad 9, .inl (g 0, 1000, .inl ov)), (cad ad 0, .inr (0, [.int (cn 0), .ref (aad ad 0)])), (aad ad 0, .inl (g 0, 96, .inl (cf 0))), (cad ad 2, .inr (0, [.int (cn 2), .ref (aad ad 2)])), (aad ad 2, .inl (g 0, 96, .inl (cf 2))), (cad ad 3, .inr (0, [.int (cn 3), .ref (aad ad 3)])), (aad ad 3, .inl (g 0, 96, .inl (cf 3)))] (by decide +kernel) (by decide +kernel) rfl rfl rfl rfl rfl rfl)
  | 2, _ => exact focus.tail (wXt g bd sn sf) (focus.mk (ws := (wXh g ad bd sc tl tat tb cn cf tn tf vv ov)) (ws1 := (wXh g ad bd sc tl tat tb cn (vu cf 2 n_cf) tn tf vv ov)) (n := 18) [14, 15] [0, 1, 2, 3, 4, 5, 6, 7, 8, 9, 10, 11, 12, 13, 16, 17] [14, 15] [0, 1, 2, 3, 4, 5, 6, 7, 8, 9, 10, 11, 12, 13, 16, 17] [(ad 0, .inr (3, [.ref (ad 1), .ref (ad 3), .int sc, .ref (ad 4), .ref (ad 6), .ref (ad 8), .ref (ad 9)])), (ad 1, .inr (2, [.ref (ad 2)])), (ad 2, .inl (g 2, 4, .inr (.inr (.inr (.inr (vq4 (cad ad 0) (cad ad 1) (cad ad 2) (cad ad 3))))))), (ad 3, .inl (g 3, 4, .inr (.inr (.inr (.inr (vq4 (bd 0 0) (bd 1 0) (bd 2 0) (bd 3 0))))))), (ad 4, .inr (1, [.ref (ad 5), .int tl, .int tat])), (ad 5, .inl (g 1, 150, .inl tb)), (ad 6, .inr (0, [.int tn, .ref (ad 7)])), (ad 7, .inl (g 0, 96, .inl tf)), (ad 8, .inl (g 0, 1000, .inl vv)), (ad 9, .inl (g 0, 1000, .inl ov)), (cad ad 0, .inr (0, [.int (cn 0), .ref (aad ad 0)])), (aad ad 0, .inl (g 0, 96, .inl (cf 0))), (cad ad 1, .inr (0, [.int (cn 1), .ref (aad ad 1)])), (aad ad 1, .inl (g 0, 96, .inl (cf 1))), (cad ad 3, .inr (0, [.int (cn 3), .ref (aad ad 3)])), (aad ad 3, .inl (g 0, 96, .inl (cf 3)))] (by decide +kernel) (by decide +kernel) rfl rfl rfl rfl rfl rfl)
  | 3, _ => exact focus.tail (wXt g bd sn sf) (focus.mk (ws := (wXh g ad bd sc tl tat tb cn cf tn tf vv ov)) (ws1 := (wXh g ad bd sc tl tat tb cn (vu cf 3 n_cf) tn tf vv ov)) (n := 18) [16, 17] [0, 1, 2, 3, 4, 5, 6, 7, 8, 9, 10, 11, 12, 13, 14, 15] [16, 17] [0, 1, 2, 3, 4, 5, 6, 7, 8, 9, 10, 11, 12, 13, 14, 15] [(ad 0, .inr (3, [.ref (ad 1), .ref (ad 3), .int sc, .ref (ad 4), .ref (ad 6), .ref (ad 8), .ref (ad 9)])), (ad 1, .inr (2, [.ref (ad 2)])), (ad 2, .inl (g 2, 4, .inr (.inr (.inr (.inr (vq4 (cad ad 0) (cad ad 1) (cad ad 2) (cad ad 3))))))), (ad 3, .inl (g 3, 4, .inr (.inr (.inr (.inr (vq4 (bd 0 0) (bd 1 0) (bd 2 0) (bd 3 0))))))), (ad 4, .inr (1, [.ref (ad 5), .int tl, .int tat])), (ad 5, .inl (g 1, 150, .inl tb)), (ad 6, .inr (0, [.int tn, .ref (ad 7)])), (ad 7, .inl (g 0, 96, .inl tf)), (ad 8, .inl (g 0, 1000, .inl vv)), (ad 9, .inl (g 0, 1000, .inl ov)), (cad ad 0, .inr (0, [.int (cn 0), .ref (aad ad 0)])), (aad ad 0, .inl (g 0, 96, .inl (cf 0))), (cad ad 1, .inr (0, [.int (cn 1), .ref (aad ad 1)])), (aad ad 1, .inl (g 0, 96, .inl (cf 1))), (cad ad 2, .inr (0, [.int (cn 2), .ref (aad ad 2)])), (aad ad 2, .inl (g 0, 96, .inl (cf 2)))] (by decide +kernel) (by decide +kernel) rfl rfl rfl rfl rfl rfl)
  | n + 4, h => exact absurd h (by omega)
set_option maxHeartbeats 4000000 in
set_option maxRecDepth 100000 in
theorem foc_cc_X0_become {g : Nat → ClassId} {ad : Nat → Nat} {bd : Nat → Nat → Nat} {sc : Int32} {tl : Int32} {tat : Int32} {tb : Nat → Int32} {cn : Nat → Int32} {cf : Nat → Nat → Int32} {sn : Nat → Nat → Int32} {sf : Nat → Nat → Nat → Int32} {tn : Int32} {tf : Nat → Int32} {vv : Nat → Int32} {ov : Nat → Int32} {k : Nat} (lk : k < 4) {j : Nat} (lj : j < 4) (hkj : ¬ k = j) {n_cn : Int32} {n_cf : Nat → Int32} : focus (wX g ad bd sc tl tat tb cn cf sn sf tn tf vv ov) [((cad ad k), .inr (0, [.int (cn k), .ref (aad ad k)])), ((aad ad k), .inl (g 0, 96, .inl (cf k))), ((cad ad j), .inr (0, [.int (cn j), .ref (aad ad j)])), ((aad ad j), .inl (g 0, 96, .inl (cf j)))] [((cad ad k), .inr (0, [.int n_cn, .ref (aad ad k)])), ((aad ad k), .inl (g 0, 96, .inl n_cf)), ((cad ad j), .inr (0, [.int (cn j), .ref (aad ad j)])), ((aad ad j), .inl (g 0, 96, .inl (cf j)))] (wX g ad bd sc tl tat tb (vu cn k n_cn) (vu cf k n_cf) sn sf tn tf vv ov) := by
  match k, lk, j, lj, hkj with
  | 0, _, 0, _, h => exact absurd rfl h
  | 0, _, 1, _, h => exact focus.tail (wXt g bd sn sf) (focus.mk (ws := (wXh g ad bd sc tl tat tb cn cf tn tf vv ov)) (ws1 := (wXh g ad bd sc tl tat tb (vu cn 0 n_cn) (vu cf 0 n_cf) tn tf vv ov)) (n := 18) [10, 11, 12, 13] [0, 1, 2, 3, 4, 5, 6, 7, 8, 9, 14, 15, 16, 17] [10, 11, 12, 13] [0, 1, 2, 3, 4, 5, 6, 7, 8, 9, 14, 15, 16, 17] [(ad 0, .inr (3, [.ref (ad 1), .ref (ad 3), .int sc, .ref (ad 4), .ref (ad 6), .ref (ad 8), .ref (ad 9)])), (ad 1, .inr (2, [.ref (ad 2)])), (ad 2, .inl (g 2, 4, .inr (.inr (.inr (.inr (vq4 (cad ad 0) (cad ad 1) (cad ad 2) (cad ad 3))))))), (ad 3, .inl (g 3, 4, .inr (.inr (.inr (.inr (vq4 (bd 0 0) (bd 1 0) (bd 2 0) (bd 3 0))))))), (ad 4, .inr (1, [.ref (ad 5), .int tl, .int tat])), (ad 5, .inl (g 1, 150, .inl tb)), (ad 6, .inr (0, [.int tn, .ref (ad 7)])), (ad 7, .inl (g 0, 96, .inl tf)), (ad 8, .inl (g 0, 1000, .inl vv)), (ad 9, .inl (g 0, 1000, .inl ov)), (cad ad 2, .inr (0, [.int (cn 2), .ref (aad ad 2)])), (aad ad 2, .inl (g 0, 96, .inl (cf 2))), (cad ad 3, .inr (0, [.int (cn 3), .ref (aad ad 3)])), (aad ad 3, .inl (g 0, 96, .inl (cf 3)))] (by decide +kernel) (by decide +kernel) rfl rfl rfl rfl rfl rfl)
  | 0, _, 2, _, h => exact focus.tail (wXt g bd sn sf) (focus.mk (ws := (wXh g ad bd sc tl tat tb cn cf tn tf vv ov)) (ws1 := (wXh g ad bd sc tl tat tb (vu cn 0 n_cn) (vu cf 0 n_cf) tn tf vv ov)) (n := 18) [10, 11, 14, 15] [0, 1, 2, 3, 4, 5, 6, 7, 8, 9, 12, 13, 16, 17] [10, 11, 14, 15] [0, 1, 2, 3, 4, 5, 6, 7, 8, 9, 12, 13, 16, 17] [(ad 0, .inr (3, [.ref (ad 1), .ref (ad 3), .int sc, .ref (ad 4), .ref (ad 6), .ref (ad 8), .ref (ad 9)])), (ad 1, .inr (2, [.ref (ad 2)])), (ad 2, .inl (g 2, 4, .inr (.inr (.inr (.inr (vq4 (cad ad 0) (cad ad 1) (cad ad 2) (cad ad 3))))))), (ad 3, .inl (g 3, 4, .inr (.inr (.inr (.inr (vq4 (bd 0 0) (bd 1 0) (bd 2 0) (bd 3 0))))))), (ad 4, .inr (1, [.ref (ad 5), .int tl, .int tat])), (ad 5, .inl (g 1, 150, .inl tb)), (ad 6, .inr (0, [.int tn, .ref (ad 7)])), (ad 7, .inl (g 0, 96, .inl tf)), (ad 8, .inl (g 0, 1000, .inl vv)), (ad 9, .inl (g 0, 1000, .inl ov)), (cad ad 1, .inr (0, [.int (cn 1), .ref (aad ad 1)])), (aad ad 1, .inl (g 0, 96, .inl (cf 1))), (cad ad 3, .inr (0, [.int (cn 3), .ref (aad ad 3)])), (aad ad 3, .inl (g 0, 96, .inl (cf 3)))] (by decide +kernel) (by decide +kernel) rfl rfl rfl rfl rfl rfl)
  | 0, _, 3, _, h => exact focus.tail (wXt g bd sn sf) (focus.mk (ws := (wXh g ad bd sc tl tat tb cn cf tn tf vv ov)) (ws1 := (wXh g ad bd sc tl tat tb (vu cn 0 n_cn) (vu cf 0 n_cf) tn tf vv ov)) (n := 18) [10, 11, 16, 17] [0, 1, 2, 3, 4, 5, 6, 7, 8, 9, 12, 13, 14, 15] [10, 11, 16, 17] [0, 1, 2, 3, 4, 5, 6, 7, 8, 9, 12, 13, 14, 15] [(ad 0, .inr (3, [.ref (ad 1), .ref (ad 3), .int sc, .ref (ad 4), .ref (ad 6), .ref (ad 8), .ref (ad 9)])), (ad 1, .inr (2, [.ref (ad 2)])), (ad 2, .inl (g 2, 4, .inr (.inr (.inr (.inr (vq4 (cad ad 0) (cad ad 1) (cad ad 2) (cad ad 3))))))), (ad 3, .inl (g 3, 4, .inr (.inr (.inr (.inr (vq4 (bd 0 0) (bd 1 0) (bd 2 0) (bd 3 0))))))), (ad 4, .inr (1, [.ref (ad 5), .int tl, .int tat])), (ad 5, .inl (g 1, 150, .inl tb)), (ad 6, .inr (0, [.int tn, .ref (ad 7)])), (ad 7, .inl (g 0, 96, .inl tf)), (ad 8, .inl (g 0, 1000, .inl vv)), (ad 9, .inl (g 0, 1000, .inl ov)), (cad ad 1, .inr (0, [.int (cn 1), .ref (aad ad 1)])), (aad ad 1, .inl (g 0, 96, .inl (cf 1))), (cad ad 2, .inr (0, [.int (cn 2), .ref (aad ad 2)])), (aad ad 2, .inl (g 0, 96, .inl (cf 2)))] (by decide +kernel) (by decide +kernel) rfl rfl rfl rfl rfl rfl)
  | 1, _, 0, _, h => exact focus.tail (wXt g bd sn sf) (focus.mk (ws := (wXh g ad bd sc tl tat tb cn cf tn tf vv ov)) (ws1 := (wXh g ad bd sc tl tat tb (vu cn 1 n_cn) (vu cf 1 n_cf) tn tf vv ov)) (n := 18) [12, 13, 10, 11] [0, 1, 2, 3, 4, 5, 6, 7, 8, 9, 14, 15, 16, 17] [12, 13, 10, 11] [0, 1, 2, 3, 4, 5, 6, 7, 8, 9, 14, 15, 16, 17] [(ad 0, .inr (3, [.ref (ad 1), .ref (ad 3), .int sc, .ref (ad 4), .ref (ad 6), .ref (ad 8), .ref (ad 9)])), (ad 1, .inr (2, [.ref (ad 2)])), (ad 2, .inl (g 2, 4, .inr (.inr (.inr (.inr (vq4 (cad ad 0) (cad ad 1) (cad ad 2) (cad ad 3))))))), (ad 3, .inl (g 3, 4, .inr (.inr (.inr (.inr (vq4 (bd 0 0) (bd 1 0) (bd 2 0) (bd 3 0))))))), (ad 4, .inr (1, [.ref (ad 5), .int tl, .int tat])), (ad 5, .inl (g 1, 150, .inl tb)), (ad 6, .inr (0, [.int tn, .ref (ad 7)])), (ad 7, .inl (g 0, 96, .inl tf)), (ad 8, .inl (g 0, 1000, .inl vv)), (ad 9, .inl (g 0, 1000, .inl ov)), (cad ad 2, .inr (0, [.int (cn 2), .ref (aad ad 2)])), (aad ad 2, .inl (g 0, 96, .inl (cf 2))), (cad ad 3, .inr (0, [.int (cn 3), .ref (aad ad 3)])), (aad ad 3, .inl (g 0, 96, .inl (cf 3)))] (by decide +kernel) (by decide +kernel) rfl rfl rfl rfl rfl rfl)
  | 1, _, 1, _, h => exact absurd rfl h
  | 1, _, 2, _, h => exact focus.tail (wXt g bd sn sf) (focus.mk (ws := (wXh g ad bd sc tl tat tb cn cf tn tf vv ov)) (ws1 := (wXh g ad bd sc tl tat tb (vu cn 1 n_cn) (vu cf 1 n_cf) tn tf vv ov)) (n := 18) [12, 13, 14, 15] [0, 1, 2, 3, 4, 5, 6, 7, 8, 9, 10, 11, 16, 17] [12, 13, 14, 15] [0, 1, 2, 3, 4, 5, 6, 7, 8, 9, 10, 11, 16, 17] [(ad 0, .inr (3, [.ref (ad 1), .ref (ad 3), .int sc, .ref (ad 4), .ref (ad 6), .ref (ad 8), .ref (ad 9)])), (ad 1, .inr (2, [.ref (ad 2)])), (ad 2, .inl (g 2, 4, .inr (.inr (.inr (.inr (vq4 (cad ad 0) (cad ad 1) (cad ad 2) (cad ad 3))))))), (ad 3, .inl (g 3, 4, .inr (.inr (.inr (.inr (vq4 (bd 0 0) (bd 1 0) (bd 2 0) (bd 3 0))))))), (ad 4, .inr (1, [.ref (ad 5), .int tl, .int tat])), (ad 5, .inl (g 1, 150, .inl tb)), (ad 6, .inr (0, [.int tn, .ref (ad 7)])), (ad 7, .inl (g 0, 96, .inl tf)), (ad 8, .inl (g 0, 1000, .inl vv)), (ad 9, .inl (g 0, 1000, .inl ov)), (cad ad 0, .inr (0, [.int (cn 0), .ref (aad ad 0)])), (aad ad 0, .inl (g 0, 96, .inl (cf 0))), (cad ad 3, .inr (0, [.int (cn 3), .ref (aad ad 3)])), (aad ad 3, .inl (g 0, 96, .inl (cf 3)))] (by decide +kernel) (by decide +kernel) rfl rfl rfl rfl rfl rfl)
  | 1, _, 3, _, h => exact focus.tail (wXt g bd sn sf) (focus.mk (ws := (wXh g ad bd sc tl tat tb cn cf tn tf vv ov)) (ws1 := (wXh g ad bd sc tl tat tb (vu cn 1 n_cn) (vu cf 1 n_cf) tn tf vv ov)) (n := 18) [12, 13, 16, 17] [0, 1, 2, 3, 4, 5, 6, 7, 8, 9, 10, 11, 14, 15] [12, 13, 16, 17] [0, 1, 2, 3, 4, 5, 6, 7, 8, 9, 10, 11, 14, 15] [(ad 0, .inr (3, [.ref (ad 1), .ref (ad 3), .int sc, .ref (ad 4), .ref (ad 6), .ref (ad 8), .ref (ad 9)])), (ad 1, .inr (2, [.ref (ad 2)])), (ad 2, .inl (g 2, 4, .inr (.inr (.inr (.inr (vq4 (cad ad 0) (cad ad 1) (cad ad 2) (cad ad 3))))))), (ad 3, .inl (g 3, 4, .inr (.inr (.inr (.inr (vq4 (bd 0 0) (bd 1 0) (bd 2 0) (bd 3 0))))))), (ad 4, .inr (1, [.ref (ad 5), .int tl, .int tat])), (ad 5, .inl (g 1, 150, .inl tb)), (ad 6, .inr (0, [.int tn, .ref (ad 7)])), (ad 7, .inl (g 0, 96, .inl tf)), (ad 8, .inl (g 0, 1000, .inl vv)), (ad 9, .inl (g 0, 1000, .inl ov)), (cad ad 0, .inr (0, [.int (cn 0), .ref (aad ad 0)])), (aad ad 0, .inl (g 0, 96, .inl (cf 0))), (cad ad 2, .inr (0, [.int (cn 2), .ref (aad ad 2)])), (aad ad 2, .inl (g 0, 96, .inl (cf 2)))] (by decide +kernel) (by decide +kernel) rfl rfl rfl rfl rfl rfl)
  | 2, _, 0, _, h => exact focus.tail (wXt g bd sn sf) (focus.mk (ws := (wXh g ad bd sc tl tat tb cn cf tn tf vv ov)) (ws1 := (wXh g ad bd sc tl tat tb (vu cn 2 n_cn) (vu cf 2 n_cf) tn tf vv ov)) (n := 18) [14, 15, 10, 11] [0, 1, 2, 3, 4, 5, 6, 7, 8, 9, 12, 13, 16, 17] [14, 15, 10, 11] [0, 1, 2, 3, 4, 5, 6, 7, 8, 9, 12, 13, 16, 17] [(ad 0, .inr (3, [.ref (ad 1), .ref (ad 3), .int sc, .ref (ad 4), .ref (ad 6), .ref (ad 8), .ref (ad 9)])), (ad 1, .inr (2, [.ref (ad 2)])), (ad 2, .inl (g 2, 4, .inr (.inr (.inr (.inr (vq4 (cad ad 0) (cad ad 1) (cad ad 2) (cad ad 3))))))), (ad 3, .inl (g 3, 4, .inr (.inr (.inr (.inr (vq4 (bd 0 0) (bd 1 0) (bd 2 0) (bd 3 0))))))), (ad 4, .inr (1, [.ref (ad 5), .int tl, .int tat])), (ad 5, .inl (g 1, 150, .inl tb)), (ad 6, .inr (0, [.int tn, .ref (ad 7)])), (ad 7, .inl (g 0, 96, .inl tf)), (ad 8, .inl (g 0, 1000, .inl vv)), (ad 9, .inl (g 0, 1000, .inl ov)), (cad ad 1, .inr (0, [.int (cn 1), .ref (aad ad 1)])), (aad ad 1, .inl (g 0, 96, .inl (cf 1))), (cad ad 3, .inr (0, [.int (cn 3), .ref (aad ad 3)])), (aad ad 3, .inl (g 0, 96, .inl (cf 3)))] (by decide +kernel) (by decide +kernel) rfl rfl rfl rfl rfl rfl)
  | 2, _, 1, _, h => exact focus.tail (wXt g bd sn sf) (focus.mk (ws := (wXh g ad bd sc tl tat tb cn cf tn tf vv ov)) (ws1 := (wXh g ad bd sc tl tat tb (vu cn 2 n_cn) (vu cf 2 n_cf) tn tf vv ov)) (n := 18) [14, 15, 12, 13] [0, 1, 2, 3, 4, 5, 6, 7, 8, 9, 10, 11, 16, 17] [14, 15, 12, 13] [0, 1, 2, 3, 4, 5, 6, 7, 8, 9, 10, 11, 16, 17] [(ad 0, .inr (3, [.ref (ad 1), .ref (ad 3), .int sc, .ref (ad 4), .ref (ad 6), .ref (ad 8), .ref (ad 9)])), (ad 1, .inr (2, [.ref (ad 2)])), (ad 2, .inl (g 2, 4, .inr (.inr (.inr (.inr (vq4 (cad ad 0) (cad ad 1) (cad ad 2) (cad ad 3))))))), (ad 3, .inl (g 3, 4, .inr (.inr (.inr (.inr (vq4 (bd 0 0) (bd 1 0) (bd 2 0) (bd 3 0))))))), (ad 4, .inr (1, [.ref (ad 5), .int tl, .int tat])), (ad 5, .inl (g 1, 150, .inl tb)), (ad 6, .inr (0, [.int tn, .ref (ad 7)])), (ad 7, .inl (g 0, 96, .inl tf)), (ad 8, .inl (g 0, 1000, .inl vv)), (ad 9, .inl (g 0, 1000, .inl ov)), (cad ad 0, .inr (0, [.int (cn 0), .ref (aad ad 0)])), (aad ad 0, .inl (g 0, 96, .inl (cf 0))), (cad ad 3, .inr (0, [.int (cn 3), .ref (aad ad 3)])), (aad ad 3, .inl (g 0, 96, .inl (cf 3)))] (by decide +kernel) (by decide +kernel) rfl rfl rfl rfl rfl rfl)
  | 2, _, 2, _, h => exact absurd rfl h
  | 2, _, 3, _, h => exact focus.tail (wXt g bd sn sf) (focus.mk (ws := (wXh g ad bd sc tl tat tb cn cf tn tf vv ov)) (ws1 := (wXh g ad bd sc tl tat tb (vu cn 2 n_cn) (vu cf 2 n_cf) tn tf vv ov)) (n := 18) [14, 15, 16, 17] [0, 1, 2, 3, 4, 5, 6, 7, 8, 9, 10, 11, 12, 13] [14, 15, 16, 17] [0, 1, 2, 3, 4, 5, 6, 7, 8, 9, 10, 11, 12, 13] [(ad 0, .inr (3, [.ref (ad 1), .ref (ad 3), .int sc, .ref (ad 4), .ref (ad 6), .ref (ad 8), .ref (ad 9)])), (ad 1, .inr (2, [.ref (ad 2)])), (ad 2, .inl (g 2, 4, .inr (.inr (.inr (.inr (vq4 (cad ad 0) (cad ad 1) (cad ad 2) (cad ad 3))))))), (ad 3, .inl (g 3, 4, .inr (.inr (.inr (.inr (vq4 (bd 0 0) (bd 1 0) (bd 2 0) (bd 3 0))))))), (ad 4, .inr (1, [.ref (ad 5), .int tl, .int tat])), (ad 5, .inl (g 1, 150, .inl tb)), (ad 6, .inr (0, [.int tn, .ref (ad 7)])), (ad 7, .inl (g 0, 96, .inl tf)), (ad 8, .inl (g 0, 1000, .inl vv)), (ad 9, .inl (g 0, 1000, .inl ov)), (cad ad 0, .inr (0, [.int (cn 0), .ref (aad ad 0)])), (aad ad 0, .inl (g 0, 96, .inl (cf 0))), (cad ad 1, .inr (0, [.int (cn 1), .ref (aad ad 1)])), (aad ad 1, .inl (g 0, 96, .inl (cf 1)))] (by decide +kernel) (by decide +kernel) rfl rfl rfl rfl rfl rfl)
  | 3, _, 0, _, h => exact focus.tail (wXt g bd sn sf) (focus.mk (ws := (wXh g ad bd sc tl tat tb cn cf tn tf vv ov)) (ws1 := (wXh g ad bd sc tl tat tb (vu cn 3 n_cn) (vu cf 3 n_cf) tn tf vv ov)) (n := 18) [16, 17, 10, 11] [0, 1, 2, 3, 4, 5, 6, 7, 8, 9, 12, 13, 14, 15] [16, 17, 10, 11] [0, 1, 2, 3, 4, 5, 6, 7, 8, 9, 12, 13, 14, 15] [(ad 0, .inr (3, [.ref (ad 1), .ref (ad 3), .int sc, .ref (ad 4), .ref (ad 6), .ref (ad 8), .ref (ad 9)])), (ad 1, .inr (2, [.ref (ad 2)])), (ad 2, .inl (g 2, 4, .inr (.inr (.inr (.inr (vq4 (cad ad 0) (cad ad 1) (cad ad 2) (cad ad 3))))))), (ad 3, .inl (g 3, 4, .inr (.inr (.inr (.inr (vq4 (bd 0 0) (bd 1 0) (bd 2 0) (bd 3 0))))))), (ad 4, .inr (1, [.ref (ad 5), .int tl, .int tat])), (ad 5, .inl (g 1, 150, .inl tb)), (ad 6, .inr (0, [.int tn, .ref (ad 7)])), (ad 7, .inl (g 0, 96, .inl tf)), (ad 8, .inl (g 0, 1000, .inl vv)), (ad 9, .inl (g 0, 1000, .inl ov)), (cad ad 1, .inr (0, [.int (cn 1), .ref (aad ad 1)])), (aad ad 1, .inl (g 0, 96, .inl (cf 1))), (cad ad 2, .inr (0, [.int (cn 2), .ref (aad ad 2)])), (aad ad 2, .inl (g 0, 96, .inl (cf 2)))] (by decide +kernel) (by decide +kernel) rfl rfl rfl rfl rfl rfl)
  | 3, _, 1, _, h => exact focus.tail (wXt g bd sn sf) (focus.mk (ws := (wXh g ad bd sc tl tat tb cn cf tn tf vv ov)) (ws1 := (wXh g ad bd sc tl tat tb (vu cn 3 n_cn) (vu cf 3 n_cf) tn tf vv ov)) (n := 18) [16, 17, 12, 13] [0, 1, 2, 3, 4, 5, 6, 7, 8, 9, 10, 11, 14, 15] [16, 17, 12, 13] [0, 1, 2, 3, 4, 5, 6, 7, 8, 9, 10, 11, 14, 15] [(ad 0, .inr (3, [.ref (ad 1), .ref (ad 3), .int sc, .ref (ad 4), .ref (ad 6), .ref (ad 8), .ref (ad 9)])), (ad 1, .inr (2, [.ref (ad 2)])), (ad 2, .inl (g 2, 4, .inr (.inr (.inr (.inr (vq4 (cad ad 0) (cad ad 1) (cad ad 2) (cad ad 3))))))), (ad 3, .inl (g 3, 4, .inr (.inr (.inr (.inr (vq4 (bd 0 0) (bd 1 0) (bd 2 0) (bd 3 0))))))), (ad 4, .inr (1, [.ref (ad 5), .int tl, .int tat])), (ad 5, .inl (g 1, 150, .inl tb)), (ad 6, .inr (0, [.int tn, .ref (ad 7)])), (ad 7, .inl (g 0, 96, .inl tf)), (ad 8, .inl (g 0, 1000, .inl vv)), (ad 9, .inl (g 0, 1000, .inl ov)), (cad ad 0, .inr (0, [.int (cn 0), .ref (aad ad 0)])), (aad ad 0, .inl (g 0, 96, .inl (cf 0))), (cad ad 2, .inr (0, [.int (cn 2), .ref (aad ad 2)])), (aad ad 2, .inl (g 0, 96, .inl (cf 2)))] (by decide +kernel) (by decide +kernel) rfl rfl rfl rfl rfl rfl)
  | 3, _, 2, _, h => exact focus.tail (wXt g bd sn sf) (focus.mk (ws := (wXh g ad bd sc tl tat tb cn cf tn tf vv ov)) (ws1 := (wXh g ad bd sc tl tat tb (vu cn 3 n_cn) (vu cf 3 n_cf) tn tf vv ov)) (n := 18) [16, 17, 14, 15] [0, 1, 2, 3, 4, 5, 6, 7, 8, 9, 10, 11, 12, 13] [16, 17, 14, 15] [0, 1, 2, 3, 4, 5, 6, 7, 8, 9, 10, 11, 12, 13] [(ad 0, .inr (3, [.ref (ad 1), .ref (ad 3), .int sc, .ref (ad 4), .ref (ad 6), .ref (ad 8), .ref (ad 9)])), (ad 1, .inr (2, [.ref (ad 2)])), (ad 2, .inl (g 2, 4, .inr (.inr (.inr (.inr (vq4 (cad ad 0) (cad ad 1) (cad ad 2) (cad ad 3))))))), (ad 3, .inl (g 3, 4, .inr (.inr (.inr (.inr (vq4 (bd 0 0) (bd 1 0) (bd 2 0) (bd 3 0))))))), (ad 4, .inr (1, [.ref (ad 5), .int tl, .int tat])), (ad 5, .inl (g 1, 150, .inl tb)), (ad 6, .inr (0, [.int tn, .ref (ad 7)])), (ad 7, .inl (g 0, 96, .inl tf)), (ad 8, .inl (g 0, 1000, .inl vv)), (ad 9, .inl (g 0, 1000, .inl ov)), (cad ad 0, .inr (0, [.int (cn 0), .ref (aad ad 0)])), (aad ad 0, .inl (g 0, 96, .inl (cf 0))), (cad ad 1, .inr (0, [.int (cn 1), .ref (aad ad 1)])), (aad ad 1, .inl (g 0, 96, .inl (cf 1)))] (by decide +kernel) (by decide +kernel) rfl rfl rfl rfl rfl rfl)
  | 3, _, 3, _, h => exact absurd rfl h
  | n + 4, h, _, _, _ => exact absurd h (by omega)
  | _, _, n + 4, h, _ => exact absurd h (by omega)
theorem in_X3_copy_X0 : ∀ w ∈ wsX00, w ∈ wsX3_copy := fun _ h => List.mem_cons_of_mem _ (List.mem_append_left _ (List.mem_append_left _ (List.mem_append_left _ (List.mem_append_left _ (List.mem_append_left _ (List.mem_append_right _ h))))))
def F_X3_copy (bd : Nat → Nat → Nat) (sc : Int32) (cn : Nat → Int32) (cf : Nat → Nat → Int32) (sn : Nat → Nat → Int32) (sf : Nat → Nat → Nat → Int32) (p1 : Int32) (p2 : Int32) (p3 : Int32) : Option (Sum Nat (Int32 × (Nat → Nat → Nat) × Int32 × (Nat → Int32) × (Nat → Nat → Int32) × (Nat → Nat → Int32) × (Nat → Nat → Nat → Int32))) := thr (F_X3_curveNumbered p1) fun r1 => thr (F_X3_curveNumbered p2) fun r3 => thr (F_X3_requireRange p3 (-9999) 9999) fun _u => thr (F_X3_requireNoLock (cn r1) (cf r1)) fun _u => (F_X0_canRaise (cn r3) (cf r3) p3).bind fun r7 => if r7 = 0 then (some (.inl 3)) else ((F_X3_saveState bd sc cn cf sn sf).bind fun o15 => if r1 = r3 then ((F_X0_becomeS (cn r1) (cf r1)).bind fun o20 => vlet (vu cn r1 o20.1) fun y21 => vlet (vu cf r1 o20.2) fun y22 => (F_X0_raise (y21 r1) (y22 r1) p3).bind fun y23 => vlet (vu y22 r1 y23) fun y25 => some (.inr (y21 r1, o15.1, o15.2.1, y21, y25, o15.2.2.1, o15.2.2.2))) else ((F_X0_become (cn r1) (cf r1) (cn r3) (cf r3)).bind fun o29 => vlet (vu cn r1 o29.1) fun y30 => vlet (vu cf r1 o29.2) fun y31 => (F_X0_raise (y30 r1) (y31 r1) p3).bind fun y32 => vlet (vu y31 r1 y32) fun y34 => some (.inr (y30 r1, o15.1, o15.2.1, y30, y34, o15.2.2.1, o15.2.2.2))))
set_option maxHeartbeats 4000000 in
set_option maxRecDepth 100000 in
theorem k_X3_copy (l : Launch) (G : va_G) (g : Nat → ClassId) (ad : Nat → Nat) (bd : Nat → Nat → Nat) (sc : Int32) (tl : Int32) (tat : Int32) (tb : Nat → Int32) (cn : Nat → Int32) (cf : Nat → Nat → Int32) (sn : Nat → Nat → Int32) (sf : Nat → Nat → Nat → Int32) (tn : Int32) (tf : Nat → Int32) (vv : Nat → Int32) (ov : Nat → Int32) (p1 : Int32) (p2 : Int32) (p3 : Int32) (res : Int32 × (Nat → Nat → Nat) × Int32 × (Nat → Int32) × (Nat → Nat → Int32) × (Nat → Nat → Int32) × (Nat → Nat → Nat → Int32)) (hq : F_X3_copy bd sc cn cf sn sf p1 p2 p3 = some (.inr res)) : rwC l yX3_copy wsX3_copy (rmF 4 103) G g [.ref (ad 0), .int p1, .int p2, .int p3] (wX g ad bd sc tl tat tb cn cf sn sf tn tf vv ov) (some (.int res.1)) (wX g ad res.2.1 res.2.2.1 tl tat tb res.2.2.2.1 res.2.2.2.2.1 res.2.2.2.2.2.1 res.2.2.2.2.2.2 tn tf vv ov) := by
  refine rwC.of (cc := cX3_copy) (maxL := 6) (ret := (some .int)) (by decide) rfl (Nat.le_of_ble_eq_true rfl) ?_
  intro p e s m below meth c ls A X K hA hP hD hS hl
  obtain ⟨hx, hb, hml, hr, hown, hts, hk⟩ := id X
  have hl : lv_has ls 6 [(0, .ref (ad 0)), (1, .int p1), (2, .int p2), (3, .int p3)] := hl
  unfold F_X3_copy at hq
  refine lv_aload_n hx hb dX3_copy_0 rfl (lv_at hl 0 rfl) ?_
  refine lv_iload_n hx hb dX3_copy_1 rfl (lv_at hl 1 rfl) ?_
  obtain ⟨r1, hh2, hq⟩ := q_th hq
  refine roV (ci := 3) (As := [.int p1]) (rest := []) X K (k_X3_curveNumbered l G g ad bd sc tl tat tb cn cf sn sf tn tf vv ov p1 _ hh2) hd_X3_curveNumbered gX3_copy_X3_curveNumbered hP hl.1 dX3_copy_2 rfl rfl ⟨Nat.le_of_ble_eq_true rfl, Nat.le_of_ble_eq_true rfl⟩ rfl rfl rfl (Nat.le_of_ble_eq_true rfl) ⟨Nat.zero_le _, Nat.zero_le _⟩ ?_
  have lr1 := F_X3_curveNumbered_lt hh2
  refine lv_astore (lv' := [(4, .ref (cad ad r1)), (0, .ref (ad 0)), (1, .int p1), (2, .int p2), (3, .int p3)]) hx hb dX3_copy_5 hl (by decide) rfl (fun ls hl => ?_)
  refine lv_aload_n hx hb dX3_copy_7 rfl (lv_at hl 1 rfl) ?_
  refine lv_iload_n hx hb dX3_copy_8 rfl (lv_at hl 3 rfl) ?_
  obtain ⟨r3, hh4, hq⟩ := q_th hq
  refine roV (ci := 3) (As := [.int p2]) (rest := []) X K (k_X3_curveNumbered l G g ad bd sc tl tat tb cn cf sn sf tn tf vv ov p2 _ hh4) hd_X3_curveNumbered gX3_copy_X3_curveNumbered hP hl.1 dX3_copy_9 rfl rfl ⟨Nat.le_of_ble_eq_true rfl, Nat.le_of_ble_eq_true rfl⟩ rfl rfl rfl (Nat.le_of_ble_eq_true rfl) ⟨Nat.zero_le _, Nat.zero_le _⟩ ?_
  have lr3 := F_X3_curveNumbered_lt hh4
  refine lv_astore (lv' := [(5, .ref (cad ad r3)), (4, .ref (cad ad r1)), (0, .ref (ad 0)), (1, .int p1), (2, .int p2), (3, .int p3)]) hx hb dX3_copy_12 hl (by decide) rfl (fun ls hl => ?_)
  refine lv_iload_n hx hb dX3_copy_14 rfl (lv_at hl 5 rfl) ?_
  refine lv_sipush (v := (-9999)) hx hb dX3_copy_15 (by decide) ?_
  refine lv_sipush (v := 9999) hx hb dX3_copy_18 (by decide) ?_
  obtain ⟨_, hh5, hq⟩ := q_th hq
  refine roS (As := [.int p3, .int (-9999), .int 9999]) (rest := []) X K (k_X3_requireRange l G g p3 (-9999) 9999 _ hh5) hd_X3_requireRange gX3_copy_X3_requireRange (va_P.none G) hl.1 dX3_copy_21 rfl rfl ⟨Nat.le_of_ble_eq_true rfl, Nat.le_of_ble_eq_true rfl⟩ rfl (Nat.le_of_ble_eq_true rfl) ⟨Nat.zero_le _, Nat.zero_le _⟩ ?_
  refine lv_aload hx hb dX3_copy_24 (lv_at hl 1 rfl) ?_
  obtain ⟨_, hh6, hq⟩ := q_th hq
  refine roS (As := [.ref (cad ad r1)]) (rest := []) X K (k_X3_requireNoLock l G g (cad ad r1) (aad ad r1) (cn r1) (cf r1) _ hh6) hd_X3_requireNoLock gX3_copy_X3_requireNoLock (sub_c lr1 hP) hl.1 dX3_copy_26 rfl rfl ⟨Nat.le_of_ble_eq_true rfl, Nat.le_of_ble_eq_true rfl⟩ rfl (Nat.le_of_ble_eq_true rfl) ⟨Nat.zero_le _, Nat.zero_le _⟩ ?_
  refine lv_aload hx hb dX3_copy_29 (lv_at hl 0 rfl) ?_
  refine lv_iload_n hx hb dX3_copy_31 rfl (lv_at hl 5 rfl) ?_
  obtain ⟨r7, hh8, hq⟩ := q_bd hq
  refine roN (ci := 0) (host := RX3) (As := [.int p3]) (rest := []) X K (k_X0_canRaise l G g (cad ad r3) (aad ad r3) (cn r3) (cf r3) p3 _ hh8) hd_X0_canRaise ggX3_copy_X0_canRaise (by decide +kernel) (List.mem_of_getElem? (i := 20) rfl) (List.mem_of_getElem? (i := 33) rfl) (List.mem_of_getElem? (i := 34) rfl) (sub_c lr3 hP) hl.1 dX3_copy_32 rfl rfl ⟨Nat.le_of_ble_eq_true rfl, Nat.le_of_ble_eq_true rfl⟩ rfl rfl rfl (Nat.le_of_ble_eq_true rfl) ⟨Nat.zero_le _, Nat.zero_le _⟩ ?_
  refine lv_if_ne (tgt := 48) hx hb dX3_copy_35 (by decide) (fun c9 => ?_) (fun c9 => ?_)
  · have hq := q_if_f hq c9
    refine lv_aload_n hx hb dX3_copy_48 rfl (lv_at hl 2 rfl) ?_
    obtain ⟨⟨y10, y11, y12, y13⟩, hh14, hq⟩ := q_bd hq
    refine rwVf (ci := 3) (As := []) (rest := []) X K (k_X3_saveState l G g ad bd sc tl tat tb cn cf sn sf tn tf vv ov _ hh14) hd_X3_saveState gX3_copy_X3_saveState hP hD hS hA foc_id hl.1 dX3_copy_49 rfl rfl ⟨Nat.le_of_ble_eq_true rfl, Nat.le_of_ble_eq_true rfl⟩ rfl rfl rfl (Nat.le_of_ble_eq_true rfl) ⟨Nat.zero_le _, Nat.zero_le _⟩ (fun H locs hP hD hS => ?_)
    have hP : va_P G vwCl (wX g ad y10 y11 tl tat tb cn cf y12 y13 tn tf vv ov) H := hP
    have hD : va_D A (wX g ad y10 y11 tl tat tb cn cf y12 y13 tn tf vv ov) := hD
    refine lv_aload hx hb dX3_copy_52 (lv_at hl 1 rfl) ?_
    refine lv_aload hx hb dX3_copy_54 (lv_at hl 0 rfl) ?_
    refine (Classical.em (r1 = r3)).elim (fun c16 => ?_) (fun c16 => ?_)
    · have hq := q_if_t hq c16
      refine W.eq (g2 := F0 m 56 ls ([.ref (cad ad r1), .ref (cad ad r1)])) (by rw [← c16]; rfl) ?_
      obtain ⟨⟨y17, y18⟩, hh19, hq⟩ := q_bd hq
      refine rwNf (ci := 0) (host := RX3) (As := [.ref (cad ad r1)]) (rest := []) X K (k_X0_becomeS l G g (cad ad r1) (aad ad r1) (cn r1) (cf r1) _ hh19) hd_X0_become ggX3_copy_X0_become (by decide +kernel) (List.mem_of_getElem? (i := 20) rfl) (List.mem_of_getElem? (i := 55) rfl) (List.mem_of_getElem? (i := 56) rfl) hP hD hS hA (foc_c_X0_becomeS lr1) hl.1 dX3_copy_56 rfl rfl ⟨Nat.le_of_ble_eq_true rfl, Nat.le_of_ble_eq_true rfl⟩ rfl rfl rfl (Nat.le_of_ble_eq_true rfl) ⟨Nat.zero_le _, Nat.zero_le _⟩ (fun H locs hP hD hS => ?_)
      obtain ⟨y21, ey21⟩ : ∃ y, y = vu cn r1 y17 := ⟨_, rfl⟩
      have hq := q_let hq ey21
      rw [← ey21] at hP hD
      obtain ⟨y22, ey22⟩ : ∃ y, y = vu cf r1 y18 := ⟨_, rfl⟩
      have hq := q_let hq ey22
      rw [← ey22] at hP hD
      have hP : va_P G vwCl (wX g ad y10 y11 tl tat tb y21 y22 y12 y13 tn tf vv ov) H := hP
      have hD : va_D A (wX g ad y10 y11 tl tat tb y21 y22 y12 y13 tn tf vv ov) := hD
      refine lv_aload hx hb dX3_copy_59 (lv_at hl 1 rfl) ?_
      refine lv_iload_n hx hb dX3_copy_61 rfl (lv_at hl 5 rfl) ?_
      obtain ⟨y23, hh24, hq⟩ := q_bd hq
      refine rwNf (ci := 0) (host := RX3) (As := [.int p3]) (rest := []) X K (k_X0_raise l G g (cad ad r1) (aad ad r1) (y21 r1) (y22 r1) p3 _ hh24) hd_X0_raise ggX3_copy_X0_raise (by decide +kernel) (List.mem_of_getElem? (i := 20) rfl) (List.mem_of_getElem? (i := 62) rfl) (List.mem_of_getElem? (i := 63) rfl) hP hD hS hA (foc_c_X0_raise lr1) hl.1 dX3_copy_62 rfl rfl ⟨Nat.le_of_ble_eq_true rfl, Nat.le_of_ble_eq_true rfl⟩ rfl rfl rfl (Nat.le_of_ble_eq_true rfl) ⟨Nat.zero_le _, Nat.zero_le _⟩ (fun H locs hP hD hS => ?_)
      obtain ⟨y25, ey25⟩ : ∃ y, y = vu y22 r1 y23 := ⟨_, rfl⟩
      have hq := q_let hq ey25
      rw [← ey25] at hP hD
      have hP : va_P G vwCl (wX g ad y10 y11 tl tat tb y21 y25 y12 y13 tn tf vv ov) H := hP
      have hD : va_D A (wX g ad y10 y11 tl tat tb y21 y25 y12 y13 tn tf vv ov) := hD
      refine lv_aload hx hb dX3_copy_65 (lv_at hl 1 rfl) ?_
      refine va_getN (D := G) (ci := 0) (v := .int (y21 r1)) (C := RX0) (T := TX0) (N := 2) (host := RX3) hx hb hts in_X3_copy_X0 hown K.1 (sub_c lr1 hP) 0 rfl rfl 0 (by decide) ((K.2.2 (RX3, 53, RX0, "count", "I", RX3) (by decide +kernel)).use rfl) (fun _ h9 => h9) rfl dX3_copy_67 ?_
      obtain rfl := q_ri hq
      exact rw_iret hx hb hr hk hP hD hS dX3_copy_70
    · have hq := q_if_f hq c16
      obtain ⟨⟨y26, y27⟩, hh28, hq⟩ := q_bd hq
      refine rwNf (ci := 0) (host := RX3) (As := [.ref (cad ad r3)]) (rest := []) X K (k_X0_become l G g (cad ad r1) (aad ad r1) (cad ad r3) (aad ad r3) (cn r1) (cf r1) (cn r3) (cf r3) _ hh28) hd_X0_become ggX3_copy_X0_become (by decide +kernel) (List.mem_of_getElem? (i := 20) rfl) (List.mem_of_getElem? (i := 55) rfl) (List.mem_of_getElem? (i := 56) rfl) hP hD hS hA (foc_cc_X0_become lr1 lr3 c16) hl.1 dX3_copy_56 rfl rfl ⟨Nat.le_of_ble_eq_true rfl, Nat.le_of_ble_eq_true rfl⟩ rfl rfl rfl (Nat.le_of_ble_eq_true rfl) ⟨Nat.zero_le _, Nat.zero_le _⟩ (fun H locs hP hD hS => ?_)
      obtain ⟨y30, ey30⟩ : ∃ y, y = vu cn r1 y26 := ⟨_, rfl⟩
      have hq := q_let hq ey30
      rw [← ey30] at hP hD
      obtain ⟨y31, ey31⟩ : ∃ y, y = vu cf r1 y27 := ⟨_, rfl⟩
      have hq := q_let hq ey31
      rw [← ey31] at hP hD
      have hP : va_P G vwCl (wX g ad y10 y11 tl tat tb y30 y31 y12 y13 tn tf vv ov) H := hP
      have hD : va_D A (wX g ad y10 y11 tl tat tb y30 y31 y12 y13 tn tf vv ov) := hD
      refine lv_aload hx hb dX3_copy_59 (lv_at hl 1 rfl) ?_
      refine lv_iload_n hx hb dX3_copy_61 rfl (lv_at hl 5 rfl) ?_
      obtain ⟨y32, hh33, hq⟩ := q_bd hq
      refine rwNf (ci := 0) (host := RX3) (As := [.int p3]) (rest := []) X K (k_X0_raise l G g (cad ad r1) (aad ad r1) (y30 r1) (y31 r1) p3 _ hh33) hd_X0_raise ggX3_copy_X0_raise (by decide +kernel) (List.mem_of_getElem? (i := 20) rfl) (List.mem_of_getElem? (i := 62) rfl) (List.mem_of_getElem? (i := 63) rfl) hP hD hS hA (foc_c_X0_raise lr1) hl.1 dX3_copy_62 rfl rfl ⟨Nat.le_of_ble_eq_true rfl, Nat.le_of_ble_eq_true rfl⟩ rfl rfl rfl (Nat.le_of_ble_eq_true rfl) ⟨Nat.zero_le _, Nat.zero_le _⟩ (fun H locs hP hD hS => ?_)
      obtain ⟨y34, ey34⟩ : ∃ y, y = vu y31 r1 y32 := ⟨_, rfl⟩
      have hq := q_let hq ey34
      rw [← ey34] at hP hD
      have hP : va_P G vwCl (wX g ad y10 y11 tl tat tb y30 y34 y12 y13 tn tf vv ov) H := hP
      have hD : va_D A (wX g ad y10 y11 tl tat tb y30 y34 y12 y13 tn tf vv ov) := hD
      refine lv_aload hx hb dX3_copy_65 (lv_at hl 1 rfl) ?_
      refine va_getN (D := G) (ci := 0) (v := .int (y30 r1)) (C := RX0) (T := TX0) (N := 2) (host := RX3) hx hb hts in_X3_copy_X0 hown K.1 (sub_c lr1 hP) 0 rfl rfl 0 (by decide) ((K.2.2 (RX3, 53, RX0, "count", "I", RX3) (by decide +kernel)).use rfl) (fun _ h9 => h9) rfl dX3_copy_67 ?_
      obtain rfl := q_ri hq
      exact rw_iret hx hb hr hk hP hD hS dX3_copy_70
  · have hq := q_if_t hq c9
    exact q_lr hq
theorem hd_X3_aboutKey : ynm yX3_aboutKey 3 := by unfold ynm; decide +kernel
theorem in_X3_key_X0 : ∀ w ∈ wsX00, w ∈ wsX3_key := fun _ h => List.mem_cons_of_mem _ (List.mem_append_left _ (List.mem_append_left _ (List.mem_append_left _ (List.mem_append_left _ (List.mem_append_right _ h)))))
def F_X3_key_18 (cn : Nat → Int32) (cf : Nat → Nat → Int32) (v1 : Int32) (v2 : Int32) (v3 : Nat) : Option (Sum Nat (Int32)) := thr (F_X3_requireRange v2 0 6) fun _u => if v1 = (-1) then (some (.inr (cn v3))) else ((F_X3_aboutKey (cn v3) (cf v3) v1 v2).bind fun r6 => some (.inr (r6)))
set_option maxHeartbeats 4000000 in
set_option maxRecDepth 100000 in
theorem w_X3_key_18 {p : Program} {l : Launch} {e : Env} {s : State} {m : MethodId} {args : Array Value} {below : List Frame} {meth : Method} {c : Code} {G : va_G} {g : Nat → ClassId} (X : cx p s m args meth c cX3_key 5 (some .int) RX3 wsX3_key) (K : amb G g s) (ad : Nat → Nat) (bd : Nat → Nat → Nat) (sc : Int32) (tl : Int32) (tat : Int32) (tb : Nat → Int32) (sn : Nat → Nat → Int32) (sf : Nat → Nat → Nat → Int32) (tn : Int32) (tf : Nat → Int32) (vv : Nat → Int32) (ov : Nat → Int32) (cn : Nat → Int32) (cf : Nat → Nat → Int32) (v1 : Int32) (v2 : Int32) (v3 : Nat) (lv3 : v3 < 4) (hP : va_P G vwCl (wX g ad bd sc tl tat tb cn cf sn sf tn tf vv ov) s.heap) (res : Int32) (hq : F_X3_key_18 cn cf v1 v2 v3 = some (.inr res)) : ∀ (ls : Array Slot), lv_has ls 5 [(2, .int v1), (3, .int v2), (4, .ref (cad ad v3))] → W p l e (rmF 3 69) s m args below meth c s.heap [] 0 0 (roM below (some (.int res)) args s) (F0 m 18 ls []) := by
  obtain ⟨hx, hb, hml, hr, hown, hts, hk⟩ := id X
  intro ls hl
  unfold F_X3_key_18 at hq
  refine lv_iload_n hx hb dX3_key_18 rfl (lv_at hl 1 rfl) ?_
  refine lv_iconst (v := 0) hx hb dX3_key_19 (by decide) ?_
  refine lv_bipush (v := 6) hx hb dX3_key_20 (by decide) ?_
  obtain ⟨_, hh4, hq⟩ := q_th hq
  refine roS (As := [.int v2, .int 0, .int 6]) (rest := []) X K (k_X3_requireRange l G g v2 0 6 _ hh4) hd_X3_requireRange gX3_key_X3_requireRange (va_P.none G) hl.1 dX3_key_22 rfl rfl ⟨Nat.le_of_ble_eq_true rfl, Nat.le_of_ble_eq_true rfl⟩ rfl (Nat.le_of_ble_eq_true rfl) ⟨Nat.zero_le _, Nat.zero_le _⟩ ?_
  refine lv_iload_n hx hb dX3_key_25 rfl (lv_at hl 0 rfl) ?_
  refine lv_iconst (v := (-1)) hx hb dX3_key_26 (by decide) ?_
  refine lv_icmp_ne (tgt := 38) hx hb dX3_key_27 (by decide) (fun c5 => ?_) (fun c5 => ?_)
  · have hq := q_if_f hq c5
    refine lv_aload hx hb dX3_key_38 (lv_at hl 2 rfl) ?_
    refine lv_iload_n hx hb dX3_key_40 rfl (lv_at hl 0 rfl) ?_
    refine lv_iload_n hx hb dX3_key_41 rfl (lv_at hl 1 rfl) ?_
    obtain ⟨r6, hh7, hq⟩ := q_bd hq
    refine roS (As := [.ref (cad ad v3), .int v1, .int v2]) (rest := []) X K (k_X3_aboutKey l G g (cad ad v3) (aad ad v3) (cn v3) (cf v3) v1 v2 _ hh7) hd_X3_aboutKey gX3_key_X3_aboutKey (sub_c lv3 hP) hl.1 dX3_key_42 rfl rfl ⟨Nat.le_of_ble_eq_true rfl, Nat.le_of_ble_eq_true rfl⟩ rfl (Nat.le_of_ble_eq_true rfl) ⟨Nat.zero_le _, Nat.zero_le _⟩ ?_
    obtain rfl := q_ri hq
    exact ro_iret hx hb hr hk dX3_key_45
  · have hq := q_if_t hq c5
    refine lv_aload hx hb dX3_key_30 (lv_at hl 2 rfl) ?_
    refine va_getN (D := G) (ci := 0) (v := .int (cn v3)) (C := RX0) (T := TX0) (N := 2) (host := RX3) hx hb hts in_X3_key_X0 hown K.1 (sub_c lv3 hP) 0 rfl rfl 0 (by decide) ((K.2.2 (RX3, 53, RX0, "count", "I", RX3) (by decide +kernel)).use rfl) (fun _ h9 => h9) rfl dX3_key_32 ?_
    refine lv_goto (tgt := 45) hx hb dX3_key_35 (by decide) ?_
    obtain rfl := q_ri hq
    exact ro_iret hx hb hr hk dX3_key_45
def F_X3_key (cn : Nat → Int32) (cf : Nat → Nat → Int32) (p1 : Int32) (p2 : Int32) (p3 : Int32) : Option (Sum Nat (Int32)) := thr (F_X3_curveNumbered p1) fun r1 => if p2 = (-1) then (F_X3_key_18 cn cf p2 p3 r1) else (thr (F_X3_requireKey (cn r1) p2) fun _u => F_X3_key_18 cn cf p2 p3 r1)
set_option maxHeartbeats 4000000 in
set_option maxRecDepth 100000 in
theorem k_X3_key (l : Launch) (G : va_G) (g : Nat → ClassId) (ad : Nat → Nat) (bd : Nat → Nat → Nat) (sc : Int32) (tl : Int32) (tat : Int32) (tb : Nat → Int32) (cn : Nat → Int32) (cf : Nat → Nat → Int32) (sn : Nat → Nat → Int32) (sf : Nat → Nat → Nat → Int32) (tn : Int32) (tf : Nat → Int32) (vv : Nat → Int32) (ov : Nat → Int32) (p1 : Int32) (p2 : Int32) (p3 : Int32) (res : Int32) (hq : F_X3_key cn cf p1 p2 p3 = some (.inr res)) : roC l yX3_key wsX3_key (rmF 3 69) G g [.ref (ad 0), .int p1, .int p2, .int p3] (wX g ad bd sc tl tat tb cn cf sn sf tn tf vv ov) (some (.int res)) := by
  refine roC.of (cc := cX3_key) (maxL := 5) (ret := (some .int)) (by decide) rfl (Nat.le_of_ble_eq_true rfl) ?_
  intro p e s m below meth c ls X K hP hl
  obtain ⟨hx, hb, hml, hr, hown, hts, hk⟩ := id X
  have hl : lv_has ls 5 [(0, .ref (ad 0)), (1, .int p1), (2, .int p2), (3, .int p3)] := hl
  unfold F_X3_key at hq
  refine lv_aload_n hx hb dX3_key_0 rfl (lv_at hl 0 rfl) ?_
  refine lv_iload_n hx hb dX3_key_1 rfl (lv_at hl 1 rfl) ?_
  obtain ⟨r1, hh2, hq⟩ := q_th hq
  refine roV (ci := 3) (As := [.int p1]) (rest := []) X K (k_X3_curveNumbered l G g ad bd sc tl tat tb cn cf sn sf tn tf vv ov p1 _ hh2) hd_X3_curveNumbered gX3_key_X3_curveNumbered hP hl.1 dX3_key_2 rfl rfl ⟨Nat.le_of_ble_eq_true rfl, Nat.le_of_ble_eq_true rfl⟩ rfl rfl rfl (Nat.le_of_ble_eq_true rfl) ⟨Nat.zero_le _, Nat.zero_le _⟩ ?_
  have lr1 := F_X3_curveNumbered_lt hh2
  refine lv_astore (lv' := [(4, .ref (cad ad r1)), (0, .ref (ad 0)), (1, .int p1), (2, .int p2), (3, .int p3)]) hx hb dX3_key_5 hl (by decide) rfl (fun ls hl => ?_)
  refine lv_iload_n hx hb dX3_key_7 rfl (lv_at hl 3 rfl) ?_
  refine lv_iconst (v := (-1)) hx hb dX3_key_8 (by decide) ?_
  refine lv_icmp_eq (tgt := 18) hx hb dX3_key_9 (by decide) (fun c3 => ?_) (fun c3 => ?_)
  · have hq := q_if_t hq c3
    exact w_X3_key_18 X K ad bd sc tl tat tb sn sf tn tf vv ov cn cf p2 p3 r1 lr1 hP _ hq ls (lv_sub hl [3, 4, 0] rfl)
  · have hq := q_if_f hq c3
    refine lv_aload hx hb dX3_key_12 (lv_at hl 0 rfl) ?_
    refine lv_iload_n hx hb dX3_key_14 rfl (lv_at hl 3 rfl) ?_
    obtain ⟨_, hh4, hq⟩ := q_th hq
    refine roS (As := [.ref (cad ad r1), .int p2]) (rest := []) X K (k_X3_requireKey l G g (cad ad r1) (aad ad r1) (cn r1) (cf r1) p2 _ hh4) hd_X3_requireKey gX3_key_X3_requireKey (sub_c lr1 hP) hl.1 dX3_key_15 rfl rfl ⟨Nat.le_of_ble_eq_true rfl, Nat.le_of_ble_eq_true rfl⟩ rfl (Nat.le_of_ble_eq_true rfl) ⟨Nat.zero_le _, Nat.zero_le _⟩ ?_
    exact w_X3_key_18 X K ad bd sc tl tat tb sn sf tn tf vv ov cn cf p2 p3 r1 lr1 hP _ hq ls (lv_sub hl [3, 4, 0] rfl)
theorem hd_X0_valueAt : ynm yX0_valueAt 1 := by unfold ynm; decide +kernel
def F_X3_value (cn : Nat → Int32) (cf : Nat → Nat → Int32) (p1 : Int32) (p2 : Int32) : Option (Sum Nat (Int32)) := thr (F_X3_curveNumbered p1) fun r1 => thr (F_X3_requireRange p2 0 999) fun _u => (F_X0_valueAt (cn r1) (cf r1) p2).bind fun r4 => some (.inr (r4))
set_option maxHeartbeats 4000000 in
set_option maxRecDepth 100000 in
theorem k_X3_value (l : Launch) (G : va_G) (g : Nat → ClassId) (ad : Nat → Nat) (bd : Nat → Nat → Nat) (sc : Int32) (tl : Int32) (tat : Int32) (tb : Nat → Int32) (cn : Nat → Int32) (cf : Nat → Nat → Int32) (sn : Nat → Nat → Int32) (sf : Nat → Nat → Nat → Int32) (tn : Int32) (tf : Nat → Int32) (vv : Nat → Int32) (ov : Nat → Int32) (p1 : Int32) (p2 : Int32) (res : Int32) (hq : F_X3_value cn cf p1 p2 = some (.inr res)) : roC l yX3_value wsX3_value (rmF 4 101) G g [.ref (ad 0), .int p1, .int p2] (wX g ad bd sc tl tat tb cn cf sn sf tn tf vv ov) (some (.int res)) := by
  refine roC.of (cc := cX3_value) (maxL := 4) (ret := (some .int)) (by decide) rfl (Nat.le_of_ble_eq_true rfl) ?_
  intro p e s m below meth c ls X K hP hl
  obtain ⟨hx, hb, hml, hr, hown, hts, hk⟩ := id X
  have hl : lv_has ls 4 [(0, .ref (ad 0)), (1, .int p1), (2, .int p2)] := hl
  unfold F_X3_value at hq
  refine lv_aload_n hx hb dX3_value_0 rfl (lv_at hl 0 rfl) ?_
  refine lv_iload_n hx hb dX3_value_1 rfl (lv_at hl 1 rfl) ?_
  obtain ⟨r1, hh2, hq⟩ := q_th hq
  refine roV (ci := 3) (As := [.int p1]) (rest := []) X K (k_X3_curveNumbered l G g ad bd sc tl tat tb cn cf sn sf tn tf vv ov p1 _ hh2) hd_X3_curveNumbered gX3_value_X3_curveNumbered hP hl.1 dX3_value_2 rfl rfl ⟨Nat.le_of_ble_eq_true rfl, Nat.le_of_ble_eq_true rfl⟩ rfl rfl rfl (Nat.le_of_ble_eq_true rfl) ⟨Nat.zero_le _, Nat.zero_le _⟩ ?_
  have lr1 := F_X3_curveNumbered_lt hh2
  refine lv_astore_n (lv' := [(3, .ref (cad ad r1)), (0, .ref (ad 0)), (1, .int p1), (2, .int p2)]) hx hb dX3_value_5 rfl hl (by decide) rfl (fun ls hl => ?_)
  refine lv_iload_n hx hb dX3_value_6 rfl (lv_at hl 3 rfl) ?_
  refine lv_iconst (v := 0) hx hb dX3_value_7 (by decide) ?_
  refine lv_sipush (v := 999) hx hb dX3_value_8 (by decide) ?_
  obtain ⟨_, hh3, hq⟩ := q_th hq
  refine roS (As := [.int p2, .int 0, .int 999]) (rest := []) X K (k_X3_requireRange l G g p2 0 999 _ hh3) hd_X3_requireRange gX3_value_X3_requireRange (va_P.none G) hl.1 dX3_value_11 rfl rfl ⟨Nat.le_of_ble_eq_true rfl, Nat.le_of_ble_eq_true rfl⟩ rfl (Nat.le_of_ble_eq_true rfl) ⟨Nat.zero_le _, Nat.zero_le _⟩ ?_
  refine lv_aload_n hx hb dX3_value_14 rfl (lv_at hl 0 rfl) ?_
  refine lv_iload_n hx hb dX3_value_15 rfl (lv_at hl 3 rfl) ?_
  obtain ⟨r4, hh5, hq⟩ := q_bd hq
  refine roN (ci := 0) (host := RX3) (As := [.int p2]) (rest := []) X K (k_X0_valueAt l G g (cad ad r1) (aad ad r1) (cn r1) (cf r1) p2 _ hh5) hd_X0_valueAt ggX3_value_X0_valueAt (by decide +kernel) (List.mem_of_getElem? (i := 15) rfl) (List.mem_of_getElem? (i := 14) rfl) (List.mem_of_getElem? (i := 16) rfl) (sub_c lr1 hP) hl.1 dX3_value_16 rfl rfl ⟨Nat.le_of_ble_eq_true rfl, Nat.le_of_ble_eq_true rfl⟩ rfl rfl rfl (Nat.le_of_ble_eq_true rfl) ⟨Nat.zero_le _, Nat.zero_le _⟩ ?_
  obtain rfl := q_ri hq
  exact ro_iret hx hb hr hk dX3_value_19

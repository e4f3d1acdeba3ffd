/-! ===== the law's own script, and its calls ===== -/
theorem hd_L_cell : ynm yL_cell 2 := by unfold ynm; decide +kernel
theorem hd_L_isSo : ynm yL_isSo 7 := by unfold ynm; decide +kernel
theorem hd_L_acts : ynm yL_acts 7 := by unfold ynm; decide +kernel
def ceP (b L : Nat) (xs : Nat → Int32) (k : Int32) : Array Value → State → Prop := va_Pc [.ref b, .int k] (fun U => va_X b L xs U U.heap ∧ b < U.heap.size)
theorem ceP.blind {b L : Nat} {xs : Nat → Int32} {k : Int32} : FrameBlind (ceP b L xs k) := fun _ _ _ _ q => ⟨q.1, q.2.1, q.2.2⟩
theorem k_L_cell (l : Launch) (b L : Nat) (xs : Nat → Int32) (hL : L ≤ 260) {k : Nat} (hk0 : k < 1000) : ∃ v, Met l yL_cell wsL_cell (rmF 0 0) (ceP b L xs (nI k)) (roQ (some (.int v))) 0 0 (fun _ => False) := by
  by_cases hkL : L ≤ k
  · refine ⟨40503 * (nI k + 3), ?_⟩
    refine Met.ofW (cc := cL_cell) (maxL := 2) (ret := some .int) (by decide) rfl ?_
    intro p e s m args below meth c s₁ B hml hv
    obtain ⟨rfl, hX, hbl⟩ := hv
    have hl := lv_entry [Value.ref b, .int (nI k)] (n := 2) (Nat.le_of_ble_eq_true rfl)
    rw [lg_entry_eq]
    have hx := B.exec
    have hb := B.bytes
    have hr := B.returns
    have hk := B.notSynchronized
    have hown := findClass_of_methodNamed B.named
    have hts := atoms_spec (ws := wsL_cell) B.pre
    have hS : va_S (fun q => s.heap.size ≤ q) s.heap s.heap [] := va_S.rf
    have hl : lv_has _ 2 [(0, .ref b), (1, .int (nI k))] := hl
    refine lv_iload_n hx hb dL_cell_0 rfl (lv_at hl 1 rfl) ?_
    refine lv_aload_n hx hb dL_cell_1 rfl (lv_at hl 0 rfl) ?_
    refine va_slen hx hb hX hbl (Nat.not_le.mpr hbl) hS dL_cell_2 ?_
    refine lv_icmp_ge (tgt := 12) hx hb dL_cell_3 (by decide) (fun _ => ?_) (fun h => absurd (show nI L ≤ nI k from (n_le (by omega) (by omega)).mpr hkL) h)
    refine lv_ldc (v := 40503) hx hb hown (hts _ (List.mem_of_getElem? (i := 1) rfl)) dL_cell_12 ?_
    refine lv_iload_n hx hb dL_cell_14 rfl (lv_at hl 1 rfl) ?_
    refine lv_iconst (v := 3) hx hb dL_cell_15 (by decide) ?_
    refine lv_iadd hx hb dL_cell_16 ?_
    refine lv_imul hx hb dL_cell_17 ?_
    exact ro_iret hx hb hr hk dL_cell_18
  · refine ⟨xs (nI k).toNatClampNeg, ?_⟩
    refine Met.ofW (cc := cL_cell) (maxL := 2) (ret := some .int) (by decide) rfl ?_
    intro p e s m args below meth c s₁ B hml hv
    obtain ⟨rfl, hX, hbl⟩ := hv
    have hl := lv_entry [Value.ref b, .int (nI k)] (n := 2) (Nat.le_of_ble_eq_true rfl)
    rw [lg_entry_eq]
    have hx := B.exec
    have hb := B.bytes
    have hr := B.returns
    have hk := B.notSynchronized
    have hS : va_S (fun q => s.heap.size ≤ q) s.heap s.heap [] := va_S.rf
    have hl : lv_has _ 2 [(0, .ref b), (1, .int (nI k))] := hl
    refine lv_iload_n hx hb dL_cell_0 rfl (lv_at hl 1 rfl) ?_
    refine lv_aload_n hx hb dL_cell_1 rfl (lv_at hl 0 rfl) ?_
    refine va_slen hx hb hX hbl (Nat.not_le.mpr hbl) hS dL_cell_2 ?_
    refine lv_icmp_ge (tgt := 12) hx hb dL_cell_3 (by decide) (fun h => absurd ((n_le (a := L) (by omega) (by omega)).mp h) hkL) (fun _ => ?_)
    refine lv_aload_n hx hb dL_cell_6 rfl (lv_at hl 0 rfl) ?_
    refine lv_iload_n hx hb dL_cell_7 rfl (lv_at hl 1 rfl) ?_
    refine va_sld (i := nI k) hx hb hX hbl (Nat.not_le.mpr hbl) hS (vp_in_iff.mpr (n_ix (by omega) (by omega))) dL_cell_8 ?_
    refine lv_goto (tgt := 18) hx hb dL_cell_9 (by decide) ?_
    exact ro_iret hx hb hr hk dL_cell_18
section MyRows8
variable {p : Program} {l : Launch} {e : Env} {R : Room} {s : State} {m : MethodId} {args : Array Value} {below : List Frame} {meth : Method} {c : Code} {H : Heap} {locs : List Loc} {cells slots : Nat} {Q : State → Prop} {pc : Nat} {ls : Array Slot}
variable {G : va_G} {g : Nat → ClassId} {A : Nat → Prop} {cc : ByteArray} {nL : Nat} {rt : Option FieldType} {own : String} {Ts : List Cond}
theorem va_X.mov {b L : Nat} {xs : Nat → Int32} {U : State} (hX : va_X b L xs s s.heap) (hbl : b < s.heap.size) (hS : va_S (fun q => s.heap.size ≤ q) s.heap H locs) (hU : U.heap = H) (hW : s.WarmedH U.vm) : va_X b L xs U U.heap ∧ b < U.heap.size := by
  obtain ⟨scr, h1, h2, h3, h4, h5⟩ := hX
  rw [hU]
  exact ⟨⟨scr, by rw [hS.2.1 b hbl (Nat.not_le.mpr hbl)]; exact h1, State.isArrayOf_alike hW.alike h2, h3, h4, h5⟩, Nat.lt_of_lt_of_le hbl hS.1⟩
theorem ceS (X : cx p s m args meth c cc nL rt own Ts) {b L : Nat} {xs : Nat → Int32} (hL : L ≤ 260) (hX : va_X b L xs s s.heap) (hbl : b < s.heap.size) (hS : va_S (fun q => s.heap.size ≤ q) s.heap H locs) {k index : Nat} (hk : k < 1000) {rest : List Value} (hT : GoodIn Ts (va_wsS own index yL_cell wsL_cell)) (hls : ls.size = nL) (hdg : decode cc pc = .ok (.invokestatic index, 3)) (hR : 0 + 1 ≤ R.frames ∧ 8 + (2 + 11) + 0 ≤ R.locals) (hsum : (rest.map fun v => v.category).sum ≤ 8) (hf : cells ≤ R.cells ∧ slots ≤ R.slots)
    (kk : ∀ v : Int32, W p l e R s m args below meth c H locs cells slots Q (F0 m (pc + 3) ls (.int v :: rest))) : W p l e R s m args below meth c H locs cells slots Q (F0 m pc ls (.int (nI k) :: .ref b :: rest)) := by
  obtain ⟨v, hM⟩ := k_L_cell l b L xs hL hk
  exact ro_go (v := some (.int v)) (va_runS (As := [.ref b, .int (nI k)]) (rest := rest) X.fix hM (va_cwS 2 X.2.2.2.2.2.1 hT rfl rfl rfl hd_L_cell hR) ⟨ceP.blind, fun U hU hW => ⟨rfl, va_X.mov hX hbl hS hU hW⟩⟩ rfl rfl hls rfl (lv_room hsum) hdg hf) (kk v)
theorem lxSN (X : cx p s m args meth c cc nL rt own Ts) (K : amb G g s) (hs : exS A s s.heap) (hnc : ncs s) {y : MethodName} {ws' wsy : List Cond} {fr lo n index maxL : Nat} {bytes : ByteArray} {ret : Option FieldType} {As rest st0 : List Value} {wc : va_W} {v : Option Value} {P1 : va_W → Prop}
    (hM : lxC l y wsy (rmX fr lo) G g As wc v P1) (hd : ynm y n) (hT : GoodIn Ts (va_wsS own index y wsy)) (hP : va_P G vwCl wc H) (hD : va_D A wc) (hS : va_S A s.heap H locs) (hA : ∀ q, s.heap.size ≤ q → A q) (hls : ls.size = nL) (hdg : decode cc pc = .ok (.invokestatic index, 3)) (hw : wsy = Cond.code y bytes maxL ret :: ws') (hn : As.length = n) (hR : fr + 1 ≤ R.frames ∧ 8 + (maxL + 11) + lo ≤ R.locals) (hst : st0 = As.reverse ++ rest) (hsum : (rest.map fun v => v.category).sum ≤ 8) (hf : cells + 1 ≤ R.cells ∧ slots + 6 ≤ R.slots)
    (kk : ∀ (w1 : va_W) (H1 : Heap) (locs1 : List Loc), P1 w1 → va_P G vwCl w1 H1 → va_D A w1 → va_S A s.heap H1 locs1 → W p l e R s m args below meth c H1 locs1 (cells + 1) (slots + 6) Q (F0 m (pc + 3) ls (v.toList ++ rest))) : W p l e R s m args below meth c H locs cells slots Q (F0 m pc ls st0) := by
  have hF := free_f hD (foc_ap (wr := []) (wc := wc) (w1 := wc)) hS hA
  have hr := va_runS (locs := locs) (cells := cells) (slots := slots) (g := F0 m pc ls st0) (rest := rest) (e := e) (below := below) (meth := meth) X.fix (hM H.size) (va_cwS n X.2.2.2.2.2.1 hT hw rfl rfl hd hR) ⟨lxP.blind, fun U hU hW => ⟨rfl, by rw [hU], by rw [hU]; exact hP, K.warm hW, hD.weaken (fun _ _ _ _ => trivial), hs.to hS hU hW hF, hnc.warm hW⟩⟩ rfl hn hls hst (lv_room hsum) hdg hf
  intro T9 hT9 X9
  obtain ⟨v', st₀, t, T', L, h0, X', hL, e1, e2, ⟨⟨hv, w1, hw1, hP1, hD1⟩, hz, hk⟩, st⟩ := hr T9 hT9 X9
  cases hv
  rw [h0] at hz hk
  rw [← e1] at hP1 hz hk
  obtain ⟨hP2, hD2⟩ := join_f hP hD (foc_ap (wr := []) (wc := wc) (w1 := w1)) hk hF hP1 hD1
  have hS2 : va_S A s.heap T'.heap (locs ++ L) := ⟨Nat.le_trans hS.1 hz, fun q h1 h2 => by rw [hk q (Nat.lt_of_lt_of_le h1 hS.1) (fun z => h2 (hF q z))]; exact hS.2.1 q h1 h2, fun q hq => by
      rcases List.mem_append.mp hq with h | h
      · exact hS.2.2 q h
      · exact hF _ (hL q h)⟩
  obtain ⟨t2, a1, b1⟩ := kk w1 T'.heap (locs ++ L) hw1 hP2 hD2 hS2 T' rfl X'
  exact ⟨t2, st t2 a1, b1⟩
end MyRows8

/-! ===== the law's start ===== -/
theorem ra_ac {s : State} {args : Array Value} {ty : FieldType} (h : (Cond.arrayClass ty).before args s = true) : ∃ cA, ArrOfT s cA ty ∧ s.vm.findClass ("[" ++ ty.toString) = some cA := by
  obtain ⟨c, k, comp, h1, h2, h3⟩ := Cond.arrayClass_spec h
  exact ⟨c, fun n z => ⟨fun k h => (by cases h), k, h2, comp, h3⟩, h1⟩
theorem ra_ov {s : State} {args : Array Value} {C : String} (h : (Cond.arrayOver (.object C)).before args s = true) : ∃ cA, ArrOfT s cA (.object C) ∧ va_RA s cA (.object C) := by
  obtain ⟨comp, c, k, h1, h2, h3, h4, h5⟩ := Cond.arrayOver_spec h
  exact ⟨c, fun n z => ⟨fun k h => (by cases h), k, h3, comp, h4⟩, k, comp, h3, h4, h1, h5⟩
theorem nsM_in : ∀ q ∈ nsM, Cond.methodLinkNest q.1 q.2.1 q.2.2.1 q.2.2.2 ∈ lw_tbl := by decide +kernel
theorem nsF_in : ∀ q ∈ nsF, Cond.fieldLinkNest q.1 q.2.1 q.2.2.1 q.2.2.2.1 q.2.2.2.2.1 q.2.2.2.2.2 ∈ lw_tbl := by decide +kernel
theorem dcl_in : ∀ x ∈ dclN, Cond.declares x ∈ lw_tbl := by decide +kernel
theorem cst_in : ∀ z ∈ cstN, Cond.castable z z ∈ lw_tbl := by decide +kernel
theorem str_in : ∀ q ∈ exStrs, Cond.stringRef RX3 q.1 q.2 ∈ lw_tbl := by decide +kernel
theorem law_env {s : State} {b : Nat} (hts : ∀ w ∈ lw_tbl, w.before #[Value.ref b] s = true) (hgv : (Jvm.Cond.and given_1 narrow_1).before #[Value.ref b] s = true) : ∃ (G : va_G) (g : Nat → ClassId), amb G g s ∧ aos s ∧ exS (fun q => s.heap.size ≤ q) s s.heap ∧ ncs s := by
  have hsl : ∀ w ∈ wsL_law, w.before #[Value.ref b] s = true := fun w h => hts w (wsL_law_in w h)
  have hfl := flat_of_before _ hgv
  obtain ⟨c0, i0, u0⟩ := u_known (n := 2) hsl inlX0 (hts _ (by decide +kernel))
  obtain ⟨c1, i1, u1⟩ := u_known (n := 3) hsl inlX1 (hts _ (by decide +kernel))
  obtain ⟨c2, i2, u2⟩ := u_known (n := 1) hsl inlX2 (hts _ (by decide +kernel))
  obtain ⟨c3, i3, u3⟩ := u_known (n := 7) hsl inlX3 (hts _ (by decide +kernel))
  obtain ⟨a0, r0, n0⟩ := ra_ac (ty := .int) (hts _ (by decide +kernel))
  obtain ⟨a1, r1, n1⟩ := ra_ac (ty := .byte) (hts _ (by decide +kernel))
  obtain ⟨a2, r2, n2⟩ := ra_ov (C := "EaseCurves$Curve") (hts _ (by decide +kernel))
  obtain ⟨a3, r3, n3⟩ := ra_ov (C := "EaseCurves$State") (hts _ (by decide +kernel))
  refine ⟨(lk [c0, c1, c2, c3], fun k => match k with | 0 => i0 | 1 => i1 | 2 => i2 | _ => i3), lk [a0, a1, a2, a3], ⟨⟨?_, ?_⟩, ?_, ?_⟩, ⟨va_AO.of (hts _ (by decide +kernel)), va_AO.of (hts _ (by decide +kernel))⟩, ⟨?_, ?_, ?_, ?_, ?_⟩, ?_⟩
  · intro k q hq
    rcases k with _ | _ | _ | _ | k
    · cases hq; exact u0
    · cases hq; exact u1
    · cases hq; exact u2
    · cases hq; exact u3
    · exact absurd (show (none : Option vw_C) = some q from hq) (by simp)
  · intro k q hq
    rcases k with _ | _ | _ | _ | k
    · cases hq; exact ⟨r0, n0⟩
    · cases hq; exact ⟨r1, n1⟩
    · cases hq; exact ⟨r2, n2⟩
    · cases hq; exact ⟨r3, n3⟩
    · exact absurd (show (none : Option (ClassId × FieldType)) = some q from hq) (by simp)
  · exact fun q hq => va_Nw.of rfl (hts _ (nsM_in q hq))
  · exact fun q hq => va_Nw.of rfl (hts _ (nsF_in q hq))
  · exact vx_Zqof (hts _ (by decide +kernel)) (hts _ (by decide +kernel)) (hfl _ (by decide +kernel)) (fun a h => Nat.not_le.mpr h)
  · exact vx_Zqof (hts _ (by decide +kernel)) (hts _ (by decide +kernel)) (hfl _ (by decide +kernel)) (fun a h => Nat.not_le.mpr h)
  · exact fun x hx => va_Nw.of rfl (hts _ (dcl_in x hx))
  · exact fun z hz => va_Nw.of rfl (hts _ (cst_in z hz))
  · intro q hq
    have h := hts _ (str_in q hq)
    obtain ⟨k, cf, i, a, h1, h2, h3, h4, h5, h6⟩ := Cond.stringRef_spec u3.2.1 h
    exact ⟨a, vk_R.of h h6⟩
  · have hin : ∀ q ∈ ncN, Cond.not (.castable (exN q.1) (exN q.2)) ∈ flatC (Jvm.Cond.and given_1 narrow_1) := by decide +kernel
    exact fun q hq => va_Nc.of (hfl _ (hin q hq))

/-! ===== a curve without a key: where its values can differ ===== -/
theorem del_lo {k i : Nat} {F : Nat → Int32} (h : i < 6 * k) : delS k F i = F i := it h
theorem del_hi {k i : Nat} {F : Nat → Int32} (h : 6 * k ≤ i) : delS k F i = F (i + 6) := if_ (show ¬ i < 6 * k by omega)
theorem tang_lo {n k j : Nat} {F : Nat → Int32} (h : j + 2 ≤ k) (hk : k < n) : tangS (n - 1) (delS k F) j = tangS n F j := by
  unfold tangS
  rw [del_lo (i := 6 * j + 3) (by omega), del_lo (i := 6 * j + 4) (by omega), del_lo (i := 6 * (j - 1) + 1) (by omega), del_lo (i := 6 * j + 1) (by omega), del_lo (i := 6 * (j + 1) + 1) (by omega), del_lo (i := 6 * (j + 1)) (by omega), del_lo (i := 6 * (j - 1)) (by omega), if_ (show ¬ j + 1 = n - 1 by omega), if_ (show ¬ j + 1 = n by omega)]
theorem tang_hi {n k j : Nat} {F : Nat → Int32} (h : k + 2 ≤ j) (hj : j < n) : tangS (n - 1) (delS k F) (j - 1) = tangS n F j := by
  obtain ⟨j, rfl⟩ : ∃ z, j = z + 1 := ⟨j - 1, by omega⟩
  rw [show j + 1 - 1 = j from rfl]
  unfold tangS
  rw [del_hi (i := 6 * j + 3) (by omega), del_hi (i := 6 * j + 4) (by omega), del_hi (i := 6 * (j - 1) + 1) (by omega), del_hi (i := 6 * j + 1) (by omega), del_hi (i := 6 * (j + 1) + 1) (by omega), del_hi (i := 6 * (j + 1)) (by omega), del_hi (i := 6 * (j - 1)) (by omega), if_ (show ¬ j = 0 by omega), if_ (show ¬ j + 1 = 0 by omega)]
  rw [show 6 * j + 3 + 6 = 6 * (j + 1) + 3 by omega, show 6 * j + 4 + 6 = 6 * (j + 1) + 4 by omega, show 6 * (j - 1) + 1 + 6 = 6 * (j + 1 - 1) + 1 by omega, show 6 * j + 1 + 6 = 6 * (j + 1) + 1 by omega, show 6 * (j + 1) + 1 + 6 = 6 * (j + 1 + 1) + 1 by omega, show 6 * (j + 1) + 6 = 6 * (j + 1 + 1) by omega, show 6 * (j - 1) + 6 = 6 * (j + 1 - 1) by omega]
  by_cases q : j + 1 = n - 1
  · rw [it q, it (show j + 1 + 1 = n by omega)]
  · rw [if_ q, if_ (show ¬ j + 1 + 1 = n by omega)]
theorem seg_lo {n k a : Nat} {F : Nat → Int32} (h : a + 3 ≤ k) (hk : k < n) (fr : Int32) : segS (n - 1) (delS k F) a fr = segS n F a fr := by
  unfold segS
  rw [tang_lo (by omega) hk, tang_lo (by omega) hk, del_lo (i := 6 * a) (by omega), del_lo (i := 6 * a + 1) (by omega), del_lo (i := 6 * a + 2) (by omega), del_lo (i := 6 * (a + 1)) (by omega), del_lo (i := 6 * (a + 1) + 1) (by omega)]
theorem seg_hi {n k a : Nat} {F : Nat → Int32} (h : k + 2 ≤ a) (ha : a + 1 < n) (fr : Int32) : segS (n - 1) (delS k F) (a - 1) fr = segS n F a fr := by
  have t1 := tang_hi (F := F) h (show a < n by omega)
  have t2 := tang_hi (F := F) (j := a + 1) (k := k) (n := n) (by omega) ha
  rw [show a + 1 - 1 = a from rfl] at t2
  obtain ⟨a, rfl⟩ : ∃ z, a = z + 1 := ⟨a - 1, by omega⟩
  rw [show a + 1 - 1 = a from rfl] at t1 ⊢
  unfold segS
  rw [t1, t2, del_hi (i := 6 * a) (by omega), del_hi (i := 6 * a + 1) (by omega), del_hi (i := 6 * a + 2) (by omega), del_hi (i := 6 * (a + 1)) (by omega), del_hi (i := 6 * (a + 1) + 1) (by omega)]
  rw [show 6 * a + 6 = 6 * (a + 1) by omega, show 6 * a + 1 + 6 = 6 * (a + 1) + 1 by omega, show 6 * a + 2 + 6 = 6 * (a + 1) + 2 by omega, show 6 * (a + 1) + 6 = 6 * (a + 1 + 1) by omega, show 6 * (a + 1) + 1 + 6 = 6 * (a + 1 + 1) + 1 by omega]
theorem del_fr {k j : Nat} {F : Nat → Int32} : delS k F (6 * j) = F (6 * (if j < k then j else j + 1)) := delS_key (w := 0) (by omega)
theorem val_lo {n k : Nat} {F : Nat → Int32} (hC : Cv n F) (h0 : 0 < k) (hk : k + 1 < n) {fr : Int32} (h : fr < F (6 * (k - 2))) : valS (n - 1) (delS k F) fr = valS n F fr := by
  obtain ⟨-, -, g3, g4⟩ := cntS_spec F fr n 0
  have hle := cnt_le (n := n) (F := F) (fr := fr)
  have hp : cnt n F fr ≤ k - 2 := by
    rcases Nat.lt_or_ge (k - 2) (cnt n F fr) with q | q
    · have := g3 (k - 2) (Nat.zero_le _) q
      rw [fa_le] at this
      rw [fa_lt] at h
      omega
    · exact q
  have e : cnt (n - 1) (delS k F) fr = cnt n F fr := by
    refine cnt_uq (by omega) (fun j hj => ?_) (fun _ => ?_)
    · rw [del_lo (by omega)]
      exact g3 j (Nat.zero_le _) hj
    · rw [del_lo (by omega)]
      exact g4 (by show cnt n F fr < 0 + n; omega)
  unfold valS
  rw [e]
  cases hc : cnt n F fr with
  | zero =>
    dsimp only
    rw [if_ (by omega), if_ (by omega), del_lo (by omega)]
  | succ a =>
    dsimp only
    rw [if_ (by omega), if_ (by omega), seg_lo (by omega) (by omega)]
theorem val_hi {n k q : Nat} {F : Nat → Int32} (hC : Cv n F) (h0 : 0 < k) (hk : k + 1 < n) (hq : q = if n - 1 < k + 2 then n - 1 else k + 2) {fr : Int32} (h : F (6 * q) ≤ fr) : valS (n - 1) (delS k F) fr = valS n F fr := by
  obtain ⟨-, -, g3, g4⟩ := cntS_spec F fr n 0
  have hle := cnt_le (n := n) (F := F) (fr := fr)
  have hq1 : k + 1 ≤ q := by rw [hq]; split <;> omega
  have hq2 : q < n := by rw [hq]; split <;> omega
  have hp : q < cnt n F fr := by
    rcases Nat.lt_or_ge q (cnt n F fr) with z | z
    · exact z
    · have a := g4 (by show cnt n F fr < 0 + n; omega)
      rw [fa_lt] at a
      rw [fa_le] at h
      rcases Nat.lt_or_ge (cnt n F fr) q with y | y
      · have := hC.2.2 _ q y hq2
        exact absurd (Int.lt_trans a this) (by omega)
      · have : q = cnt n F fr := by omega
        rw [← show q = cntS F fr n 0 from this] at a
        omega
  have e : cnt (n - 1) (delS k F) fr = cnt n F fr - 1 := by
    refine cnt_uq (by omega) (fun j hj => ?_) (fun hj => ?_)
    · rw [del_fr]
      exact g3 _ (Nat.zero_le _) (by show _ < cnt n F fr; split <;> omega)
    · rw [del_fr, if_ (by omega), show cnt n F fr - 1 + 1 = cnt n F fr by omega]
      exact g4 (by show cnt n F fr < 0 + n; omega)
  unfold valS
  rw [e]
  obtain ⟨a, ha⟩ : ∃ a, cnt n F fr = a + 2 := ⟨cnt n F fr - 2, by omega⟩
  rw [ha, show a + 2 - 1 = a + 1 from rfl]
  dsimp only
  by_cases z : a + 2 = n
  · rw [it (show a + 1 = n - 1 by omega), it (show a + 1 + 1 = n by omega), del_hi (by omega), show 6 * a + 1 + 6 = 6 * (a + 1) + 1 by omega]
  · have : q = k + 2 := by rw [hq, if_]; intro y; rw [it y] at hq; omega
    rw [if_ (show ¬ a + 1 = n - 1 by omega), if_ (show ¬ a + 1 + 1 = n by omega)]
    have := seg_hi (F := F) (k := k) (n := n) (a := a + 1) (by omega) (by omega) fr
    rw [show a + 1 - 1 = a from rfl] at this
    exact this

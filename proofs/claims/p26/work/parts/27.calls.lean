/-! the pure part: find, claim, tell, drop, set, weeks: the class and the model -/
section Ops1
abbrev okv (lo x : Int) : Prop := lo ≤ x ∧ x ≤ 9
abbrev ok4 (lo a b c d : Int) : Prop := okv lo a ∧ okv lo b ∧ okv lo c ∧ okv lo d
theorem p_isV {x : Int} {h : Hp} : f_X4_isValue x h = some (if okv 0 x then 1 else 0, h) := by
  unfold f_X4_isValue okv
  by_cases c1 : x < 0
  · simp (disch := omega) only [if_pos, if_neg]
  by_cases c2 : 10 ≤ x
  · simp (disch := omega) only [if_pos, if_neg]
  · simp (disch := omega) only [if_pos, if_neg]
theorem p_isN {x : Int} {h : Hp} : f_X4_isValueOrNotTold x h = some (if okv (-1) x then 1 else 0, h) := by
  unfold f_X4_isValueOrNotTold
  rw [p_isV, bd_s]
  unfold okv
  by_cases c1 : x = -1
  · simp (disch := omega) only [if_pos]
  by_cases c2 : 0 ≤ x ∧ x ≤ 9
  · rw [if_neg c1, if_pos c2, if_neg (by decide), if_pos (by omega)]
  · rw [if_neg c1, if_neg c2, if_pos rfl, if_neg (by omega)]
theorem p_isD {x : Int} {h : Hp} : f_X4_isDetail x h = some (if 0 ≤ x ∧ x ≤ 3 then 1 else 0, h) := by
  unfold f_X4_isDetail
  by_cases c1 : x < 0
  · simp (disch := omega) only [if_pos, if_neg]
  by_cases c2 : 4 ≤ x
  · simp (disch := omega) only [if_pos, if_neg]
  · simp (disch := omega) only [if_pos, if_neg]
theorem p_isW {x : Int} {h : Hp} : f_X4_isWeeksAtOnce x h = some (if 1 ≤ x ∧ x ≤ 20 then 1 else 0, h) := by
  unfold f_X4_isWeeksAtOnce
  by_cases c1 : x < 1
  · simp (disch := omega) only [if_pos, if_neg]
  by_cases c2 : 20 < x
  · simp (disch := omega) only [if_pos, if_neg]
  · simp (disch := omega) only [if_pos, if_neg]
theorem p_are {lo a b c d : Int} {h : Hp} : f_X5_areValues lo a b c d h = some (if ok4 lo a b c d then 1 else 0, h) := by
  unfold f_X5_areValues
  by_cases c1 : okv lo a
  · rw [p_in, bd_s, if_pos c1, if_neg (by decide)]
    by_cases c2 : okv lo b
    · rw [p_in, bd_s, if_pos c2, if_neg (by decide)]
      by_cases c3 : okv lo c
      · rw [p_in, bd_s, if_pos c3, if_neg (by decide)]
        by_cases c4 : okv lo d
        · rw [p_in, bd_s, if_pos c4, if_neg (by decide), if_pos ⟨c1, c2, c3, c4⟩]
        · rw [p_in, bd_s, if_neg c4, if_pos rfl, if_neg (fun q => c4 q.2.2.2)]
      · rw [p_in, bd_s, if_neg c3, if_pos rfl, if_neg (fun q => c3 q.2.2.1)]
    · rw [p_in, bd_s, if_neg c2, if_pos rfl, if_neg (fun q => c2 q.2.1)]
  · rw [p_in, bd_s, if_neg c1, if_pos rfl, if_neg (fun q => c1 q.1)]
/-- an umbrella, a claim more -/
def sapU (s : Rw) (a b c d : Int) : Rw := fun k => if k = 15 then s 15 + 1 else if k = 18 + 5 * (s 15).toNat then a else if k = 18 + 5 * (s 15).toNat + 1 then b else if k = 18 + 5 * (s 15).toNat + 2 then c else if k = 18 + 5 * (s 15).toNat + 3 then d else if k = 18 + 5 * (s 15).toNat + 4 then 0 else s k
def sapC (s : Rw) (a b c d : Int) : Rw := fun k => if k = 16 then s 16 + 1 else if k = 78 + 6 * (s 16).toNat then a else if k = 78 + 6 * (s 16).toNat + 1 then b else if k = 78 + 6 * (s 16).toNat + 2 then c else if k = 78 + 6 * (s 16).toNat + 3 then d else if k = 78 + 6 * (s 16).toNat + 4 then 0 else if k = 78 + 6 * (s 16).toNat + 5 then 0 else s k
theorem sapU_far {s : Rw} {a b c d : Int} {k : Nat} (hn : s 15 ≤ 11) (k1 : k ≠ 15) (k2 : k < 18 ∨ 78 ≤ k) : sapU s a b c d k = s k := by
  unfold sapU
  simp (disch := omega) only [if_neg]
theorem sapC_far {s : Rw} {a b c d : Int} {k : Nat} (hn : s 16 ≤ 11) (k1 : k ≠ 16) (k2 : k < 78 ∨ 150 ≤ k) : sapC s a b c d k = s k := by
  unfold sapC
  simp (disch := omega) only [if_neg]
theorem c_apU {h : Hp} {o : Nat} {s : Rw} {a b c d : Int} (R : SR h o s) (hV : Vn s) (hn : s 15 ≤ 11) : ∃ h', f_X2_append (o + 1) a b c d h = some (s 15, h') ∧ SR h' o (sapU s a b c d) ∧ FrO o h h' := by
  obtain ⟨r1, r2, r3, r4, r5⟩ := R
  obtain ⟨v1, v2, v3⟩ := hV
  have far : ∀ x, ¬ x = o + 1 → ¬ x = o + 1 + 1 → (hup (hup (hup (hup (hup (hup (hup h (o + 1 + 1) (h (o + 1) 1 * 6).toNat a) (o + 1 + 1) (h (o + 1) 1 * 6 + 1).toNat b) (o + 1 + 1) (h (o + 1) 1 * 6 + 2).toNat c) (o + 1 + 1) (h (o + 1) 1 * 6 + 3).toNat d) (o + 1 + 1) (h (o + 1) 1 * 6 + 4).toNat 0) (o + 1 + 1) (h (o + 1) 1 * 6 + 5).toNat 0) (o + 1) 1 (h (o + 1) 1 + 1)) x = h x := fun x q2 q3 => by
    rw [row_hup q2, row_hup q3, row_hup q3, row_hup q3, row_hup q3, row_hup q3, row_hup q3]
  rw [p_append (by rw [r1.1]; exact v1.1) (by rw [r1.1]; omega), r1.1]
  rw [r1.1] at far
  refine ⟨_, rfl, ⟨?_, ?_, ?_, ?_, ?_⟩, ?_⟩
  · have e15 : sapU s a b c d 15 = s 15 + 1 := by unfold sapU; rw [if_pos rfl]
    refine ⟨?_, fun i j hi hj => ?_⟩
    · rw [hup_same, e15]
    · rw [e15] at hi
      rw [row_hup (by omega)]
      by_cases ci : (i : Int) = s 15
      · rcases (show j = 0 ∨ j = 1 ∨ j = 2 ∨ j = 3 ∨ j = 4 by omega) with rfl | rfl | rfl | rfl | rfl
        · rw [hup_far (by omega), hup_far (by omega), hup_far (by omega), hup_far (by omega), hup_far (by omega), hup_eq ⟨rfl, by omega⟩]
          unfold sapU
          rw [if_neg (by omega), if_pos (by omega)]
        · rw [hup_far (by omega), hup_far (by omega), hup_far (by omega), hup_far (by omega), hup_eq ⟨rfl, by omega⟩]
          unfold sapU
          rw [if_neg (by omega), if_neg (by omega), if_pos (by omega)]
        · rw [hup_far (by omega), hup_far (by omega), hup_far (by omega), hup_eq ⟨rfl, by omega⟩]
          unfold sapU
          rw [if_neg (by omega), if_neg (by omega), if_neg (by omega), if_pos (by omega)]
        · rw [hup_far (by omega), hup_far (by omega), hup_eq ⟨rfl, by omega⟩]
          unfold sapU
          rw [if_neg (by omega), if_neg (by omega), if_neg (by omega), if_neg (by omega), if_pos (by omega)]
        · rw [hup_far (by omega), hup_eq ⟨rfl, by omega⟩]
          unfold sapU
          rw [if_neg (by omega), if_neg (by omega), if_neg (by omega), if_neg (by omega), if_neg (by omega), if_pos (by omega)]
      · rw [hup_far (by omega), hup_far (by omega), hup_far (by omega), hup_far (by omega), hup_far (by omega), hup_far (by omega)]
        unfold sapU
        rw [if_neg (by omega), if_neg (by omega), if_neg (by omega), if_neg (by omega), if_neg (by omega), if_neg (by omega)]
        exact r1.2 i j (by omega) hj
  · exact r2.congr (by rw [far _ (by omega) (by omega)]) (far _ (by omega) (by omega)) (sapU_far hn (by decide) (by decide)) v2.2 (fun k q1 q2 => sapU_far hn (by omega) (by omega))
  · exact r3.congr (by rw [far _ (by omega) (by omega)]) (far _ (by omega) (by omega)) (sapU_far hn (by decide) (by decide)) v3.2 (fun k q1 q2 => sapU_far hn (by omega) (by omega))
  · exact r4.congr (far _ (by omega) (by omega)) (fun k q1 q2 => sapU_far hn (by omega) (by omega))
  · exact r5.congr (far _ (by omega) (by omega)) (fun k q1 => sapU_far hn (by omega) (by omega))
  · intro x hx
    exact far x (by omega) (by omega)
theorem c_apC {h : Hp} {o : Nat} {s : Rw} {a b c d : Int} (R : SR h o s) (hV : Vn s) (hn : s 16 ≤ 11) : ∃ h', f_X2_append (o + 3) a b c d h = some (s 16, h') ∧ SR h' o (sapC s a b c d) ∧ FrO o h h' := by
  obtain ⟨r1, r2, r3, r4, r5⟩ := R
  obtain ⟨v1, v2, v3⟩ := hV
  have far : ∀ x, ¬ x = o + 3 → ¬ x = o + 3 + 1 → (hup (hup (hup (hup (hup (hup (hup h (o + 3 + 1) (h (o + 3) 1 * 6).toNat a) (o + 3 + 1) (h (o + 3) 1 * 6 + 1).toNat b) (o + 3 + 1) (h (o + 3) 1 * 6 + 2).toNat c) (o + 3 + 1) (h (o + 3) 1 * 6 + 3).toNat d) (o + 3 + 1) (h (o + 3) 1 * 6 + 4).toNat 0) (o + 3 + 1) (h (o + 3) 1 * 6 + 5).toNat 0) (o + 3) 1 (h (o + 3) 1 + 1)) x = h x := fun x q2 q3 => by
    rw [row_hup q2, row_hup q3, row_hup q3, row_hup q3, row_hup q3, row_hup q3, row_hup q3]
  rw [p_append (by rw [r2.1]; exact v2.1) (by rw [r2.1]; omega), r2.1]
  rw [r2.1] at far
  refine ⟨_, rfl, ⟨?_, ?_, ?_, ?_, ?_⟩, ?_⟩
  · exact r1.congr (by rw [far _ (by omega) (by omega)]) (far _ (by omega) (by omega)) (sapC_far hn (by decide) (by decide)) v1.2 (fun k q1 q2 => sapC_far hn (by omega) (by omega))
  · have e16 : sapC s a b c d 16 = s 16 + 1 := by unfold sapC; rw [if_pos rfl]
    refine ⟨?_, fun i j hi hj => ?_⟩
    · rw [hup_same, e16]
    · rw [e16] at hi
      rw [row_hup (by omega)]
      by_cases ci : (i : Int) = s 16
      · rcases (show j = 0 ∨ j = 1 ∨ j = 2 ∨ j = 3 ∨ j = 4 ∨ j = 5 by omega) with rfl | rfl | rfl | rfl | rfl | rfl
        · rw [hup_far (by omega), hup_far (by omega), hup_far (by omega), hup_far (by omega), hup_far (by omega), hup_eq ⟨rfl, by omega⟩]
          unfold sapC
          rw [if_neg (by omega), if_pos (by omega)]
        · rw [hup_far (by omega), hup_far (by omega), hup_far (by omega), hup_far (by omega), hup_eq ⟨rfl, by omega⟩]
          unfold sapC
          rw [if_neg (by omega), if_neg (by omega), if_pos (by omega)]
        · rw [hup_far (by omega), hup_far (by omega), hup_far (by omega), hup_eq ⟨rfl, by omega⟩]
          unfold sapC
          rw [if_neg (by omega), if_neg (by omega), if_neg (by omega), if_pos (by omega)]
        · rw [hup_far (by omega), hup_far (by omega), hup_eq ⟨rfl, by omega⟩]
          unfold sapC
          rw [if_neg (by omega), if_neg (by omega), if_neg (by omega), if_neg (by omega), if_pos (by omega)]
        · rw [hup_far (by omega), hup_eq ⟨rfl, by omega⟩]
          unfold sapC
          rw [if_neg (by omega), if_neg (by omega), if_neg (by omega), if_neg (by omega), if_neg (by omega), if_pos (by omega)]
        · rw [hup_eq ⟨rfl, by omega⟩]
          unfold sapC
          rw [if_neg (by omega), if_neg (by omega), if_neg (by omega), if_neg (by omega), if_neg (by omega), if_neg (by omega), if_pos (by omega)]
      · rw [hup_far (by omega), hup_far (by omega), hup_far (by omega), hup_far (by omega), hup_far (by omega), hup_far (by omega)]
        unfold sapC
        rw [if_neg (by omega), if_neg (by omega), if_neg (by omega), if_neg (by omega), if_neg (by omega), if_neg (by omega), if_neg (by omega)]
        exact r2.2 i j (by omega) hj
  · exact r3.congr (by rw [far _ (by omega) (by omega)]) (far _ (by omega) (by omega)) (sapC_far hn (by decide) (by decide)) v3.2 (fun k q1 q2 => sapC_far hn (by omega) (by omega))
  · exact r4.congr (far _ (by omega) (by omega)) (fun k q1 q2 => sapC_far hn (by omega) (by omega))
  · exact r5.congr (far _ (by omega) (by omega)) (fun k q1 => sapC_far hn (by omega) (by omega))
  · intro x hx
    exact far x (by omega) (by omega)
theorem c_find_bad {o : Nat} {h : Hp} {a b c d : Int} (q : ¬ ok4 0 a b c d) : f_X1_takeUmbrella o a b c d h = some (-1000001, h) := by
  unfold f_X1_takeUmbrella
  by_cases c1 : okv 0 a
  · rw [p_isV, bd_s, if_pos c1, if_neg (by decide)]
    by_cases c2 : okv 0 b
    · rw [p_isV, bd_s, if_pos c2, if_neg (by decide)]
      by_cases c3 : okv 0 c
      · rw [p_isV, bd_s, if_pos c3, if_neg (by decide), p_isV, bd_s, if_neg (fun c4 => q ⟨c1, c2, c3, c4⟩), if_neg (by decide)]
      · rw [p_isV, bd_s, if_neg c3, if_pos rfl]
    · rw [p_isV, bd_s, if_neg c2, if_pos rfl]
  · rw [p_isV, bd_s, if_neg c1, if_pos rfl]
theorem c_find_ok {o : Nat} {h : Hp} {a b c d : Int} (q : ok4 0 a b c d) : f_X1_takeUmbrella o a b c d h = if h (o + 1) 1 < 12 then bd (f_X1_addTo o 5 1 h) fun _ h5 => bd (f_X2_append (o + 1) a b c d h5) fun r6 h6 => some (r6, h6) else some (-1000003, h) := by
  unfold f_X1_takeUmbrella
  rw [p_isV, bd_s, if_pos q.1, if_neg (by decide), p_isV, bd_s, if_pos q.2.1, if_neg (by decide), p_isV, bd_s, if_pos q.2.2.1, if_neg (by decide), p_isV, bd_s, if_pos q.2.2.2, if_pos (by decide)]
theorem c_claim_bad {o : Nat} {h : Hp} {a b c d : Int} (q : ¬ ok4 (-1) a b c d) : f_X1_takeClaim o a b c d h = some (-1000001, h) := by
  unfold f_X1_takeClaim
  by_cases c1 : okv (-1) a
  · rw [p_isN, bd_s, if_pos c1, if_neg (by decide)]
    by_cases c2 : okv (-1) b
    · rw [p_isN, bd_s, if_pos c2, if_neg (by decide)]
      by_cases c3 : okv (-1) c
      · rw [p_isN, bd_s, if_pos c3, if_neg (by decide), p_isN, bd_s, if_neg (fun c4 => q ⟨c1, c2, c3, c4⟩), if_neg (by decide)]
      · rw [p_isN, bd_s, if_neg c3, if_pos rfl]
    · rw [p_isN, bd_s, if_neg c2, if_pos rfl]
  · rw [p_isN, bd_s, if_neg c1, if_pos rfl]
theorem c_claim_ok {o : Nat} {h : Hp} {a b c d : Int} (q : ok4 (-1) a b c d) : f_X1_takeClaim o a b c d h = if a = -1 ∧ b = -1 ∧ c = -1 ∧ d = -1 then some (-1000002, h) else if h (o + 3) 1 < 12 then bd (f_X1_addTo o 6 1 h) fun _ h5 => bd (f_X2_append (o + 3) a b c d h5) fun r6 h6 => some (r6, h6) else some (-1000003, h) := by
  unfold f_X1_takeClaim
  rw [p_isN, bd_s, if_pos q.1, if_neg (by decide), p_isN, bd_s, if_pos q.2.1, if_neg (by decide), p_isN, bd_s, if_pos q.2.2.1, if_neg (by decide), p_isN, bd_s, if_pos q.2.2.2, if_pos (by decide)]
  unfold f_X1_takeClaim_J28
  by_cases c1 : a = -1
  · rw [if_neg (not_not_intro c1)]
    by_cases c2 : b = -1
    · rw [if_neg (not_not_intro c2)]
      by_cases c3 : c = -1
      · rw [if_neg (not_not_intro c3)]
        by_cases c4 : d = -1
        · rw [if_neg (not_not_intro c4), if_pos ⟨c1, c2, c3, c4⟩]
        · rw [if_pos c4, if_neg (show ¬ (a = -1 ∧ b = -1 ∧ c = -1 ∧ d = -1) from fun w => c4 w.2.2.2)]
      · rw [if_pos c3, if_neg (show ¬ (a = -1 ∧ b = -1 ∧ c = -1 ∧ d = -1) from fun w => c3 w.2.2.1)]
    · rw [if_pos c2, if_neg (show ¬ (a = -1 ∧ b = -1 ∧ c = -1 ∧ d = -1) from fun w => c2 w.2.1)]
  · rw [if_pos c1, if_neg (show ¬ (a = -1 ∧ b = -1 ∧ c = -1 ∧ d = -1) from fun w => c1 w.1)]
end Ops1

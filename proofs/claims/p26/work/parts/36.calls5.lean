/-! the pure part: type, clearText, book, as calls -/
section Calls5
theorem k_book {N i c : Int} {hC hM : Hp} (hi : i ≤ 2147483647) (R : Rel N hC hM) : Call N N hC hM (f_X4_book i c hC) (f_X5_book i c hM) := by
  have R' := R
  obtain ⟨n, r1, r2, r3, r4, r5, r6, r7, r8⟩ := R'
  have same : ∀ r, Call N N hC hM (some (r, hC)) (some (r, hM)) := fun r => ⟨r, hC, hM, rfl, rfl, R, fun a ha => rfl, fun a ha => rfl⟩
  have v := r6.1.2.2
  have e17 : hC 6 1 = hM 77 17 := by
    have := r5.2.2.1.1
    rw [this]
    show hM 77 (0 + 17) = _
    rfl
  have g17 : gsl (hM 77) 0 17 = hM 77 17 := by
    show hM 77 (0 + 17) = _
    rfl
  rw [g17] at v
  unfold f_X4_book f_X5_book
  rw [e17]
  by_cases c1 : i < 0
  · rw [if_pos c1, if_pos c1]
    exact same _
  rw [if_neg c1, if_neg c1, p_in, bd_s]
  by_cases c2 : c < 0
  · rw [if_pos c2, if_neg (show ¬ (0 ≤ c ∧ c ≤ 3) by omega), if_neg (by decide)]
    exact same _
  rw [if_neg c2]
  by_cases c3 : c < 4
  · rw [if_pos c3, if_pos (show 0 ≤ c ∧ c ≤ 3 by omega), if_pos (by decide), if_pos (by unfold inb; omega)]
    unfold lv
    dsimp only
    rw [show hM 77 (Int.toNat 17) = hM 77 17 from rfl, wr_id (z := hM 77 17 - 1) (by omega) (by omega), wr_id (z := hM 77 17 - 1 - i) (by omega) (by omega)]
    by_cases c4 : hM 77 17 ≤ i
    · rw [if_neg (by omega), if_pos c4]
      exact same _
    · rw [if_pos (by omega), if_neg c4, if_pos (by unfold inb; omega), wr_id (z := 4 * (hM 77 17 - 1 - i)) (by omega) (by omega), wr_id (z := 150 + 4 * (hM 77 17 - 1 - i)) (by omega) (by omega), wr_id (by omega) (by omega), if_pos (by unfold inb; omega)]
      rw [p_cell (by rw [e17]; omega), bd_s, e17, if_pos (by omega)]
      have := r5.2.2.1.2 (hM 77 17 - 1 - i).toNat c.toNat (by rw [g17]; omega) (by omega)
      rw [show ((hM 77 17 - 1 - i) * 6 + c).toNat = 6 * (hM 77 17 - 1 - i).toNat + c.toNat by omega]
      rw [show hC (6 + 1) (6 * (hM 77 17 - 1 - i).toNat + c.toNat) = gsl (hM 77) 0 (150 + 4 * (hM 77 17 - 1 - i).toNat + c.toNat) from this]
      rw [show (150 + 4 * (hM 77 17 - 1 - i) + c).toNat = 0 + (150 + 4 * (hM 77 17 - 1 - i).toNat + c.toNat) by omega]
      exact same _
  · rw [if_neg c3, if_neg (show ¬ (0 ≤ c ∧ c ≤ 3) by omega), if_neg (by decide)]
    exact same _
end Calls5

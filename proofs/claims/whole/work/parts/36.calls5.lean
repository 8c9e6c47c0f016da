/-! the pure part: type, clearText, book, as calls -/
section Calls5
theorem k_type {N x : Int} {hC hM : Hp} (R : Rel N hC hM) : Call N N hC hM (f_X4_type x hC) (f_X5_type x hM) := by
  have R' := R
  obtain ⟨n, r1, r2, r3, r4, r5, r6, r7, t1, t2, t3, t4⟩ := R'
  unfold f_X4_type f_X5_type
  rw [p_in, bd_s]
  by_cases c1 : x < 32
  · rw [if_pos c1, if_neg (show ¬ (32 ≤ x ∧ x ≤ 126) by omega), if_neg (by decide)]
    exact ⟨_, _, _, rfl, rfl, R, fun a ha => rfl, fun a ha => rfl⟩
  by_cases c2 : x ≤ 126
  · rw [if_neg c1, if_pos c2, if_pos (show 32 ≤ x ∧ x ≤ 126 by omega), if_pos (show isC x by unfold isC; omega), if_pos (by decide)]
    unfold f_X3_append
    rw [t1, if_neg (by omega)]
    by_cases c3 : hM 76 3 = 60
    · rw [if_neg (by omega), bd_s, if_pos rfl, if_neg (by omega)]
      exact ⟨_, _, _, rfl, rfl, R, fun a ha => rfl, fun a ha => rfl⟩
    · have ib : inb (hM 76 3) 60 := by unfold inb; omega
      rw [if_pos (by omega), if_pos ⟨ib, by unfold isC; omega⟩, if_pos c3, if_pos ib]
      unfold lt
      dsimp only
      have eC : hup hC 29 (hM 76 3).toNat x 28 1 = hM 76 3 := by
        rw [hup_far (by omega)]
        exact t1
      have eM : hup hM 78 (hM 76 3).toNat x 76 3 = hM 76 3 := hup_far (by omega)
      rw [eC, eM, wr_id (by omega) (by omega), bd_s, if_neg (by omega), hup_same, hup_same]
      have fc : ∀ a, a ≠ 28 → a ≠ 29 → hup (hup hC 29 (hM 76 3).toNat x) 28 1 (hM 76 3 + 1) a = hC a := fun a p1 p2 => by
        rw [row_hup p1, row_hup p2]
      have fm : ∀ a, a ≠ 76 → a ≠ 78 → hup (hup hM 78 (hM 76 3).toNat x) 76 3 (hM 76 3 + 1) a = hM a := fun a p1 p2 => by
        rw [row_hup p1, row_hup p2]
      refine ⟨_, _, _, rfl, rfl, ⟨n, r1, ?_, ?_, ?_, ?_, ?_, ?_, ?_, ?_, ?_, ?_⟩, fun a ha => fc a (by omega) (by omega), fun a ha => fm a (by omega) (by omega)⟩
      · rw [fc 0 (by omega) (by omega)]; exact r2
      · rw [hup_far (by omega), row_hup (by omega)]; exact r3
      · rw [fc 27 (by omega) (by omega)]; exact r4
      · rw [fm 77 (by omega) (by omega)]
        exact r5.rows (fun a _ _ => fc a (by omega) (by omega))
      · rw [fm 77 (by omega) (by omega)]; exact r6
      · intro j j1 j2
        have io := r4.1 (j - 1) (by omega)
        rw [fm 77 (by omega) (by omega), fc 27 (by omega) (by omega)]
        exact ⟨(r7 j j1 j2).1.rows (fun a _ _ => fc a (by unfold IO at io; omega) (by unfold IO at io; omega)), (r7 j j1 j2).2⟩
      · rw [hup_same, hup_same]
      · rw [hup_same]; omega
      · rw [hup_same]; omega
      · intro k hk
        rw [hup_same] at hk
        rw [hup_far (i := 28) (by omega), hup_far (i := 76) (by omega)]
        by_cases c : k = (hM 76 3).toNat
        · rw [hup_eq ⟨rfl, c⟩, hup_eq ⟨rfl, c⟩]
          exact ⟨rfl, by omega, by omega⟩
        · rw [hup_far (by omega), hup_far (by omega)]
          exact t4 k (by omega)
  · rw [if_neg c1, if_neg c2, if_neg (show ¬ (32 ≤ x ∧ x ≤ 126) by omega), if_neg (by decide)]
    exact ⟨_, _, _, rfl, rfl, R, fun a ha => rfl, fun a ha => rfl⟩
theorem k_clear {N : Int} {hC hM : Hp} (R : Rel N hC hM) : Call N N hC hM (f_X4_clearText hC) (f_X5_clearText hM) := by
  have R' := R
  obtain ⟨n, r1, r2, r3, r4, r5, r6, r7, t1, t2, t3, t4⟩ := R'
  unfold f_X4_clearText f_X5_clearText
  unfold lv lt
  dsimp only
  rw [t1]
  have fc : ∀ a, a ≠ 28 → hup hC 28 1 0 a = hC a := fun a p1 => row_hup p1
  have fm : ∀ a, a ≠ 76 → hup hM 76 3 0 a = hM a := fun a p1 => row_hup p1
  refine ⟨_, _, _, rfl, rfl, ⟨n, r1, ?_, ?_, ?_, ?_, ?_, ?_, ?_, ?_, ?_, ?_⟩, fun a ha => fc a (by omega), fun a ha => fm a (by omega)⟩
  · rw [fc 0 (by omega)]; exact r2
  · rw [hup_far (by omega)]; exact r3
  · rw [fc 27 (by omega)]; exact r4
  · rw [fm 77 (by omega)]
    exact r5.rows (fun a _ _ => fc a (by omega))
  · rw [fm 77 (by omega)]; exact r6
  · intro j j1 j2
    have io := r4.1 (j - 1) (by omega)
    rw [fm 77 (by omega), fc 27 (by omega)]
    exact ⟨(r7 j j1 j2).1.rows (fun a _ _ => fc a (by unfold IO at io; omega)), (r7 j j1 j2).2⟩
  · rw [hup_same, hup_same]
  · rw [hup_same]; omega
  · rw [hup_same]; omega
  · intro k hk
    rw [hup_same] at hk
    omega
theorem k_book {N i c : Int} {hC hM : Hp} (hi : i ≤ 2147483647) (R : Rel N hC hM) : Call N N hC hM (f_X4_book i c hC) (f_X5_book i c hM) := by
  have R' := R
  obtain ⟨n, r1, r2, r3, r4, r5, r6, r7, r8⟩ := R'
  have same : ∀ r, Call N N hC hM (some (r, hC)) (some (r, hM)) := fun r => ⟨r, hC, hM, rfl, rfl, R, fun a ha => rfl, fun a ha => rfl⟩
  have v := r6.1.2.2
  have e17 : hC 6 1 = hM 77 17 := by
    have := r5.2.2.1.1
    rw [this]
    show hM 77 (0 + 17) = _
    rfl
  have g17 : gsl (hM 77) 0 17 = hM 77 17 := by
    show hM 77 (0 + 17) = _
    rfl
  rw [g17] at v
  unfold f_X4_book f_X5_book
  rw [e17]
  by_cases c1 : i < 0
  · rw [if_pos c1, if_pos c1]
    exact same _
  rw [if_neg c1, if_neg c1, p_in, bd_s]
  by_cases c2 : c < 0
  · rw [if_pos c2, if_neg (show ¬ (0 ≤ c ∧ c ≤ 3) by omega), if_neg (by decide)]
    exact same _
  rw [if_neg c2]
  by_cases c3 : c < 4
  · rw [if_pos c3, if_pos (show 0 ≤ c ∧ c ≤ 3 by omega), if_pos (by decide), if_pos (by unfold inb; omega)]
    unfold lv
    dsimp only
    rw [show hM 77 (Int.toNat 17) = hM 77 17 from rfl, wr_id (z := hM 77 17 - 1) (by omega) (by omega), wr_id (z := hM 77 17 - 1 - i) (by omega) (by omega)]
    by_cases c4 : hM 77 17 ≤ i
    · rw [if_neg (by omega), if_pos c4]
      exact same _
    · rw [if_pos (by omega), if_neg c4, if_pos (by unfold inb; omega), wr_id (z := 4 * (hM 77 17 - 1 - i)) (by omega) (by omega), wr_id (z := 150 + 4 * (hM 77 17 - 1 - i)) (by omega) (by omega), wr_id (by omega) (by omega), if_pos (by unfold inb; omega)]
      rw [p_cell (by rw [e17]; omega), bd_s, e17, if_pos (by omega)]
      have := r5.2.2.1.2 (hM 77 17 - 1 - i).toNat c.toNat (by rw [g17]; omega) (by omega)
      rw [show ((hM 77 17 - 1 - i) * 6 + c).toNat = 6 * (hM 77 17 - 1 - i).toNat + c.toNat by omega]
      rw [show hC (6 + 1) (6 * (hM 77 17 - 1 - i).toNat + c.toNat) = gsl (hM 77) 0 (150 + 4 * (hM 77 17 - 1 - i).toNat + c.toNat) from this]
      rw [show (150 + 4 * (hM 77 17 - 1 - i) + c).toNat = 0 + (150 + 4 * (hM 77 17 - 1 - i).toNat + c.toNat) by omega]
      exact same _
  · rw [if_neg c3, if_neg (show ¬ (0 ≤ c ∧ c ≤ 3) by omega), if_neg (by decide)]
    exact same _
end Calls5

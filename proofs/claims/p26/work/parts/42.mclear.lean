/-! the pure part: the model clears its matching -/
section Clear1
theorem m_clr1_L {b : Int} {c22 : Hp → Option (Int × Hp)} : ∀ (m n : Nat) (i : Nat) (h0 h : Hp), m < n → i + m = 12 → (∀ k, k < i → h 79 k = -1 ∧ h 80 k = -1 ∧ h 82 k = 0) → (∀ a, a ≠ 79 → a ≠ 80 → a ≠ 82 → h a = h0 a) →
    ∃ h', f_X5_clears_L2 b c22 n (i : Int) h = c22 h' ∧ (∀ k, k < 12 → h' 79 k = -1 ∧ h' 80 k = -1 ∧ h' 82 k = 0) ∧ ∀ a, a ≠ 79 → a ≠ 80 → a ≠ 82 → h' a = h0 a := by
  intro m
  induction m with
  | zero =>
    intro n i h0 h hn hi e f
    obtain ⟨n, rfl⟩ : ∃ n', n = n' + 1 := ⟨n - 1, by omega⟩
    rw [f_X5_clears_L2_s, if_pos (by omega)]
    exact ⟨h, rfl, fun k hk => e k (by omega), f⟩
  | succ m ih =>
    intro n i h0 h hn hi e f
    obtain ⟨n, rfl⟩ : ∃ n', n = n' + 1 := ⟨n - 1, by omega⟩
    rw [f_X5_clears_L2_s, if_neg (by omega), if_pos (by unfold inb; omega), wr_id (by omega) (by omega)]
    unfold lt
    dsimp only
    rw [if_pos (by unfold inb; omega), if_pos (by unfold inb; omega), show (i : Int) + 1 = ((i + 1 : Nat) : Int) by omega, show ((i : Int)).toNat = i by omega]
    refine ih n (i + 1) h0 _ (by omega) (by omega) (fun k hk => ?_) (fun a q1 q2 q3 => ?_)
    · by_cases c : k = i
      · refine ⟨?_, ?_, ?_⟩
        · rw [hup_far (i := 82) (by omega), hup_far (i := 80) (by omega), hup_eq ⟨rfl, c⟩]
        · rw [hup_far (i := 82) (by omega), hup_eq ⟨rfl, c⟩]
        · rw [hup_eq ⟨rfl, c⟩]
      · rw [hup_far (i := 82) (by omega), hup_far (i := 80) (by omega), hup_far (i := 79) (by omega), hup_far (i := 82) (by omega), hup_far (i := 80) (by omega), hup_far (i := 79) (by omega), hup_far (i := 82) (by omega), hup_far (i := 80) (by omega), hup_far (i := 79) (by omega)]
        exact e k (by omega)
    · rw [row_hup (i := 82) q3, row_hup (i := 80) q2, row_hup (i := 79) q1]
      exact f a q1 q2 q3
end Clear1

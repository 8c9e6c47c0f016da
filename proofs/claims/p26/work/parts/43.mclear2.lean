/-! the pure part: the model clears and weighs: row 81 -/
section Clear2
def r81 (s : Rw) (k : Nat) : Int := if suP s k then ptP s k else -1
theorem m_clr2_L {b N : Int} {s : Rw} (hb : 0 ≤ b ∧ b ≤ 1140) (hV : Vn s) (hD : Vd N s) (hN : N ≤ 1000000) : ∀ (m n : Nat) (i : Nat) (h0 h : Hp), m < n → i + m = 144 → gsl (h 77) b.toNat = s → (∀ k, k < i → h 81 k = r81 s k) → (∀ a, a ≠ 81 → h a = h0 a) →
    ∃ h', f_X5_clears_L24 b n (i : Int) h = some (0, h') ∧ (∀ k, k < 144 → h' 81 k = r81 s k) ∧ ∀ a, a ≠ 81 → h' a = h0 a := by
  intro m
  induction m with
  | zero =>
    intro n i h0 h hn hi eg e f
    obtain ⟨n, rfl⟩ : ∃ n', n = n' + 1 := ⟨n - 1, by omega⟩
    rw [f_X5_clears_L24_s, if_pos (by omega)]
    exact ⟨h, rfl, fun k hk => e k (by omega), f⟩
  | succ m ih =>
    intro n i h0 h hn hi eg e f
    obtain ⟨n, rfl⟩ : ∃ n', n = n' + 1 := ⟨n - 1, by omega⟩
    have v1 := hV.1
    have v2 := hV.2.1
    have t : Int.tdiv (i : Int) 12 = ((i / 12 : Nat) : Int) := by
      rw [Int.tdiv_eq_ediv_of_nonneg (by omega)]
      omega
    have go : ∀ x, x = r81 s i → ∃ h', f_X5_clears_L24 b n ((i : Int) + 1) (hup h 81 i x) = some (0, h') ∧ (∀ k, k < 144 → h' 81 k = r81 s k) ∧ ∀ a, a ≠ 81 → h' a = h0 a := by
      intro x hx
      rw [show (i : Int) + 1 = ((i + 1 : Nat) : Int) by omega]
      refine ih n (i + 1) h0 _ (by omega) (by omega) (by rw [row_hup (by omega)]; exact eg) (fun k hk => ?_) (fun a ha => by rw [row_hup ha]; exact f a ha)
      by_cases c : k = i
      · rw [hup_eq ⟨rfl, c⟩, hx, c]
      · rw [hup_far (by omega)]
        exact e k (by omega)
    have no : ¬ suP s i → r81 s i = -1 := fun q => by
      unfold r81
      rw [if_neg q]
    rw [f_X5_clears_L24_s, if_neg (by omega), wr_id (z := b + 15) (by omega) (by omega), wr_id (z := b + 16) (by omega) (by omega), if_pos (by unfold inb; omega), rd_sl (h := h) hb.1 (by omega), rd_sl (h := h) hb.1 (by omega), eg, t, wr_id (z := ((i / 12 : Nat) : Int)) (by omega) (by omega), show (i : Int) - ((i / 12 : Nat) : Int) * 12 = ((i % 12 : Nat) : Int) by omega, wr_id (z := ((i % 12 : Nat) : Int)) (by omega) (by omega), show s (Int.toNat 15) = s 15 from rfl, show s (Int.toNat 16) = s 16 from rfl]
    unfold f_X5_clears_J49 f_X5_clears_J50 lt
    dsimp only
    rw [if_pos rfl, if_pos (show inb (i : Int) 144 by unfold inb; omega), wr_id (z := (i : Int) + 1) (by omega) (by omega), show ((i : Int)).toNat = i by omega]
    by_cases c1 : s 15 ≤ ((i / 12 : Nat) : Int)
    · rw [if_pos c1]
      exact go _ (no (fun q => by have := q.1.1; omega)).symm
    rw [if_neg c1, if_pos (by unfold inb; omega)]
    by_cases c2 : s 16 ≤ ((i % 12 : Nat) : Int)
    · rw [if_pos c2]
      exact go _ (no (fun q => by have := q.1.2; omega)).symm
    rw [if_neg c2, if_neg (by omega), t, wr_id (z := ((i / 12 : Nat) : Int)) (by omega) (by omega), show (i : Int) - ((i / 12 : Nat) : Int) * 12 = ((i % 12 : Nat) : Int) by omega, wr_id (z := ((i % 12 : Nat) : Int)) (by omega) (by omega)]
    rw [p_suits (N := N) hb (by rw [eg]; exact hV) (by rw [eg]; exact hD) hN (by rw [eg]; omega) (by rw [eg]; omega), bd_s, eg, show (((i / 12 : Nat) : Int)).toNat = i / 12 by omega, show (((i % 12 : Nat) : Int)).toNat = i % 12 by omega]
    by_cases c3 : sut s (i / 12) (i % 12)
    · rw [if_pos c3, if_neg (by omega), p_pts (N := N) hb (by rw [eg]; exact hV) (by rw [eg]; exact hD) hN (by rw [eg]; omega) (by rw [eg]; omega), bd_s, eg, show (((i / 12 : Nat) : Int)).toNat = i / 12 by omega, show (((i % 12 : Nat) : Int)).toNat = i % 12 by omega]
      rw [if_pos (show inb (i : Int) 144 by unfold inb; omega)]
      refine go _ ?_
      unfold r81
      rw [if_pos ⟨⟨by omega, by omega⟩, c3⟩]
      rfl
    · rw [if_neg c3, if_pos rfl, if_pos (show inb (i : Int) 144 by unfold inb; omega)]
      exact go _ (no (fun q => c3 q.2)).symm
end Clear2

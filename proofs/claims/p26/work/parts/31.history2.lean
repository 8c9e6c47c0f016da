/-! the pure part: the states kept: the model -/
section Hist2
/-- place k of state b of the model -/
abbrev pk (h : Hp) (b k : Nat) : Int := h 77 (190 * b + k)
theorem m_copies {f t : Nat} {h : Hp} (hf : f ≤ 6) (ht : t ≤ 6) (hne : f ≠ t) : ∃ h', f_X5_copies (f : Int) (t : Int) h = some (0, h') ∧ (∀ k, k < 190 → pk h' t k = pk h f k) ∧ (∀ k, k < 190 * t ∨ 190 * t + 190 ≤ k → h' 77 k = h 77 k) ∧ ∀ a, a ≠ 77 → h' a = h a := by
  refine ⟨_, p_copies (by omega) (by omega) (by omega), fun k hk => ?_, fun k hk => ?_, fun a ha => hrow_far ha⟩
  · show hrow _ _ _ 77 _ = _
    rw [hrow_get]
    unfold gat gsl
    rw [if_pos (by omega)]
    congr 1
    omega
  · rw [hrow_get]
    unfold gat
    rw [if_neg (by omega)]
theorem m_rec23 {h : Hp} {n : Nat} (hn : h 76 1 = n) (h1 : n ≤ 3) : ∃ h', f_X5_records_J23 h = some (0, h') ∧ h' 76 1 = n + 1 ∧ (∀ k, k < 190 → pk h' (n + 1) k = pk h 0 k) ∧ (∀ k, k < 190 * (n + 1) ∨ 190 * (n + 1) + 190 ≤ k → h' 77 k = h 77 k) ∧ (∀ a, a ≠ 77 → a ≠ 76 → h' a = h a) ∧ ∀ k, k ≠ 1 → h' 76 k = h 76 k := by
  unfold f_X5_records_J23
  unfold lt
  dsimp only
  rw [hup_same, hn, wr_id (by omega) (by omega)]
  obtain ⟨h', a1, a2, a3, a4⟩ := m_copies (f := 0) (t := n + 1) (h := hup h 76 1 ((n : Int) + 1)) (by omega) (by omega) (by omega)
  rw [show ((0 : Nat) : Int) = 0 from rfl, show ((n + 1 : Nat) : Int) = (n : Int) + 1 by omega] at a1
  rw [a1, bd_s]
  refine ⟨h', rfl, ?_, fun k hk => ?_, fun k hk => ?_, fun a q1 q2 => ?_, fun k hk => ?_⟩
  · rw [a4 76 (by decide), hup_same]
  · rw [a2 k hk]
    exact hup_far (by omega)
  · rw [a3 k hk]
    exact hup_far (by omega)
  · rw [a4 a q1]
    exact row_hup q2
  · rw [a4 76 (by decide)]
    exact hup_far (by omega)
theorem m_rec_L {c17 : Hp → Option (Int × Hp)} : ∀ (m n p : Nat) (h0 h : Hp), m < n → 1 ≤ p → p + m = 4 →
    (∀ a, a ≠ 77 → h a = h0 a) → (∀ j k, 1 ≤ j → j < p → k < 190 → pk h j k = pk h0 (j + 1) k) → (∀ k, k < 190 ∨ 190 * p ≤ k → h 77 k = h0 77 k) →
    ∃ h', f_X5_records_L6 c17 n (p : Int) h = c17 h' ∧ (∀ a, a ≠ 77 → h' a = h0 a) ∧ (∀ j k, 1 ≤ j → j < 4 → k < 190 → pk h' j k = pk h0 (j + 1) k) ∧ (∀ k, k < 190 ∨ 190 * 4 ≤ k → h' 77 k = h0 77 k) := by
  intro m
  induction m with
  | zero =>
    intro n p h0 h hn hp hm e1 e2 e3
    obtain ⟨n, rfl⟩ : ∃ n', n = n' + 1 := ⟨n - 1, by omega⟩
    obtain rfl : p = 4 := by omega
    rw [f_X5_records_L6_s, if_pos (by omega)]
    exact ⟨h, rfl, e1, e2, e3⟩
  | succ m ih =>
    intro n p h0 h hn hp hm e1 e2 e3
    obtain ⟨n, rfl⟩ : ∃ n', n = n' + 1 := ⟨n - 1, by omega⟩
    rw [f_X5_records_L6_s, if_neg (by omega), wr_id (by omega) (by omega)]
    obtain ⟨h', a1, a2, a3, a4⟩ := m_copies (f := p + 1) (t := p) (h := h) (by omega) (by omega) (by omega)
    rw [show ((p + 1 : Nat) : Int) = (p : Int) + 1 by omega] at a1
    rw [a1, bd_s, show (p : Int) + 1 = ((p + 1 : Nat) : Int) by omega]
    refine ih n (p + 1) h0 h' (by omega) (by omega) (by omega) (fun a ha => ?_) (fun j k j1 j2 hk => ?_) (fun k hk => ?_)
    · rw [a4 a ha, e1 a ha]
    · by_cases c : j = p
      · subst c
        rw [a2 k hk]
        exact e3 _ (by omega)
      · show h' 77 _ = _
        rw [a3 _ (by omega)]
        exact e2 j k j1 (by omega) hk
    · rw [a3 k (by omega)]
      exact e3 k (by omega)
theorem m_records {h : Hp} {n : Nat} (hn : h 76 1 = n) (h1 : n ≤ 4) : ∃ h', f_X5_records h = some (0, h') ∧ h' 76 1 = n - shn n + 1 ∧ (∀ j k, 1 ≤ j → j ≤ n - shn n → k < 190 → pk h' j k = pk h (j + shn n) k) ∧ (∀ k, k < 190 → pk h' (n - shn n + 1) k = pk h 0 k) ∧ (∀ k, k < 190 ∨ 950 ≤ k → h' 77 k = h 77 k) ∧ (∀ a, a ≠ 77 → a ≠ 76 → h' a = h a) ∧ ∀ k, k ≠ 1 → h' 76 k = h 76 k := by
  unfold f_X5_records
  rw [hn]
  by_cases c : n = 4
  · subst c
    rw [if_neg (by decide)]
    obtain ⟨g, a1, a2, a3, a4⟩ := m_rec_L (c17 := fun h4 => lt (hup h4 76 1 (wr (h4 76 1 - 1))) fun h5 => f_X5_records_J23 h5) 3 fu 1 h h (by have := fu_gt; omega) (by omega) (by omega) (fun _ _ => rfl) (fun j k j1 j2 _ => by omega) (fun _ _ => rfl)
    rw [show ((1 : Nat) : Int) = 1 from rfl] at a1
    rw [a1]
    unfold lt
    dsimp only
    have e76 : g 76 1 = 4 := by rw [a2 76 (by decide)]; exact hn
    rw [e76, wr_id (by omega) (by omega)]
    obtain ⟨h', b1, b2, b3, b4, b5, b6⟩ := m_rec23 (h := hup g 76 1 (4 - 1)) (n := 3) (by rw [hup_same]; rfl) (by omega)
    rw [b1]
    have sh : shn ((4 : Nat) : Int) = 1 := rfl
    refine ⟨h', rfl, ?_, fun j k j1 j2 hk => ?_, fun k hk => ?_, fun k hk => ?_, fun a q1 q2 => ?_, fun k hk => ?_⟩
    · rw [b2, sh]
      rfl
    · rw [sh] at *
      show h' 77 _ = _
      rw [b4 _ (by omega), hup_far (by omega)]
      exact a3 j k j1 (by omega) hk
    · rw [sh]
      show pk h' (3 + 1) k = _
      rw [b3 k hk]
      show hup _ _ _ _ 77 _ = _
      rw [hup_far (by omega)]
      exact a4 _ (by omega)
    · rw [b4 k (by omega), hup_far (by omega)]
      exact a4 _ (by omega)
    · rw [b5 a q1 q2, row_hup q2]
      exact a2 a q1
    · rw [b6 k hk, hup_far (by omega), a2 76 (by decide)]
  · rw [if_pos (by omega)]
    obtain ⟨h', b1, b2, b3, b4, b5, b6⟩ := m_rec23 (h := h) (n := n) hn (by omega)
    rw [b1]
    have sh : shn (n : Int) = 0 := by
      unfold shn
      rw [if_neg (by omega)]
    rw [sh]
    refine ⟨h', rfl, ?_, fun j k j1 j2 hk => ?_, fun k hk => ?_, fun k hk => ?_, b5, b6⟩
    · rw [b2]
      omega
    · exact b4 _ (by omega)
    · exact b3 k hk
    · exact b4 k (by omega)
/-- an order that came to its end: the old state kept, the tried one taken -/
theorem m_done {h : Hp} {x : Int} {n : Nat} (q : 0 ≤ x) (hn : h 76 1 = n) (h1 : n ≤ 4) : ∃ h', f_X5_done x h = some (x, h') ∧ h' 76 1 = n - shn n + 1 ∧ (∀ j k, 1 ≤ j → j ≤ n - shn n → k < 190 → pk h' j k = pk h (j + shn n) k) ∧ (∀ k, k < 190 → pk h' (n - shn n + 1) k = pk h 0 k) ∧ (∀ k, k < 190 → pk h' 0 k = pk h 5 k) ∧ (∀ a, a ≠ 77 → a ≠ 76 → h' a = h a) ∧ ∀ k, k ≠ 1 → h' 76 k = h 76 k := by
  unfold f_X5_done
  rw [if_neg (by omega)]
  obtain ⟨g, a1, a2, a3, a4, a5, a6, a7⟩ := m_records hn h1
  obtain ⟨h', b1, b2, b3, b4⟩ := m_copies (f := 5) (t := 0) (h := g) (by omega) (by omega) (by omega)
  rw [a1, bd_s, show (5 : Int) = ((5 : Nat) : Int) from rfl, show (0 : Int) = ((0 : Nat) : Int) from rfl, b1, bd_s]
  have sl : n - shn n ≤ 3 := by
    unfold shn
    split <;> omega
  refine ⟨h', rfl, ?_, fun j k j1 j2 hk => ?_, fun k hk => ?_, fun k hk => ?_, fun a q1 q2 => ?_, fun k hk => ?_⟩
  · rw [b4 76 (by decide), a2]
  · show h' 77 _ = _
    rw [b3 _ (by omega)]
    exact a3 j k j1 j2 hk
  · show h' 77 _ = _
    rw [b3 _ (by omega)]
    exact a4 k hk
  · rw [b2 k hk]
    exact a5 _ (by omega)
  · rw [b4 a q1, a6 a q1 q2]
  · rw [b4 76 (by decide), a7 k hk]
theorem m_done_bad {h : Hp} {x : Int} (q : x < 0) : f_X5_done x h = some (x, h) := by
  unfold f_X5_done
  rw [if_pos q]
end Hist2

/-! the pure part: all matches: the model -/
section Mall1
theorem r81_su {s : Rw} {k : Nat} (hS : sok s) (q : suP s k) : 1 ≤ r81 s k ∧ r81 s k = ptP s k := by
  have s4 := (hS 3 (by omega)).1
  rw [show sA 85 3 = 1 from rfl, show 1 + 3 = 4 from rfl] at s4
  have := q.2.2
  unfold r81
  rw [if_pos q]
  refine ⟨?_, rfl⟩
  show 1 ≤ pts s (k / 12) (k % 12)
  omega
theorem r81_no {s : Rw} {k : Nat} (q : ¬ suP s k) : r81 s k = -1 := by
  unfold r81
  rw [if_neg q]
def FrX (h h' : Hp) : Prop := ∀ a, a ≠ 79 → a ≠ 80 → a ≠ 81 → a ≠ 82 → h' a = h a
def WM (s : Rw) (h : Hp) : Prop := ∀ k, k < 144 → h 81 k = r81 s k
def MM (h : Hp) (q : MgQ) : Prop := ∀ i : Nat, i < 12 → h 79 i = q.1 i ∧ h 80 i = q.2.1 i
theorem m_clears {b N : Int} {s : Rw} {h : Hp} (hb : 0 ≤ b ∧ b ≤ 1140) (hV : Vn s) (hD : Vd N s) (hN : N ≤ 1000000) (eg : gsl (h 77) b.toNat = s) :
    ∃ h', f_X5_clears b h = some (0, h') ∧ MM h' mt0 ∧ (∀ k, k < 12 → h' 82 k = 0) ∧ WM s h' ∧ FrX h h' := by
  have := fu_gt
  obtain ⟨h1, a1, a2, a3⟩ := m_clr1_L (b := b) (c22 := fun h4 => f_X5_clears_L24 b fu 0 h4) 12 fu 0 h h (by omega) (by omega) (fun k hk => by omega) (fun _ _ _ _ => rfl)
  obtain ⟨h2, b1, b2, b3⟩ := m_clr2_L hb hV hD hN 144 fu 0 h1 h1 (by omega) (by omega) (by rw [a3 77 (by omega) (by omega) (by omega)]; exact eg) (fun k hk => by omega) (fun _ _ => rfl)
  rw [show ((0 : Nat) : Int) = 0 from rfl] at a1 b1
  unfold f_X5_clears
  rw [a1]
  refine ⟨h2, b1, fun i hi => ?_, fun k hk => ?_, b2, fun a q1 q2 q3 q4 => ?_⟩
  · rw [b3 79 (by omega), b3 80 (by omega)]
    exact ⟨(a2 i hi).1, (a2 i hi).2.1⟩
  · rw [b3 82 (by omega)]
    exact (a2 k hk).2.2
  · rw [b3 a q3, a3 a q1 q2 q4]
theorem m_best_L {s U C : Rw} {x2 : Int} {h : Hp} {c62 : Int → Hp → Option (Int × Hp)} (hS : sok s) (w : WM s h) (mm : ∀ i : Nat, i < 12 → h 79 i = U i ∧ h 80 i = C i) : ∀ (m n i : Nat), m < n → i + m = 144 → f_X5_matches_L13 x2 c62 n (bes s U C i) (i : Int) h = c62 (bes s U C 144) h := by
  intro m
  induction m with
  | zero =>
    intro n i hn hi
    obtain ⟨n, rfl⟩ : ∃ n', n = n' + 1 := ⟨n - 1, by omega⟩
    rw [f_X5_matches_L13_s, if_pos (by omega), show i = 144 by omega]
  | succ m ih =>
    intro n i hn hi
    obtain ⟨n, rfl⟩ : ∃ n', n = n' + 1 := ⟨n - 1, by omega⟩
    have t : Int.tdiv (i : Int) 12 = ((i / 12 : Nat) : Int) := by
      rw [Int.tdiv_eq_ediv_of_nonneg (by omega)]
      omega
    have k := ih n (i + 1) (by omega) (by omega)
    rw [show bes s U C (i + 1) = if elP s U C i then ahd s i (bes s U C i) else bes s U C i from rfl, show ((i + 1 : Nat) : Int) = (i : Int) + 1 by omega] at k
    have no : ¬ elP s U C i → f_X5_matches_J40 (f_X5_matches_L13 x2 c62 n) x2 (bes s U C i) (i : Int) h = c62 (bes s U C 144) h := fun q => by
      rw [if_neg q] at k
      unfold f_X5_matches_J40 f_X5_matches_J41
      rw [if_pos rfl, wr_id (by omega) (by omega)]
      exact k
    rw [f_X5_matches_L13_s, if_neg (by omega), if_pos (by unfold inb; omega), show ((i : Int)).toNat = i by omega, w i (by omega), t, wr_id (z := ((i / 12 : Nat) : Int)) (by omega) (by omega), show (i : Int) - ((i / 12 : Nat) : Int) * 12 = ((i % 12 : Nat) : Int) by omega, wr_id (z := ((i % 12 : Nat) : Int)) (by omega) (by omega)]
    by_cases su : suP s i
    · rw [if_neg (by have := (r81_su hS su).1; omega), if_pos (by unfold inb; omega), show (((i / 12 : Nat) : Int)).toNat = i / 12 by omega, show (((i % 12 : Nat) : Int)).toNat = i % 12 by omega, (mm (i / 12) (by omega)).1, (mm (i % 12) (by omega)).2]
      by_cases c1 : U (i / 12) = -1
      · rw [if_neg (by omega), if_pos (by unfold inb; omega)]
        by_cases c2 : C (i % 12) = -1
        · rw [if_neg (by omega)]
          rw [if_pos (show elP s U C i from ⟨su, c1, c2⟩)] at k
          unfold f_X5_matches_J41
          rw [if_neg (show ¬ (1 : Int) = 0 by omega), wr_id (by omega) (by omega)]
          unfold ahd at k
          by_cases c3 : bes s U C i = -1
          · rw [if_pos c3] at k
            rw [if_pos c3]
            exact k
          · rw [if_neg c3] at k
            rcases bes_b s U C i with e | e
            · exact absurd e c3
            · rw [if_neg c3, if_pos (by unfold inb; omega), if_pos (by unfold inb; omega), show ((i : Int)).toNat = i by omega, w i (by omega), w (bes s U C i).toNat (by omega), (r81_su hS su).2, (r81_su hS e.2.2.1).2]
              by_cases c4 : ptP s i ≤ ptP s (bes s U C i).toNat
              · rw [if_pos c4] at k
                rw [if_pos c4]
                exact k
              · rw [if_neg c4] at k
                rw [if_neg c4]
                exact k
        · rw [if_pos c2]
          exact no (fun q => c2 q.2.2)
      · rw [if_pos c1]
        exact no (fun q => c1 q.2.1)
    · rw [if_pos (r81_no su)]
      exact no (fun q => su q.1)
theorem m_mt_L {s : Rw} (hS : sok s) : ∀ (m n : Nat) (q : MgQ) (h : Hp), m + 1 < n → WM s h → MM h q → 0 ≤ q.2.2 → q.2.2 + m ≤ 1000 → bst s (mtc s m q) = -1 →
    ∃ h', f_X5_matches_L7 n q.2.2 1 h = some ((mtc s m q).2.2, h') ∧ MM h' (mtc s m q) ∧ WM s h' ∧ ∀ a, a ≠ 79 → a ≠ 80 → h' a = h a := by
  have stop : ∀ (n : Nat) (q : MgQ) (h : Hp), 1 < n → WM s h → MM h q → bst s q = -1 → f_X5_matches_L7 n q.2.2 1 h = some (q.2.2, h) := by
    intro n q h hn w mm e
    obtain ⟨n, rfl⟩ : ∃ n', n = n' + 2 := ⟨n - 2, by omega⟩
    have := fu_gt
    have k := m_best_L (x2 := q.2.2) (c62 := fun y2 h3 => if y2 = (-1) then f_X5_matches_J68 (f_X5_matches_L7 (n + 1)) q.2.2 y2 0 h3 else f_X5_matches_J68 (f_X5_matches_L7 (n + 1)) q.2.2 y2 1 h3) (U := q.1) (C := q.2.1) hS w mm 144 fu 0 (by omega) (by omega)
    rw [show ((0 : Nat) : Int) = 0 from rfl, show bes s q.1 q.2.1 0 = -1 from rfl] at k
    rw [f_X5_matches_L7_s, if_neg (by omega), k]
    rw [show bes s q.1 q.2.1 144 = bst s q from rfl, if_pos e]
    unfold f_X5_matches_J68
    rw [if_pos rfl, f_X5_matches_L7_s, if_pos rfl]
  intro m
  induction m with
  | zero =>
    intro n q h hn w mm q0 q1 e
    exact ⟨h, stop n q h (by omega) w mm e, mm, w, fun _ _ _ => rfl⟩
  | succ m ih =>
    intro n q h hn w mm q0 q1 e
    by_cases c : bst s q = -1
    · rw [mtc_step, if_pos c] at e
      rw [mtc_step, if_pos c]
      exact ⟨h, stop n q h (by omega) w mm e, mm, w, fun _ _ _ => rfl⟩
    · rw [mtc_step, if_neg c] at e
      rw [mtc_step, if_neg c]
      obtain ⟨n, rfl⟩ : ∃ n', n = n' + 1 := ⟨n - 1, by omega⟩
      rcases bst_b s q with b | b
      · exact absurd b c
      have := fu_gt
      have k := m_best_L (x2 := q.2.2) (c62 := fun y2 h3 => if y2 = (-1) then f_X5_matches_J68 (f_X5_matches_L7 n) q.2.2 y2 0 h3 else f_X5_matches_J68 (f_X5_matches_L7 n) q.2.2 y2 1 h3) (U := q.1) (C := q.2.1) hS w mm 144 fu 0 (by omega) (by omega)
      rw [show ((0 : Nat) : Int) = 0 from rfl, show bes s q.1 q.2.1 0 = -1 from rfl] at k
      rw [f_X5_matches_L7_s, if_neg (by omega), k]
      rw [show bes s q.1 q.2.1 144 = bst s q from rfl, if_neg c]
      obtain ⟨i, hi⟩ : ∃ i : Nat, bst s q = i := ⟨(bst s q).toNat, by omega⟩
      rw [hi] at b e ⊢
      rw [show ((i : Int)).toNat = i by omega] at b e ⊢
      have t : Int.tdiv (i : Int) 12 = ((i / 12 : Nat) : Int) := by
        rw [Int.tdiv_eq_ediv_of_nonneg (by omega)]
        omega
      unfold f_X5_matches_J68 lt
      dsimp only
      rw [if_neg (by omega), t, wr_id (z := ((i / 12 : Nat) : Int)) (by omega) (by omega), show (i : Int) - ((i / 12 : Nat) : Int) * 12 = ((i % 12 : Nat) : Int) by omega, wr_id (z := ((i % 12 : Nat) : Int)) (by omega) (by omega), if_pos (by unfold inb; omega), if_pos (by unfold inb; omega), show (((i / 12 : Nat) : Int)).toNat = i / 12 by omega, show (((i % 12 : Nat) : Int)).toNat = i % 12 by omega, wr_id (by omega) (by omega)]
      have e2 : (stp i q).2.2 = q.2.2 + 1 := rfl
      obtain ⟨h', d1, d2, d3, d4⟩ := ih n (stp i q) (hup (hup h 79 (i / 12) ((i % 12 : Nat) : Int)) 80 (i % 12) ((i / 12 : Nat) : Int)) (by omega) (fun k hk => by
          rw [hup_far (i := 80) (by omega), hup_far (i := 79) (by omega)]
          exact w k hk) (fun j hj => ⟨by
          rw [hup_far (i := 80) (by omega)]
          show _ = gup q.1 (i / 12) _ j
          unfold gup
          by_cases cj : j = i / 12
          · rw [hup_eq ⟨rfl, cj⟩, if_pos cj]
          · rw [hup_far (by omega), if_neg cj]
            exact (mm j hj).1, by
          show _ = gup q.2.1 (i % 12) _ j
          unfold gup
          by_cases cj : j = i % 12
          · rw [hup_eq ⟨rfl, cj⟩, if_pos cj]
          · rw [hup_far (by omega), hup_far (by omega), if_neg cj]
            exact (mm j hj).2⟩) (by rw [e2]; omega) (by rw [e2]; omega) e
      rw [e2] at d1
      refine ⟨h', d1, d2, d3, fun a q1 q2 => ?_⟩
      rw [d4 a q1 q2, row_hup q2, row_hup q1]
theorem m_matches {b N : Int} {s : Rw} {h : Hp} (hb : 0 ≤ b ∧ b ≤ 1140) (hV : Vn s) (hD : Vd N s) (hN : N ≤ 1000000) (eg : gsl (h 77) b.toNat = s) :
    ∃ h', f_X5_matches b h = some ((mtA s).2.2, h') ∧ MM h' (mtA s) ∧ (∀ k, k < 12 → h' 82 k = 0) ∧ WM s h' ∧ FrX h h' := by
  have := fu_gt
  obtain ⟨h1, a1, a2, a3, a4, a5⟩ := m_clears hb hV hD hN eg
  obtain ⟨h2, b1, b2, b3, b4⟩ := m_mt_L hD.2.2 12 fu mt0 h1 (by omega) a4 a2 (Int.le_refl 0) (by show (0 : Int) + _ ≤ _; omega) (mtc_end hV 12 mt0 (by decide))
  unfold f_X5_matches
  rw [a1, bd_s]
  refine ⟨h2, b1, b2, fun k hk => ?_, b3, fun a q1 q2 q3 q4 => ?_⟩
  · rw [b4 82 (by omega) (by omega)]
    exact a3 k hk
  · rw [b4 a q1 q2, a5 a q1 q2 q3 q4]
end Mall1

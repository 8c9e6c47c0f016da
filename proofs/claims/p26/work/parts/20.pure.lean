/-! the pure part: rows of umbrellas, claims and entries -/
section Pure1
theorem wr_id {z : Int} (h1 : -2147483648 ≤ z) (h2 : z < 2147483648) : wr z = z := wr_e ⟨h1, h2⟩
theorem if_t {α : Type} {c : Prop} [d : Decidable c] {a b : α} (h : c) : (if c then a else b) = a := if_pos h
theorem if_f {α : Type} {c : Prop} [d : Decidable c] {a b : α} (h : ¬ c) : (if c then a else b) = b := if_neg h
theorem hup_same {h : Hp} {i k : Nat} {x : Int} : hup h i k x i k = x := by simp [hup]
theorem hup_far {h : Hp} {i k a b : Nat} {x : Int} (q : ¬ (a = i ∧ b = k)) : hup h i k x a b = h a b := by simp [hup, q]
theorem hup_eq {h : Hp} {i k a b : Nat} {x : Int} (q : a = i ∧ b = k) : hup h i k x a b = x := by simp [hup, q]
theorem p_cell {r : Nat} {row col : Int} {h : Hp} (hs : h r 1 ≤ 12) : f_X2_cell r row col h = some (if 0 ≤ row ∧ row < h r 1 ∧ 0 ≤ col ∧ col < 6 then h (r + 1) (row * 6 + col).toNat else 0, h) := by
  unfold f_X2_cell
  by_cases c1 : row < 0
  · simp (disch := omega) only [if_pos, if_neg]
  by_cases c2 : h r 1 ≤ row
  · simp (disch := omega) only [if_pos, if_neg]
  by_cases c3 : col < 0
  · simp (disch := omega) only [if_pos, if_neg]
  by_cases c4 : col < 6
  · simp (disch := omega) only [lv, inb, if_pos, if_neg, wr_id]
  · simp (disch := omega) only [if_pos, if_neg]
theorem p_cell_at {r : Nat} {i c : Nat} {h : Hp} (hs : h r 1 ≤ 12) (hi : (i : Int) < h r 1) (hc : c < 6) : f_X2_cell r i c h = some (h (r + 1) (6 * i + c), h) := by
  rw [p_cell hs, if_pos (by omega)]
  congr 4
  omega
theorem p_has {r : Nat} {row : Int} {h : Hp} : f_X2_has r row h = some (if 0 ≤ row ∧ row < h r 1 then 1 else 0, h) := by
  unfold f_X2_has
  by_cases c1 : row < 0
  · simp (disch := omega) only [if_pos, if_neg]
  by_cases c2 : h r 1 ≤ row
  · simp (disch := omega) only [if_pos, if_neg]
  · simp (disch := omega) only [if_pos, if_neg]
/-- the head of a row of cells moved on by six from a place on -/
def hshift (h : Hp) (a lo hi d : Nat) : Hp := fun x k => if x = a ∧ lo ≤ k ∧ k < hi then h a (k + d) else h x k
theorem p_remove_L {r : Nat} : ∀ (m n : Nat) (h0 h : Hp) (p : Int) (lo : Nat), m < n → (lo : Int) ≤ p → p + m = 66 → (h = hshift h0 (r + 1) lo p.toNat 6) → f_X2_remove_L11 r n p h = some (0, hup (hshift h0 (r + 1) lo 66 6) r 1 (wr (h0 r 1 - 1))) := by
  intro m
  induction m with
  | zero =>
    intro n h0 h p lo hn hlo hp hh
    obtain ⟨n, rfl⟩ : ∃ n', n = n' + 1 := ⟨n - 1, by omega⟩
    rw [f_X2_remove_L11_s]
    have : p = 66 := by omega
    subst this
    simp (disch := omega) only [lt, if_pos, wr_id]
    rw [hh]
    simp (disch := omega) only [hshift, if_neg]
    rfl
  | succ m ih =>
    intro n h0 h p lo hn hlo hp hh
    obtain ⟨n, rfl⟩ : ∃ n', n = n' + 1 := ⟨n - 1, by omega⟩
    rw [f_X2_remove_L11_s]
    simp (disch := omega) only [lt, inb, if_pos, if_neg, wr_id]
    refine ih n h0 _ (p + 1) lo (by omega) (by omega) (by omega) ?_
    funext x k
    rw [hh]
    unfold hup hshift
    by_cases c1 : x = r + 1
    · subst c1
      have e1 : (p + 6).toNat = p.toNat + 6 := by omega
      by_cases c2 : k = p.toNat
      · subst c2
        rw [if_pos ⟨rfl, rfl⟩, if_neg (by omega), if_pos ⟨rfl, by omega, by omega⟩, e1]
      · rw [if_neg (by omega)]
        by_cases c3 : lo ≤ k ∧ k < p.toNat
        · rw [if_pos ⟨rfl, c3⟩, if_pos ⟨rfl, by omega, by omega⟩]
        · rw [if_neg (by omega), if_neg (by omega)]
    · rw [if_neg (by omega), if_neg (by omega), if_neg (by omega)]
/-- a row goes -/
def hrem (h : Hp) (r i : Nat) : Hp := hup (hshift h (r + 1) (6 * i) 66 6) r 1 (h r 1 - 1)
theorem p_remove {r : Nat} {row : Int} {h : Hp} (hs : h r 1 ≤ 12) (h0 : 0 ≤ row) (h1 : row < h r 1) : f_X2_remove r row h = some (0, hrem h r row.toNat) := by
  unfold f_X2_remove
  simp (disch := omega) only [lv, if_pos, if_neg, wr_id]
  unfold hrem
  rw [← wr_id (z := h r 1 - 1) (by omega) (by omega)]
  refine p_remove_L (66 - 6 * row.toNat) fu h h (row * 6) (6 * row.toNat) (by have := fu_gt; omega) (by omega) (by omega) ?_
  funext x k
  unfold hshift
  rw [if_neg (by omega)]
theorem p_setting {o : Nat} {k : Int} {h : Hp} (h0 : 0 ≤ k) (h1 : k < 7) : f_X1_setting o k h = some (h (o + 7) k.toNat, h) := by
  unfold f_X1_setting
  simp (disch := omega) only [inb, if_pos, if_neg]
theorem p_sum {o : Nat} {k : Int} {h : Hp} (h0 : 0 ≤ k) (h1 : k < 12) : f_X1_sum o k h = some (h (o + 8) k.toNat, h) := by
  unfold f_X1_sum
  simp (disch := omega) only [inb, if_pos, if_neg]
theorem p_addTo {o : Nat} {k x : Int} {h : Hp} (h0 : 0 ≤ k) (h1 : k < 12) : f_X1_addTo o k x h = some (0, hup h (o + 8) k.toNat (wr (h (o + 8) k.toNat + x))) := by
  unfold f_X1_addTo
  simp (disch := omega) only [inb, lt, if_pos, if_neg]
theorem p_put {r : Nat} {row col x : Int} {h : Hp} (hs : h r 1 ≤ 12) (h0 : 0 ≤ row) (h1 : row < h r 1) (h2 : 0 ≤ col) (h3 : col < 6) : f_X2_put r row col x h = some (0, hup h (r + 1) (row * 6 + col).toNat x) := by
  unfold f_X2_put
  simp (disch := omega) only [lv, inb, if_pos, if_neg, wr_id]
  rfl
theorem p_append {r : Nat} {a b c d : Int} {h : Hp} (h0 : 0 ≤ h r 1) (h1 : h r 1 < 12) : f_X2_append r a b c d h = some (h r 1, hup (hup (hup (hup (hup (hup (hup h (r + 1) (h r 1 * 6).toNat a) (r + 1) (h r 1 * 6 + 1).toNat b) (r + 1) (h r 1 * 6 + 2).toNat c) (r + 1) (h r 1 * 6 + 3).toNat d) (r + 1) (h r 1 * 6 + 4).toNat 0) (r + 1) (h r 1 * 6 + 5).toNat 0) r 1 (h r 1 + 1)) := by
  unfold f_X2_append
  have e1 : ∀ (k : Nat) (x : Int) (g : Hp), hup g (r + 1) k x r 1 = g r 1 := fun k x g => hup_far (by omega)
  have e2 : h r 1 + 1 - 1 = h r 1 := by omega
  simp (disch := omega) only [lv, lt, inb, if_pos, if_neg, wr_id, e1, hup_same, e2]
end Pure1

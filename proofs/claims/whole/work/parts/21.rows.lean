/-! the pure part: a state as a row of 190 numbers (the model's order); what each step makes of it; the model's steps do so -/
section Rows1
abbrev Rw : Type := Nat → Int
def gup (g : Rw) (i : Nat) (x : Int) : Rw := fun k => if k = i then x else g k
def hrow (h : Hp) (a : Nat) (g : Rw) : Hp := fun x k => if x = a then g k else h x k
/-- a piece of a row moved on -/
def gsh (g : Rw) (lo hi d : Nat) : Rw := fun k => if lo ≤ k ∧ k < hi then g (k + d) else g k
/-- the state at a base, and a row with another state there -/
def gsl (g : Rw) (b : Nat) : Rw := fun k => g (b + k)
def gat (g : Rw) (b : Nat) (s : Rw) : Rw := fun k => if b ≤ k ∧ k < b + 190 then s (k - b) else g k
theorem hup_row (h : Hp) (a i : Nat) (x : Int) : hup h a i x = hrow h a (gup (h a) i x) := by
  funext y k
  unfold hup hrow gup
  by_cases c : y = a
  · subst c
    by_cases c2 : k = i
    · subst c2; simp
    · simp [c2]
  · simp [c]
theorem hrow_hrow (h : Hp) (a : Nat) (g g' : Rw) : hrow (hrow h a g) a g' = hrow h a g' := by
  funext y k
  unfold hrow
  by_cases c : y = a <;> simp [c]
theorem hrow_get (h : Hp) (a : Nat) (g : Rw) : hrow h a g a = g := by
  funext k
  simp [hrow]
theorem hrow_far {h : Hp} {a b : Nat} {g : Rw} (q : ¬ b = a) : hrow h a g b = h b := by
  funext k
  simp [hrow, q]
theorem hrow_self (h : Hp) (a : Nat) : hrow h a (h a) = h := by
  funext y k
  unfold hrow
  by_cases c : y = a <;> simp [c]
theorem gup_same (g : Rw) (i : Nat) (x : Int) : gup g i x i = x := by simp [gup]
theorem gup_eq {g : Rw} {i j : Nat} {x : Int} (q : j = i) : gup g i x j = x := by simp [gup, q]
theorem gup_far {g : Rw} {i j : Nat} {x : Int} (q : ¬ j = i) : gup g i x j = g j := by simp [gup, q]
theorem p_in {x lo hi : Int} {h : Hp} : f_X5_in x lo hi h = some (if lo ≤ x ∧ x ≤ hi then 1 else 0, h) := by
  unfold f_X5_in
  by_cases c1 : x < lo
  · simp (disch := omega) only [if_pos, if_neg]
  by_cases c2 : hi < x
  · simp (disch := omega) only [if_pos, if_neg]
  · simp (disch := omega) only [if_pos, if_neg]
theorem p_uAt {b u : Int} {h : Hp} (h0 : 0 ≤ b) (h1 : b ≤ 1140) (h2 : -20 ≤ u) (h3 : u ≤ 20) : f_X5_umbrellaAt b u h = some (b + 18 + 5 * u, h) := by
  unfold f_X5_umbrellaAt
  simp (disch := omega) only [wr_id]
theorem p_cAt {b u : Int} {h : Hp} (h0 : 0 ≤ b) (h1 : b ≤ 1140) (h2 : -20 ≤ u) (h3 : u ≤ 20) : f_X5_claimAt b u h = some (b + 78 + 6 * u, h) := by
  unfold f_X5_claimAt
  simp (disch := omega) only [wr_id]
/-- copies -/
theorem p_copies_L {f t : Int} (hf : 0 ≤ f ∧ f ≤ 6) (ht : 0 ≤ t ∧ t ≤ 6) (hne : f ≠ t) : ∀ (m n : Nat) (h0 h : Hp) (p : Int), m < n → 0 ≤ p → p + m = 190 → h = hrow h0 77 (gat (h0 77) (190 * t).toNat (fun k => if (k : Int) < p then h0 77 ((190 * f).toNat + k) else h0 77 ((190 * t).toNat + k))) →
    f_X5_copies_L2 f t n p h = some (0, hrow h0 77 (gat (h0 77) (190 * t).toNat (gsl (h0 77) (190 * f).toNat))) := by
  intro m
  induction m with
  | zero =>
    intro n h0 h p hn hp0 hp hh
    obtain ⟨n, rfl⟩ : ∃ n', n = n' + 1 := ⟨n - 1, by omega⟩
    rw [f_X5_copies_L2_s]
    simp (disch := omega) only [if_pos]
    rw [hh]
    congr 3
    funext k
    unfold gat gsl
    try dsimp only
    repeat' split
    all_goals first | rfl | omega | (congr 1; omega)
  | succ m ih =>
    intro n h0 h p hn hp0 hp hh
    obtain ⟨n, rfl⟩ : ∃ n', n = n' + 1 := ⟨n - 1, by omega⟩
    rw [f_X5_copies_L2_s]
    simp (disch := omega) only [lt, inb, if_pos, if_neg, wr_id, hup_row]
    refine ih n h0 _ (p + 1) (by omega) (by omega) (by omega) ?_
    rw [hh, hrow_hrow, hrow_get]
    congr 1
    funext k
    unfold gup gat
    try dsimp only
    repeat' split
    all_goals first | rfl | omega | (congr 1; omega)
theorem p_copies {f t : Int} {h : Hp} (hf : 0 ≤ f ∧ f ≤ 6) (ht : 0 ≤ t ∧ t ≤ 6) (hne : f ≠ t) : f_X5_copies f t h = some (0, hrow h 77 (gat (h 77) (190 * t).toNat (gsl (h 77) (190 * f).toNat))) := by
  unfold f_X5_copies
  refine p_copies_L hf ht hne 190 fu h h 0 (by have := fu_gt; omega) (by omega) (by omega) ?_
  rw [show gat (h 77) (190 * t).toNat (fun k => if (k : Int) < 0 then h 77 ((190 * f).toNat + k) else h 77 ((190 * t).toNat + k)) = h 77 from ?_, hrow_self]
  funext k
  unfold gat
  try dsimp only
  repeat' split
  all_goals first | rfl | omega | (congr 1; omega)
/-- an umbrella, a claim goes -/
def ugo (g : Rw) (u : Nat) : Rw := fun k => if k = 15 then g 15 - 1 else if 18 + 5 * u ≤ k ∧ k < 18 + 5 * (g 15 - 1).toNat then g (k + 5) else g k
def cgo (g : Rw) (c : Nat) : Rw := fun k => if k = 16 then g 16 - 1 else if 78 + 6 * c ≤ k ∧ k < 78 + 6 * (g 16 - 1).toNat then g (k + 6) else g k
theorem p_ugo_L {b : Int} (hb : 0 ≤ b ∧ b ≤ 1140) : ∀ (m n : Nat) (h0 h : Hp) (p : Int) (lo : Nat), m < n → b + 18 ≤ p → 0 ≤ h0 77 (b + 15).toNat ∧ h0 77 (b + 15).toNat ≤ 11 → p + m = b + 18 + 5 * h0 77 (b + 15).toNat → lo ≤ p.toNat → b.toNat + 18 ≤ lo → h = hrow h0 77 (gsh (h0 77) lo p.toNat 5) →
    f_X5_umbrellaGoes_L14 b n p h = some (0, hrow h0 77 (gsh (h0 77) lo (b + 18 + 5 * h0 77 (b + 15).toNat).toNat 5)) := by
  intro m
  induction m with
  | zero =>
    intro n h0 h p lo hn hp0 hN hp hlo hlo2 hh
    obtain ⟨n, rfl⟩ : ∃ n', n = n' + 1 := ⟨n - 1, by omega⟩
    have e1 : h 77 (b + 15).toNat = h0 77 (b + 15).toNat := by
      rw [hh, hrow_get]
      unfold gsh
      rw [if_neg (by omega)]
    rw [f_X5_umbrellaGoes_L14_s]
    simp (disch := omega) only [inb, if_pos, wr_id, e1, p_uAt, bd_s]
    rw [hh, show p.toNat = (b + 18 + 5 * h0 77 (b + 15).toNat).toNat by omega]
  | succ m ih =>
    intro n h0 h p lo hn hp0 hN hp hlo hlo2 hh
    obtain ⟨n, rfl⟩ : ∃ n', n = n' + 1 := ⟨n - 1, by omega⟩
    have e1 : h 77 (b + 15).toNat = h0 77 (b + 15).toNat := by
      rw [hh, hrow_get]
      unfold gsh
      rw [if_neg (by omega)]
    rw [f_X5_umbrellaGoes_L14_s]
    simp (disch := omega) only [lt, inb, if_pos, if_neg, wr_id, e1, p_uAt, bd_s, hup_row]
    refine ih n h0 _ (p + 1) lo (by omega) (by omega) hN (by omega) (by omega) hlo2 ?_
    rw [hh, hrow_hrow, hrow_get]
    congr 1
    funext k
    unfold gup gsh
    try dsimp only
    repeat' split
    all_goals first | rfl | omega | (congr 1; omega)
theorem p_ugo {b u : Int} {h : Hp} (hb : 0 ≤ b ∧ b ≤ 1140) (h0 : 0 ≤ u) (h1 : u < h 77 (b + 15).toNat) (h2 : h 77 (b + 15).toNat ≤ 12) : f_X5_umbrellaGoes b u h = some (0, hrow h 77 (gat (h 77) b.toNat (ugo (gsl (h 77) b.toNat) u.toNat))) := by
  unfold f_X5_umbrellaGoes
  simp (disch := omega) only [lt, inb, if_pos, wr_id, bd_s, p_uAt]
  rw [hup_row]
  have e1 : (hrow h 77 (gup (h 77) (b + 15).toNat (h 77 (b + 15).toNat - 1))) 77 (b + 15).toNat = h 77 (b + 15).toNat - 1 := by rw [hrow_get, gup_same]
  rw [p_ugo_L hb (5 * (h 77 (b + 15).toNat - 1 - u)).toNat fu (hrow h 77 (gup (h 77) (b + 15).toNat (h 77 (b + 15).toNat - 1))) _ (b + 18 + 5 * u) (b + 18 + 5 * u).toNat (by have := fu_gt; omega) (by omega) (by rw [e1]; omega) (by rw [e1]; omega) (by omega) (by omega) ?_]
  · rw [e1, hrow_get, hrow_hrow]
    congr 3
    funext k
    have e2 : b.toNat + 15 = (b + 15).toNat := by omega
    unfold gsh gup gat ugo gsl
    try dsimp only
    rw [e2]
    repeat' split
    all_goals first | rfl | omega | (congr 1; omega)
  · rw [hrow_get, hrow_hrow]
    congr 1
    funext k
    unfold gsh
    rw [if_neg (by omega)]
end Rows1

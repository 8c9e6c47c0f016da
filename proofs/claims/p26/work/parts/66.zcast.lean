/-! the law's own budget: cells used so far, and a call's share -/
theorem Z.cast {M : MI} {uu u2 xw k : Nat} {ls : List (Option AV)} {st : List AV} {h : Hp} {e : Option (Int × Hp)} (hu : uu = u2) (z : Z M u2 xw k ls st h e) : Z M uu xw k ls st h e := by subst hu; exact z
theorem law_cells : (rmM M_L_law).cells = 600000 := by unfold rmM M_L_law; rfl
theorem law_slots : (rmM M_L_law).slots = 7302250 := by unfold rmM M_L_law; rfl
theorem lowL {M' : MI} {uu b : Nat} (c : lowM M_L_law M' 0 0 = true) (e : mB M' = b) (h : uu + b ≤ 600) : lowM M_L_law M' uu 0 = true := by
  unfold lowM at c ⊢
  simp only [Bool.and_eq_true, decide_eq_true_eq] at c ⊢
  refine ⟨c.1, c.2.1, ?_, c.2.2.2⟩
  rw [law_cells, law_slots, e]
  omega

/-! the pure part: a state as a row of 190 numbers (the model's order); what each step makes of it; the model's steps do so -/
section Rows1
abbrev Rw : Type := Nat → Int
def gup (g : Rw) (i : Nat) (x : Int) : Rw := fun k => if k = i then x else g k
def hrow (h : Hp) (a : Nat) (g : Rw) : Hp := fun x k => if x = a then g k else h x k
/-- a piece of a row moved on -/
def gsh (g : Rw) (lo hi d : Nat) : Rw := fun k => if lo ≤ k ∧ k < hi then g (k + d) else g k
/-- the state at a base, and a row with another state there -/
def gsl (g : Rw) (b : Nat) : Rw := fun k => g (b + k)
def gat (g : Rw) (b : Nat) (s : Rw) : Rw := fun k => if b ≤ k ∧ k < b + 190 then s (k - b) else g k
theorem hup_row (h : Hp) (a i : Nat) (x : Int) : hup h a i x = hrow h a (gup (h a) i x) := by
  funext y k
  unfold hup hrow gup
  by_cases c : y = a
  · subst c
    by_cases c2 : k = i
    · subst c2; simp
    · simp [c2]
  · simp [c]
theorem hrow_hrow (h : Hp) (a : Nat) (g g' : Rw) : hrow (hrow h a g) a g' = hrow h a g' := by
  funext y k
  unfold hrow
  by_cases c : y = a <;> simp [c]
theorem hrow_get (h : Hp) (a : Nat) (g : Rw) : hrow h a g a = g := by
  funext k
  simp [hrow]
theorem hrow_far {h : Hp} {a b : Nat} {g : Rw} (q : ¬ b = a) : hrow h a g b = h b := by
  funext k
  simp [hrow, q]
theorem hrow_self (h : Hp) (a : Nat) : hrow h a (h a) = h := by
  funext y k
  unfold hrow
  by_cases c : y = a <;> simp [c]
theorem gup_same (g : Rw) (i : Nat) (x : Int) : gup g i x i = x := by simp [gup]
theorem gup_eq {g : Rw} {i j : Nat} {x : Int} (q : j = i) : gup g i x j = x := by simp [gup, q]
theorem gup_far {g : Rw} {i j : Nat} {x : Int} (q : ¬ j = i) : gup g i x j = g j := by simp [gup, q]
theorem p_in {x lo hi : Int} {h : Hp} : f_X5_in x lo hi h = some (if lo ≤ x ∧ x ≤ hi then 1 else 0, h) := by
  unfold f_X5_in
  by_cases c1 : x < lo
  · simp (disch := omega) only [if_pos, if_neg]
  by_cases c2 : hi < x
  · simp (disch := omega) only [if_pos, if_neg]
  · simp (disch := omega) only [if_pos, if_neg]
theorem p_uAt {b u : Int} {h : Hp} (h0 : 0 ≤ b) (h1 : b ≤ 1140) (h2 : -20 ≤ u) (h3 : u ≤ 20) : f_X5_umbrellaAt b u h = some (b + 18 + 5 * u, h) := by
  unfold f_X5_umbrellaAt
  simp (disch := omega) only [wr_id]
theorem p_cAt {b u : Int} {h : Hp} (h0 : 0 ≤ b) (h1 : b ≤ 1140) (h2 : -20 ≤ u) (h3 : u ≤ 20) : f_X5_claimAt b u h = some (b + 78 + 6 * u, h) := by
  unfold f_X5_claimAt
  simp (disch := omega) only [wr_id]
/-- copies -/
theorem p_copies_L {f t : Int} (hf : 0 ≤ f ∧ f ≤ 6) (ht : 0 ≤ t ∧ t ≤ 6) (hne : f ≠ t) : ∀ (m n : Nat) (h0 h : Hp) (p : Int), m < n → 0 ≤ p → p + m = 190 → h = hrow h0 77 (gat (h0 77) (190 * t).toNat (fun k => if (k : Int) < p then h0 77 ((190 * f).toNat + k) else h0 77 ((190 * t).toNat + k))) →
    f_X5_copies_L2 f t n p h = some (0, hrow h0 77 (gat (h0 77) (190 * t).toNat (gsl (h0 77) (190 * f).toNat))) := by
  intro m
  induction m with
  | zero =>
    intro n h0 h p hn hp0 hp hh
    obtain ⟨n, rfl⟩ : ∃ n', n = n' + 1 := ⟨n - 1, by omega⟩
    rw [f_X5_copies_L2_s]
    simp (disch := omega) only [if_pos]
    rw [hh]
    congr 3
    funext k
    unfold gat gsl
    try dsimp only
    repeat' split
    all_goals first | rfl | omega | (congr 1; omega)
  | succ m ih =>
    intro n h0 h p hn hp0 hp hh
    obtain ⟨n, rfl⟩ : ∃ n', n = n' + 1 := ⟨n - 1, by omega⟩
    rw [f_X5_copies_L2_s]
    simp (disch := omega) only [lt, inb, if_pos, if_neg, wr_id, hup_row]
    refine ih n h0 _ (p + 1) (by omega) (by omega) (by omega) ?_
    rw [hh, hrow_hrow, hrow_get]
    congr 1
    funext k
    unfold gup gat
    try dsimp only
    repeat' split
    all_goals first | rfl | omega | (congr 1; omega)
theorem p_copies {f t : Int} {h : Hp} (hf : 0 ≤ f ∧ f ≤ 6) (ht : 0 ≤ t ∧ t ≤ 6) (hne : f ≠ t) : f_X5_copies f t h = some (0, hrow h 77 (gat (h 77) (190 * t).toNat (gsl (h 77) (190 * f).toNat))) := by
  unfold f_X5_copies
  refine p_copies_L hf ht hne 190 fu h h 0 (by have := fu_gt; omega) (by omega) (by omega) ?_
  rw [show gat (h 77) (190 * t).toNat (fun k => if (k : Int) < 0 then h 77 ((190 * f).toNat + k) else h 77 ((190 * t).toNat + k)) = h 77 from ?_, hrow_self]
  funext k
  unfold gat
  try dsimp only
  repeat' split
  all_goals first | rfl | omega | (congr 1; omega)
/-- an umbrella, a claim goes -/
def ugo (g : Rw) (u : Nat) : Rw := fun k => if k = 15 then g 15 - 1 else if 18 + 5 * u ≤ k ∧ k < 18 + 5 * (g 15 - 1).toNat then g (k + 5) else g k
def cgo (g : Rw) (c : Nat) : Rw := fun k => if k = 16 then g 16 - 1 else if 78 + 6 * c ≤ k ∧ k < 78 + 6 * (g 16 - 1).toNat then g (k + 6) else g k
theorem p_ugo_L {b : Int} (hb : 0 ≤ b ∧ b ≤ 1140) : ∀ (m n : Nat) (h0 h : Hp) (p : Int) (lo : Nat), m < n → b + 18 ≤ p → 0 ≤ h0 77 (b + 15).toNat ∧ h0 77 (b + 15).toNat ≤ 11 → p + m = b + 18 + 5 * h0 77 (b + 15).toNat → lo ≤ p.toNat → b.toNat + 18 ≤ lo → h = hrow h0 77 (gsh (h0 77) lo p.toNat 5) →
    f_X5_umbrellaGoes_L14 b n p h = some (0, hrow h0 77 (gsh (h0 77) lo (b + 18 + 5 * h0 77 (b + 15).toNat).toNat 5)) := by
  intro m
  induction m with
  | zero =>
    intro n h0 h p lo hn hp0 hN hp hlo hlo2 hh
    obtain ⟨n, rfl⟩ : ∃ n', n = n' + 1 := ⟨n - 1, by omega⟩
    have e1 : h 77 (b + 15).toNat = h0 77 (b + 15).toNat := by
      rw [hh, hrow_get]
      unfold gsh
      rw [if_neg (by omega)]
    rw [f_X5_umbrellaGoes_L14_s]
    simp (disch := omega) only [inb, if_pos, wr_id, e1, p_uAt, bd_s]
    rw [hh, show p.toNat = (b + 18 + 5 * h0 77 (b + 15).toNat).toNat by omega]
  | succ m ih =>
    intro n h0 h p lo hn hp0 hN hp hlo hlo2 hh
    obtain ⟨n, rfl⟩ : ∃ n', n = n' + 1 := ⟨n - 1, by omega⟩
    have e1 : h 77 (b + 15).toNat = h0 77 (b + 15).toNat := by
      rw [hh, hrow_get]
      unfold gsh
      rw [if_neg (by omega)]
    rw [f_X5_umbrellaGoes_L14_s]
    simp (disch := omega) only [lt, inb, if_pos, if_neg, wr_id, e1, p_uAt, bd_s, hup_row]
    refine ih n h0 _ (p + 1) lo (by omega) (by omega) hN (by omega) (by omega) hlo2 ?_
    rw [hh, hrow_hrow, hrow_get]
    congr 1
    funext k
    unfold gup gsh
    try dsimp only
    repeat' split
    all_goals first | rfl | omega | (congr 1; omega)
theorem p_ugo {b u : Int} {h : Hp} (hb : 0 ≤ b ∧ b ≤ 1140) (h0 : 0 ≤ u) (h1 : u < h 77 (b + 15).toNat) (h2 : h 77 (b + 15).toNat ≤ 12) : f_X5_umbrellaGoes b u h = some (0, hrow h 77 (gat (h 77) b.toNat (ugo (gsl (h 77) b.toNat) u.toNat))) := by
  unfold f_X5_umbrellaGoes
  simp (disch := omega) only [lt, inb, if_pos, wr_id, bd_s, p_uAt]
  rw [hup_row]
  have e1 : (hrow h 77 (gup (h 77) (b + 15).toNat (h 77 (b + 15).toNat - 1))) 77 (b + 15).toNat = h 77 (b + 15).toNat - 1 := by rw [hrow_get, gup_same]
  rw [p_ugo_L hb (5 * (h 77 (b + 15).toNat - 1 - u)).toNat fu (hrow h 77 (gup (h 77) (b + 15).toNat (h 77 (b + 15).toNat - 1))) _ (b + 18 + 5 * u) (b + 18 + 5 * u).toNat (by have := fu_gt; omega) (by omega) (by rw [e1]; omega) (by rw [e1]; omega) (by omega) (by omega) ?_]
  · rw [e1, hrow_get, hrow_hrow]
    congr 3
    funext k
    have e2 : b.toNat + 15 = (b + 15).toNat := by omega
    unfold gsh gup gat ugo gsl
    try dsimp only
    rw [e2]
    repeat' split
    all_goals first | rfl | omega | (congr 1; omega)
  · rw [hrow_get, hrow_hrow]
    congr 1
    funext k
    unfold gsh
    rw [if_neg (by omega)]
theorem p_cgo_L {b : Int} (hb : 0 ≤ b ∧ b ≤ 1140) : ∀ (m n : Nat) (h0 h : Hp) (p : Int) (lo : Nat), m < n → b + 78 ≤ p → 0 ≤ h0 77 (b + 16).toNat ∧ h0 77 (b + 16).toNat ≤ 11 → p + m = b + 78 + 6 * h0 77 (b + 16).toNat → lo ≤ p.toNat → b.toNat + 78 ≤ lo → h = hrow h0 77 (gsh (h0 77) lo p.toNat 6) →
    f_X5_claimGoes_L14 b n p h = some (0, hrow h0 77 (gsh (h0 77) lo (b + 78 + 6 * h0 77 (b + 16).toNat).toNat 6)) := by
  intro m
  induction m with
  | zero =>
    intro n h0 h p lo hn hp0 hN hp hlo hlo2 hh
    obtain ⟨n, rfl⟩ : ∃ n', n = n' + 1 := ⟨n - 1, by omega⟩
    have e1 : h 77 (b + 16).toNat = h0 77 (b + 16).toNat := by
      rw [hh, hrow_get]
      unfold gsh
      rw [if_neg (by omega)]
    rw [f_X5_claimGoes_L14_s]
    simp (disch := omega) only [inb, if_pos, wr_id, e1, p_cAt, bd_s]
    rw [hh, show p.toNat = (b + 78 + 6 * h0 77 (b + 16).toNat).toNat by omega]
  | succ m ih =>
    intro n h0 h p lo hn hp0 hN hp hlo hlo2 hh
    obtain ⟨n, rfl⟩ : ∃ n', n = n' + 1 := ⟨n - 1, by omega⟩
    have e1 : h 77 (b + 16).toNat = h0 77 (b + 16).toNat := by
      rw [hh, hrow_get]
      unfold gsh
      rw [if_neg (by omega)]
    rw [f_X5_claimGoes_L14_s]
    simp (disch := omega) only [lt, inb, if_pos, if_neg, wr_id, e1, p_cAt, bd_s, hup_row]
    refine ih n h0 _ (p + 1) lo (by omega) (by omega) hN (by omega) (by omega) hlo2 ?_
    rw [hh, hrow_hrow, hrow_get]
    congr 1
    funext k
    unfold gup gsh
    try dsimp only
    repeat' split
    all_goals first | rfl | omega | (congr 1; omega)
theorem p_cgo {b u : Int} {h : Hp} (hb : 0 ≤ b ∧ b ≤ 1140) (h0 : 0 ≤ u) (h1 : u < h 77 (b + 16).toNat) (h2 : h 77 (b + 16).toNat ≤ 12) : f_X5_claimGoes b u h = some (0, hrow h 77 (gat (h 77) b.toNat (cgo (gsl (h 77) b.toNat) u.toNat))) := by
  unfold f_X5_claimGoes
  simp (disch := omega) only [lt, inb, if_pos, wr_id, bd_s, p_cAt]
  rw [hup_row]
  have e1 : (hrow h 77 (gup (h 77) (b + 16).toNat (h 77 (b + 16).toNat - 1))) 77 (b + 16).toNat = h 77 (b + 16).toNat - 1 := by rw [hrow_get, gup_same]
  rw [p_cgo_L hb (6 * (h 77 (b + 16).toNat - 1 - u)).toNat fu (hrow h 77 (gup (h 77) (b + 16).toNat (h 77 (b + 16).toNat - 1))) _ (b + 78 + 6 * u) (b + 78 + 6 * u).toNat (by have := fu_gt; omega) (by omega) (by rw [e1]; omega) (by rw [e1]; omega) (by omega) (by omega) ?_]
  · rw [e1, hrow_get, hrow_hrow]
    congr 3
    funext k
    have e2 : b.toNat + 16 = (b + 16).toNat := by omega
    unfold gsh gup gat cgo gsl
    try dsimp only
    rw [e2]
    repeat' split
    all_goals first | rfl | omega | (congr 1; omega)
  · rw [hrow_get, hrow_hrow]
    congr 1
    funext k
    unfold gsh
    rw [if_neg (by omega)]
/-- the model with another state at a base -/
def mst (b : Nat) (h : Hp) (s : Rw) : Hp := hrow h 77 (gat (h 77) b s)
theorem gat_gat (g : Rw) (b : Nat) (s s' : Rw) : gat (gat g b s) b s' = gat g b s' := by
  funext k
  unfold gat
  repeat' split
  all_goals first | rfl | omega
theorem mst_mst (b : Nat) (h : Hp) (s s' : Rw) : mst b (mst b h s) s' = mst b h s' := by
  unfold mst
  rw [hrow_hrow, hrow_get, gat_gat]
/-- a row that is the model's behind its 190 places -/
def hiR (h : Hp) (b : Nat) (s : Rw) : Prop := ∀ k, 190 ≤ k → s k = h 77 (b + k)
theorem mst_sl {b : Nat} {h : Hp} {s : Rw} (q : hiR h b s) : gsl (mst b h s 77) b = s := by
  funext k
  unfold mst gsl
  rw [hrow_get]
  unfold gat
  by_cases c : k < 190
  · rw [if_pos (by omega)]
    congr 1
    omega
  · rw [if_neg (by omega), q k (by omega)]
theorem hi_sl (h : Hp) (b : Nat) : hiR h b (gsl (h 77) b) := fun k _ => rfl
theorem hi_mst {h : Hp} {b : Nat} {s s' : Rw} (q : hiR h b s') : hiR (mst b h s) b s' := by
  intro k hk
  rw [q k hk]
  unfold mst
  rw [hrow_get]
  unfold gat
  rw [if_neg (by omega)]
theorem hi_gup {h : Hp} {b i : Nat} {s : Rw} {x : Int} (q : hiR h b s) (hi : i < 190) : hiR h b (gup s i x) := by
  intro k hk
  rw [gup_far (by omega)]
  exact q k hk
theorem mst_self (b : Nat) (h : Hp) : mst b h (gsl (h 77) b) = h := by
  unfold mst
  rw [show gat (h 77) b (gsl (h 77) b) = h 77 from ?_, hrow_self]
  funext k
  unfold gat gsl
  split
  · congr 1; omega
  · rfl
theorem hup_mst {b c x : Int} {h : Hp} (hb : 0 ≤ b) (hc : 0 ≤ c) (hc2 : c < 190) : hup h 77 (b + c).toNat x = mst b.toNat h (gup (gsl (h 77) b.toNat) c.toNat x) := by
  rw [hup_row]
  unfold mst
  congr 1
  funext k
  unfold gup gat gsl
  try dsimp only
  repeat' split
  all_goals first | rfl | omega | (congr 1; omega)
theorem rd_sl {b c : Int} {h : Hp} (hb : 0 ≤ b) (hc : 0 ≤ c) : h 77 (b + c).toNat = gsl (h 77) b.toNat c.toNat := by
  unfold gsl
  congr 1
  omega
theorem p_ugo2 {b u : Int} {h : Hp} (hb : 0 ≤ b ∧ b ≤ 1140) (h0 : 0 ≤ u) (h1 : u < gsl (h 77) b.toNat 15) (h2 : gsl (h 77) b.toNat 15 ≤ 12) : f_X5_umbrellaGoes b u h = some (0, mst b.toNat h (ugo (gsl (h 77) b.toNat) u.toNat)) := by
  have e : h 77 (b + 15).toNat = gsl (h 77) b.toNat 15 := rd_sl (c := 15) hb.1 (by omega)
  exact p_ugo hb h0 (by rw [e]; exact h1) (by rw [e]; exact h2)
theorem p_cgo2 {b u : Int} {h : Hp} (hb : 0 ≤ b ∧ b ≤ 1140) (h0 : 0 ≤ u) (h1 : u < gsl (h 77) b.toNat 16) (h2 : gsl (h 77) b.toNat 16 ≤ 12) : f_X5_claimGoes b u h = some (0, mst b.toNat h (cgo (gsl (h 77) b.toNat) u.toNat)) := by
  have e : h 77 (b + 16).toNat = gsl (h 77) b.toNat 16 := rd_sl (c := 16) hb.1 (by omega)
  exact p_cgo hb h0 (by rw [e]; exact h1) (by rw [e]; exact h2)
theorem hi_ugo {h : Hp} {b u : Nat} {s : Rw} (q : hiR h b s) (hn : s 15 ≤ 12) : hiR h b (ugo s u) := by
  intro k hk
  unfold ugo
  rw [if_neg (by omega), if_neg (by omega)]
  exact q k hk
theorem hi_cgo {h : Hp} {b u : Nat} {s : Rw} (q : hiR h b s) (hn : s 16 ≤ 12) : hiR h b (cgo s u) := by
  intro k hk
  unfold cgo
  rw [if_neg (by omega), if_neg (by omega)]
  exact q k hk
/-- an entry is written, where there is room -/
noncomputable def wr1 (g : Rw) (kind age coins : Int) : Rw := fun k => if k = 13 then wr (g 13 + coins) else if k = 17 then g 17 + 1 else if k = 150 + 4 * (g 17).toNat then g 0 else if k = 150 + 4 * (g 17).toNat + 1 then kind else if k = 150 + 4 * (g 17).toNat + 2 then age else if k = 150 + 4 * (g 17).toNat + 3 then coins else g k
def wsh (g : Rw) : Rw := fun k => if k = 17 then g 17 - 1 else if 150 ≤ k ∧ k < 186 then g (k + 4) else g k
noncomputable def wri (g : Rw) (kind age coins : Int) : Rw := wr1 (if g 17 = 10 then wsh g else g) kind age coins
theorem p_wr1 {b kind age coins : Int} {h : Hp} (hb : 0 ≤ b ∧ b ≤ 1140) (h0 : 0 ≤ h 77 (b + 17).toNat) (h1 : h 77 (b + 17).toNat ≤ 9) : f_X5_writes_J41 b kind age coins h = some (0, mst b.toNat h (wr1 (gsl (h 77) b.toNat) kind age coins)) := by
  unfold f_X5_writes_J41
  have z : b + 0 = b := by omega
  have f1 : ∀ (g : Rw) (i : Nat) (x : Int), ¬ (b + 17).toNat = i → gup g i x (b + 17).toNat = g (b + 17).toNat := fun g i x q => gup_far q
  have f2 : ∀ (g : Rw) (i : Nat) (x : Int), ¬ (b + 13).toNat = i → gup g i x (b + 13).toNat = g (b + 13).toNat := fun g i x q => gup_far q
  simp (disch := omega) only [lt, lv, inb, if_pos, wr_id, hup_row, hrow_hrow, hrow_get, z, f1, f2]
  unfold mst
  congr 3
  have e0 : b.toNat + 0 = b.toNat := by omega
  have e13 : b.toNat + 13 = (b + 13).toNat := by omega
  have e17 : b.toNat + 17 = (b + 17).toNat := by omega
  funext k
  unfold gup gat wr1 gsl
  try dsimp only
  rw [e0, e13, e17]
  by_cases c1 : k = (b + 13).toNat
  · rw [if_pos c1, if_pos (by omega), if_pos (by omega)]
  by_cases c2 : k = (b + 17).toNat
  · rw [if_neg (by omega), if_pos c2, if_pos (by omega), if_neg (by omega), if_pos (by omega)]
  by_cases c3 : k = (b + 150 + 4 * h 77 (b + 17).toNat).toNat
  · simp (disch := omega) only [if_pos, if_neg]
  by_cases c4 : k = (b + 150 + 4 * h 77 (b + 17).toNat + 1).toNat
  · simp (disch := omega) only [if_pos, if_neg]
  by_cases c5 : k = (b + 150 + 4 * h 77 (b + 17).toNat + 2).toNat
  · simp (disch := omega) only [if_pos, if_neg]
  by_cases c6 : k = (b + 150 + 4 * h 77 (b + 17).toNat + 3).toNat
  · simp (disch := omega) only [if_pos, if_neg]
  by_cases c7 : b.toNat ≤ k ∧ k < b.toNat + 190
  · simp (disch := omega) only [if_pos, if_neg]
    congr 1
    omega
  · simp (disch := omega) only [if_pos, if_neg]
end Rows1

/-! the pure part: values, rows of values, orders, in step -/
section Read2
def dg (h : Hp) (p : Int) : Int := if 48 ≤ ch h p ∧ ch h p ≤ 57 then ch h p - 48 else -1
theorem dg_b (h : Hp) (p : Int) : -1 ≤ dg h p ∧ dg h p ≤ 9 := by
  unfold dg
  split <;> omega
theorem dg_in {hC hM : Hp} (t : Tx hC hM) {p : Int} (p0 : 0 ≤ p) (q : dg hM p ≠ -1) : p < hM 76 3 := by
  rcases ch_b t p p0 with b | b
  · unfold dg at q
    rw [if_neg (by omega)] at q
    exact absurd rfl q
  · exact b.2.2
theorem l_dig {hC hM : Hp} {k p : Int} {g : Rw} (t : Tx hC hM) (p0 : 0 ≤ p) : f_X3_digitHere (tc hC k p g) = some (dg hM p, tc hC k p g) := by
  have b := ch_b t p p0
  unfold f_X3_digitHere dg
  rw [l_sign t p0, bd_s]
  by_cases c1 : ch hM p < 48
  · rw [if_pos c1, if_neg (by omega)]
  · rw [if_neg c1]
    by_cases c2 : 57 < ch hM p
    · rw [if_pos c2, if_neg (by omega)]
    · rw [if_neg c2, if_pos (show 48 ≤ ch hM p ∧ ch hM p ≤ 57 by omega), wr_id (by omega) (by omega)]
theorem m_dig {hC hM : Hp} {c p : Int} {g : Rw} (t : Tx hC hM) (p0 : 0 ≤ p) : f_X5_isDigit (tm hM c p g) = some (if dg hM p = -1 then 0 else 1, tm hM c p g) := by
  have b := ch_b t p p0
  have l60 := t.2.2.1
  unfold f_X5_isDigit dg
  rw [tm_76.1, tm_76.2.2, tm_row (a := 78) (by omega) (by omega)]
  by_cases c1 : hM 76 3 ≤ p
  · rw [if_pos c1, if_pos (by rw [if_neg (by omega)])]
  · have e : ch hM p = hM 78 p.toNat := by
      unfold ch
      rw [if_pos (by omega)]
    rw [if_neg c1, if_pos (by unfold inb; omega), p_in, bd_s, ← e]
    by_cases c2 : 48 ≤ ch hM p ∧ ch hM p ≤ 57
    · rw [if_pos c2, if_pos c2, if_neg (by omega), if_neg (by omega)]
    · rw [if_neg c2, if_neg c2, if_pos rfl, if_pos rfl]
/-- a number, or "-" where it may be: whether, to where, which -/
def rdV (h : Hp) (a : Bool) (p : Int) : Int × Int × Int :=
  if a = true ∧ ch h p = 45 then (1, p + 1, -1) else if dg h p = -1 then (0, p, 0) else if dg h (p + 1) = -1 then (1, p + 1, dg h p) else (1, p + 2, 10 * dg h p + dg h (p + 1))
theorem rdV_b {hC hM : Hp} {a : Bool} {p : Int} (t : Tx hC hM) (p0 : 0 ≤ p) (p1 : p ≤ hM 76 3) : ((rdV hM a p).1 = 0 ∧ (rdV hM a p).2.1 = p) ∨ ((rdV hM a p).1 = 1 ∧ p ≤ (rdV hM a p).2.1 ∧ (rdV hM a p).2.1 ≤ hM 76 3) := by
  unfold rdV
  by_cases c0 : a = true ∧ ch hM p = 45
  · rw [if_pos c0]
    have b := ch_b t p p0
    have := c0.2
    refine Or.inr ⟨rfl, ?_, ?_⟩
    · show p ≤ p + 1
      omega
    · show p + 1 ≤ _
      omega
  · rw [if_neg c0]
    by_cases c1 : dg hM p = -1
    · rw [if_pos c1]
      exact Or.inl ⟨rfl, rfl⟩
    · rw [if_neg c1]
      have b := dg_in t p0 c1
      by_cases c2 : dg hM (p + 1) = -1
      · rw [if_pos c2]
        refine Or.inr ⟨rfl, ?_, ?_⟩
        · show p ≤ p + 1
          omega
        · show p + 1 ≤ _
          omega
      · rw [if_neg c2]
        have b2 := dg_in t (by omega) c2
        refine Or.inr ⟨rfl, ?_, ?_⟩
        · show p ≤ p + 2
          omega
        · show p + 2 ≤ _
          omega
theorem c_num {hC hM : Hp} {k p x1 x2 : Int} {g : Rw} {i : Nat} {c2 : Int → Hp → Option (Int × Hp)} (t : Tx hC hM) (p0 : 0 ≤ p) (p1 : p ≤ 60) (hi : i < 4) :
    f_X3_readNumbers_J30 c2 x1 x2 (i : Int) (tc hC k p g) = if dg hM p = -1 then some (0, tc hC k p g) else if dg hM (p + 1) = -1 then c2 ((i + 1 : Nat) : Int) (tc hC k (p + 1) (gup g i (dg hM p))) else c2 ((i + 1 : Nat) : Int) (tc hC k (p + 2) (gup g i (10 * dg hM p + dg hM (p + 1)))) := by
  have b1 := dg_b hM p
  have b2 := dg_b hM (p + 1)
  unfold f_X3_readNumbers_J30
  rw [l_dig t p0, bd_s]
  by_cases c1 : dg hM p = -1
  · rw [if_pos c1, if_pos c1]
  · rw [if_neg c1, if_neg c1]
    unfold f_X3_readNumber lt lv
    dsimp only
    rw [l_dig t p0, bd_s, tc_28.1, wr_id (z := p + 1) (by omega) (by omega), tc_p, l_dig t (by omega), bd_s, show ((i : Int)).toNat = i by omega, wr_id (z := (i : Int) + 1) (by omega) (by omega), show (i : Int) + 1 = ((i + 1 : Nat) : Int) by omega]
    by_cases c3 : dg hM (p + 1) = -1
    · rw [if_pos c3, if_pos c3, bd_s, if_pos (by unfold inb; omega), tc_g]
    · rw [if_neg c3, if_neg c3, tc_28.1, wr_id (z := p + 1 + 1) (by omega) (by omega), tc_p, bd_s, if_pos (by unfold inb; omega), tc_g, wr_id (z := dg hM p * 10) (by omega) (by omega), wr_id (z := dg hM p * 10 + dg hM (p + 1)) (by omega) (by omega), show p + 1 + 1 = p + 2 by omega, show dg hM p * 10 + dg hM (p + 1) = 10 * dg hM p + dg hM (p + 1) by omega]
theorem m_num {hC hM : Hp} {c p : Int} {g : Rw} {i : Nat} (t : Tx hC hM) (p0 : 0 ≤ p) (p1 : p ≤ 60) (hi : i < 4) :
    f_X5_readsNumber (i : Int) (tm hM c p g) = if dg hM p = -1 then some (0, tm hM c p (gup g i 0)) else if dg hM (p + 1) = -1 then some (1, tm hM c (p + 1) (gup g i (dg hM p))) else some (1, tm hM c (p + 2) (gup g i (10 * dg hM p + dg hM (p + 1)))) := by
  have b1 := dg_b hM p
  have b2 := dg_b hM (p + 1)
  have l60 := t.2.2.1
  have ii : inb (i : Int) 4 := by unfold inb; omega
  have chd : ∀ q, dg hM q ≠ -1 → ch hM q = dg hM q + 48 := fun q h => by
    unfold dg at h ⊢
    by_cases c : 48 ≤ ch hM q ∧ ch hM q ≤ 57
    · rw [if_pos c]
      omega
    · rw [if_neg c] at h
      exact absurd rfl h
  have ch8 : ∀ q, 0 ≤ q → dg hM q ≠ -1 → hM 78 q.toNat = dg hM q + 48 ∧ q < 60 := fun q q0 h => by
    have l := dg_in t q0 h
    have e := chd q h
    unfold ch at e
    rw [if_pos l] at e
    exact ⟨e, by omega⟩
  obtain ⟨n, hn⟩ : ∃ n', fu = n' + 3 := ⟨fu - 3, by have := fu_gt; omega⟩
  unfold f_X5_readsNumber
  rw [if_pos ii]
  unfold lt lv
  dsimp only
  rw [show ((i : Int)).toNat = i by omega, tm_g, tm_76.1, hn, f_X5_readsNumber_L8_s, m_dig t p0, bd_s]
  by_cases c1 : dg hM p = -1
  · rw [if_pos c1, if_pos c1, if_pos rfl, tm_76.1, if_pos (Int.le_refl p)]
  · obtain ⟨e1, l1⟩ := ch8 p p0 c1
    rw [if_neg c1, if_neg c1, if_neg (by omega), tm_76.1, wr_id (z := p + 2) (by omega) (by omega), if_neg (by omega), if_pos ii, if_pos (by unfold inb; omega), if_pos ii]
    unfold lt
    dsimp only
    rw [show ((i : Int)).toNat = i by omega, tm_83, gup_same, tm_row (a := 78) (by omega) (by omega), e1, wr_id (z := 10 * 0) (by omega) (by omega), wr_id (z := 10 * 0 + (dg hM p + 48)) (by omega) (by omega), wr_id (z := 10 * 0 + (dg hM p + 48) - 48) (by omega) (by omega), tm_g, tm_76.1, wr_id (z := p + 1) (by omega) (by omega), tm_p, gup2, show 10 * 0 + (dg hM p + 48) - 48 = dg hM p by omega, f_X5_readsNumber_L8_s, m_dig t (by omega), bd_s]
    by_cases c2 : dg hM (p + 1) = -1
    · rw [if_pos c2, if_pos c2, if_pos rfl, tm_76.1, if_neg (by omega)]
    · obtain ⟨e2, l2⟩ := ch8 (p + 1) (by omega) c2
      rw [if_neg c2, if_neg c2, if_neg (by omega), tm_76.1, wr_id (z := p + 2) (by omega) (by omega), if_neg (by omega), if_pos ii, if_pos (by unfold inb; omega), if_pos ii]
      unfold lt
      dsimp only
      rw [show ((i : Int)).toNat = i by omega, tm_83, gup_same, tm_row (a := 78) (by omega) (by omega), e2, wr_id (z := 10 * dg hM p) (by omega) (by omega), wr_id (z := 10 * dg hM p + (dg hM (p + 1) + 48)) (by omega) (by omega), wr_id (z := 10 * dg hM p + (dg hM (p + 1) + 48) - 48) (by omega) (by omega), tm_g, tm_76.1, wr_id (z := p + 1 + 1) (by omega) (by omega), tm_p, gup2, show 10 * dg hM p + (dg hM (p + 1) + 48) - 48 = 10 * dg hM p + dg hM (p + 1) by omega, show p + 1 + 1 = p + 2 by omega, f_X5_readsNumber_L8_s, m_dig t (by omega), bd_s, tm_76.1, wr_id (z := p + 2) (by omega) (by omega), if_neg (show ¬ p + 2 ≤ p by omega), if_pos (show p + 2 ≤ p + 2 by omega)]
      by_cases c3 : dg hM (p + 2) = -1
      · rw [if_pos c3, if_pos rfl]
      · rw [if_neg c3, if_neg (by omega)]
theorem c_val {hC hM : Hp} {k p x1 x2 : Int} {a : Bool} {g : Rw} {i : Nat} {c2 : Int → Hp → Option (Int × Hp)} (t : Tx hC hM) (p0 : 0 ≤ p) (p1 : p ≤ 60) (hi : i < 4) (ha : x2 = if a then 1 else 0) :
    f_X3_readNumbers_J18 c2 x1 x2 (i : Int) (tc hC k p g) = if (rdV hM a p).1 = 0 then some (0, tc hC k p g) else c2 ((i + 1 : Nat) : Int) (tc hC k (rdV hM a p).2.1 (gup g i (rdV hM a p).2.2)) := by
  have num : ¬ (a = true ∧ ch hM p = 45) → f_X3_readNumbers_J30 c2 x1 x2 (i : Int) (tc hC k p g) = if (rdV hM a p).1 = 0 then some (0, tc hC k p g) else c2 ((i + 1 : Nat) : Int) (tc hC k (rdV hM a p).2.1 (gup g i (rdV hM a p).2.2)) := fun c0 => by
    rw [c_num t p0 p1 hi]
    unfold rdV
    rw [if_neg c0]
    by_cases c1 : dg hM p = -1
    · rw [if_pos c1, if_pos c1, if_pos rfl]
    · rw [if_neg c1, if_neg c1]
      by_cases c2 : dg hM (p + 1) = -1
      · rw [if_pos c2, if_pos c2, if_neg (show ¬ (1 : Int) = 0 by omega)]
      · rw [if_neg c2, if_neg c2, if_neg (show ¬ (1 : Int) = 0 by omega)]
  unfold f_X3_readNumbers_J18
  cases a with
  | false =>
    have x0 : x2 = 0 := ha
    rw [if_pos x0]
    exact num (fun q => by cases q.1)
  | true =>
    have x0 : x2 = 1 := ha
    rw [if_neg (by omega), l_rs t p0 (by omega)]
    by_cases c0 : ch hM p = 45
    · rw [if_pos c0, bd_s, if_neg (by omega), if_pos (by unfold inb; omega)]
      have rv : rdV hM true p = (1, p + 1, -1) := by
        unfold rdV
        rw [if_pos ⟨rfl, c0⟩]
      rw [rv]
      unfold lt
      dsimp only
      rw [if_neg (show ¬ (1 : Int) = 0 by omega), show ((i : Int)).toNat = i by omega, tc_g, wr_id (by omega) (by omega), show (i : Int) + 1 = ((i + 1 : Nat) : Int) by omega]
    · rw [if_neg c0, bd_s, if_pos rfl]
      exact num (fun q => c0 q.2)
theorem m_val {hC hM : Hp} {c p x2 : Int} {a : Bool} {g : Rw} {i : Nat} (t : Tx hC hM) (p0 : 0 ≤ p) (p1 : p ≤ 60) (hi : i < 4) (ha : x2 = if a then 0 else 1) :
    ∃ w, f_X5_readsValue (i : Int) x2 (tm hM c p g) = some ((rdV hM a p).1, tm hM c (rdV hM a p).2.1 (gup g i w)) ∧ ((rdV hM a p).1 = 1 → w = (rdV hM a p).2.2) := by
  have b0 : isB 0 := by unfold isB; omega
  have b1 : isB 1 := by unfold isB; omega
  have num : ¬ (a = true ∧ ch hM p = 45) → ∃ w, (bd (f_X5_readsNumber (i : Int) (tm hM c p g)) fun r1 h1 => if isB r1 then some (r1, h1) else none) = some ((rdV hM a p).1, tm hM c (rdV hM a p).2.1 (gup g i w)) ∧ ((rdV hM a p).1 = 1 → w = (rdV hM a p).2.2) := fun c0 => by
    rw [m_num t p0 p1 hi]
    unfold rdV
    rw [if_neg c0]
    by_cases c1 : dg hM p = -1
    · rw [if_pos c1, if_pos c1, bd_s, if_pos b0]
      exact ⟨0, rfl, fun q => by cases q⟩
    · rw [if_neg c1, if_neg c1]
      by_cases c2 : dg hM (p + 1) = -1
      · rw [if_pos c2, if_pos c2, bd_s, if_pos b1]
        exact ⟨_, rfl, fun _ => rfl⟩
      · rw [if_neg c2, if_neg c2, bd_s, if_pos b1]
        exact ⟨_, rfl, fun _ => rfl⟩
  unfold f_X5_readsValue
  cases a with
  | false =>
    have x0 : x2 = 1 := ha
    rw [if_pos (show ¬ x2 = 0 by omega)]
    exact num (fun q => by cases q.1)
  | true =>
    have x0 : x2 = 0 := ha
    rw [if_neg (show ¬ ¬ x2 = 0 by omega), l_tk t p0 (by omega) (by omega)]
    by_cases c0 : ch hM p = 45
    · rw [if_pos c0, bd_s, if_neg (by omega), if_pos (by unfold inb; omega)]
      have rv : rdV hM true p = (1, p + 1, -1) := by
        unfold rdV
        rw [if_pos ⟨rfl, c0⟩]
      rw [rv]
      unfold lt
      dsimp only
      rw [show ((i : Int)).toNat = i by omega, tm_g]
      exact ⟨_, rfl, fun _ => rfl⟩
    · rw [if_neg c0, bd_s, if_pos rfl]
      exact num (fun q => c0 q.2)
/-- both in step: read, or not, to the same place, the same numbers -/
def Sty (hC hM : Hp) (k c p : Int) (m : Nat) (e e' : Option (Int × Hp)) : Prop := ∃ ok p' G G', e = some (ok, tc hC k p' G) ∧ e' = some (ok, tm hM c p' G') ∧ p ≤ p' ∧ p' ≤ hM 76 3 ∧ (ok = 0 ∨ ok = 1) ∧ (ok = 1 → ∀ j, j < m → G j = G' j)
theorem l_row_L {hC hM : Hp} {k c x2 y2 : Int} {a : Bool} {x1 : Nat} (t : Tx hC hM) (hx : x1 ≤ 4) (ha : x2 = if a then 1 else 0) (hb : y2 = if a then 0 else 1) : ∀ (m n n' i : Nat) (p : Int) (g g' : Rw), m < n → m + 1 < n' → i + m = x1 → 1 ≤ i → 0 ≤ p → p ≤ hM 76 3 → (∀ j, j < i → g j = g' j) →
    Sty hC hM k c p x1 (f_X3_readNumbers_L2 (x1 : Int) x2 n (i : Int) (tc hC k p g)) (f_X5_readsRow_L7 (x1 : Int) y2 n' 1 (i : Int) (tm hM c p g')) := by
  have l60 := t.2.2.1
  have b0 : isB 0 := by unfold isB; omega
  have b1 : isB 1 := by unfold isB; omega
  intro m
  induction m with
  | zero =>
    intro n n' i p g g' hn hn' hi i1 p0 p1 e
    obtain ⟨n, rfl⟩ : ∃ n0, n = n0 + 1 := ⟨n - 1, by omega⟩
    obtain ⟨n', rfl⟩ : ∃ n0, n' = n0 + 1 := ⟨n' - 1, by omega⟩
    rw [f_X3_readNumbers_L2_s, f_X5_readsRow_L7_s, if_pos (by omega), if_pos (by omega), if_pos b1]
    exact ⟨1, p, g, g', rfl, rfl, Int.le_refl p, p1, Or.inr rfl, fun _ j hj => e j (by omega)⟩
  | succ m ih =>
    intro n n' i p g g' hn hn' hi i1 p0 p1 e
    obtain ⟨n, rfl⟩ : ∃ n0, n = n0 + 1 := ⟨n - 1, by omega⟩
    obtain ⟨n', rfl⟩ : ∃ n0, n' = n0 + 1 := ⟨n' - 1, by omega⟩
    have out : ∀ q G', f_X5_readsRow_L7 (x1 : Int) y2 n' 0 ((i + 1 : Nat) : Int) (tm hM c q G') = some (0, tm hM c q G') := fun q G' => by
      obtain ⟨n', rfl⟩ : ∃ n0, n' = n0 + 1 := ⟨n' - 1, by omega⟩
      rw [f_X5_readsRow_L7_s]
      by_cases y : (x1 : Int) ≤ ((i + 1 : Nat) : Int)
      · rw [if_pos y, if_pos b0]
      · rw [if_neg y, if_pos rfl, if_pos b0]
    rw [f_X3_readNumbers_L2_s, f_X5_readsRow_L7_s, if_neg (by omega), if_neg (by omega), if_neg (by omega), if_neg (by omega), if_neg (by omega), l_rs t p0 (by omega), l_tk t p0 (by omega) (by omega), wr_id (z := (i : Int) + 1) (by omega) (by omega), show (i : Int) + 1 = ((i + 1 : Nat) : Int) by omega]
    by_cases c1 : ch hM p = 44
    · have b := ch_b t p p0
      have v := rdV_b (a := a) (p := p + 1) t (by omega) (by omega)
      obtain ⟨w, w1, w2⟩ := m_val (c := c) (g := g') (i := i) (p := p + 1) t (by omega) (by omega) (by omega) hb
      rw [if_pos c1, if_pos c1, bd_s, bd_s, if_pos (by omega), if_neg (by omega), c_val t (by omega) (by omega) (by omega) ha, w1, bd_s]
      rcases v with v | v
      · rw [if_pos v.1, if_pos v.1, v.2, out]
        exact ⟨0, p + 1, g, _, rfl, rfl, by omega, by omega, Or.inl rfl, fun q => by cases q⟩
      · rw [if_neg (by omega), if_neg (by omega)]
        obtain ⟨ok, p', G, G', z1, z2, z3, z4, z5⟩ := ih n n' (i + 1) (rdV hM a (p + 1)).2.1 (gup g i (rdV hM a (p + 1)).2.2) (gup g' i w) (by omega) (by omega) (by omega) (by omega) (by omega) (by omega) (fun j hj => by
          rw [w2 v.1]
          by_cases ji : j = i
          · rw [gup_eq ji, gup_eq ji]
          · rw [gup_far ji, gup_far ji]
            exact e j (by omega))
        exact ⟨ok, p', G, G', z1, z2, by omega, z4, z5⟩
    · rw [if_neg c1, if_neg c1, bd_s, bd_s, if_neg (by omega), if_pos rfl, out]
      exact ⟨0, p, g, g', rfl, rfl, Int.le_refl p, p1, Or.inl rfl, fun q => by cases q⟩
theorem l_row {hC hM : Hp} {k c x2 y2 p : Int} {a : Bool} {x1 : Nat} {g g' : Rw} (t : Tx hC hM) (h1 : 1 ≤ x1) (hx : x1 ≤ 4) (ha : x2 = if a then 1 else 0) (hb : y2 = if a then 0 else 1) (p0 : 0 ≤ p) (p1 : p ≤ hM 76 3) :
    Sty hC hM k c p x1 (f_X3_readNumbers (x1 : Int) x2 (tc hC k p g)) (f_X5_readsRow (x1 : Int) y2 (tm hM c p g')) := by
  have l60 := t.2.2.1
  have b0 : isB 0 := by unfold isB; omega
  have v := rdV_b (a := a) t p0 p1
  obtain ⟨w, w1, w2⟩ := m_val (c := c) (g := g') (i := 0) t p0 (by omega) (by omega) hb
  obtain ⟨n, hn⟩ : ∃ n', fu = n' + 4001 := ⟨fu - 4001, by have := fu_gt; omega⟩
  have cv := c_val (k := k) (x1 := (x1 : Int)) (g := g) (i := 0) (c2 := f_X3_readNumbers_L2 (x1 : Int) x2 (n + 4000)) t p0 (by omega) (by omega) ha
  rw [show ((0 : Nat) : Int) = 0 from rfl] at w1 cv
  unfold f_X3_readNumbers f_X5_readsRow
  rw [hn, f_X3_readNumbers_L2_s, if_neg (by omega), if_neg (by omega), if_pos (by omega), cv, w1, bd_s]
  rcases v with v | v
  · rw [if_pos v.1, v.1, v.2, f_X5_readsRow_L7_s]
    refine ⟨0, p, g, gup g' 0 w, rfl, ?_, Int.le_refl p, p1, Or.inl rfl, fun q => by cases q⟩
    by_cases y : (x1 : Int) ≤ 1
    · rw [if_pos y, if_pos b0]
    · rw [if_neg y, if_pos rfl, if_pos b0]
  · rw [if_neg (by omega), v.1]
    have z := l_row_L (k := k) (c := c) t hx ha hb (x1 - 1) (n + 4000) (n + 4001) 1 (rdV hM a p).2.1 (gup g 0 (rdV hM a p).2.2) (gup g' 0 w) (by omega) (by omega) (by omega) (by omega) (by omega) (by omega) (fun j hj => by
      rw [w2 v.1, gup_eq (by omega), gup_eq (by omega)])
    obtain ⟨ok, p', G, G', z1, z2, z3, z4, z5⟩ := z
    exact ⟨ok, p', G, G', z1, z2, by omega, z4, z5⟩
end Read2

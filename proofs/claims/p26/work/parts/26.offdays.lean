/-! the pure part: the class's umbrellas that are sold, claims that lapse, weeks that go by -/
section Office3
theorem sel_set {k : Nat} (hk : k = 6 ∨ k = 7 ∨ k = 0) : ∀ (n u : Nat) (s : Rw), Vn s → (u : Int) + n = s 15 → sel n u s k = s k := by
  intro n
  induction n with
  | zero => intro u s _ _; rfl
  | succ n ih =>
    intro u s hV hn
    rw [sel_step]
    by_cases c : s (18 + 5 * u + 4) < s 6
    · rw [if_pos c]
      exact ih (u + 1) s hV (by omega)
    · rw [if_neg c]
      have hh : hiR (fun _ j => s j) 0 s := fun j _ => by rw [Nat.zero_add]
      have key := sel_keep (h := fun _ j => s j) (b := 0) 1 u s
      obtain ⟨v1, v2, v3⟩ := hV
      have w := wri_n s 1 (s (18 + 5 * u + 4)) (s 7) v3.1 v3.2
      have e15 : ugo (gup (wri s 1 (s (18 + 5 * u + 4)) (s 7)) 11 (wr (s 11 + 1))) u 15 = s 15 - 1 := by
        unfold ugo
        rw [if_pos rfl, gup_far (by decide), wri_lo v3.1 (by decide) (by decide) (by decide)]
      have f15 : gup (wri s 1 (s (18 + 5 * u + 4)) (s 7)) 11 (wr (s 11 + 1)) 15 = s 15 := by rw [gup_far (by decide), wri_lo v3.1 (by decide) (by decide) (by decide)]
      have e16 : ugo (gup (wri s 1 (s (18 + 5 * u + 4)) (s 7)) 11 (wr (s 11 + 1))) u 16 = s 16 := by
        unfold ugo
        rw [if_neg (by decide), if_neg (by omega), gup_far (by decide), wri_lo v3.1 (by decide) (by decide) (by decide)]
      have e17 : ugo (gup (wri s 1 (s (18 + 5 * u + 4)) (s 7)) 11 (wr (s 11 + 1))) u 17 = wri s 1 (s (18 + 5 * u + 4)) (s 7) 17 := by
        unfold ugo
        rw [if_neg (by decide), if_neg (by omega), gup_far (by decide)]
      rw [ih u _ ⟨by rw [e15]; omega, by rw [e16]; exact v2, by rw [e17]; exact w⟩ (by rw [e15]; omega), ugo_far (by rw [f15]; exact v1.2) (by omega) (by omega), gup_far (by omega), wri_lo v3.1 (by omega) (by omega) (by omega)]
theorem wri_hi {g g' : Rw} {K A C : Int} (h0 : g 0 = g' 0) (h13 : g 13 = g' 13) (h17 : g 17 = g' 17) (hh : ∀ k, 150 ≤ k → g k = g' k) : ∀ k, k = 13 ∨ k = 17 ∨ 150 ≤ k → wri g K A C k = wri g' K A C k := by
  intro k hk
  unfold wri
  rw [h17]
  by_cases c : g' 17 = 10
  · rw [if_pos c, if_pos c]
    have w0 : wsh g 0 = wsh g' 0 := by rw [wsh_far (by decide) (by decide), wsh_far (by decide) (by decide), h0]
    have w13 : wsh g 13 = wsh g' 13 := by rw [wsh_far (by decide) (by decide), wsh_far (by decide) (by decide), h13]
    have w17 : wsh g 17 = wsh g' 17 := by rw [wsh_17, wsh_17, h17]
    have wk : 150 ≤ k → wsh g k = wsh g' k := fun q => by
      unfold wsh
      have n17 : ¬ k = 17 := by omega
      rw [if_neg n17, if_neg n17, hh k q]
      by_cases c6 : 150 ≤ k ∧ k < 186
      · rw [if_pos c6, if_pos c6, hh (k + 4) (by omega)]
      · rw [if_neg c6, if_neg c6]
    unfold wr1
    rw [w0, w13, w17]
    rcases hk with rfl | rfl | hk
    · rfl
    · rfl
    · rw [wk hk]
  · rw [if_neg c, if_neg c]
    unfold wr1
    rw [h0, h13, h17]
    rcases hk with rfl | rfl | hk
    · rfl
    · rfl
    · rw [hh k hk]
theorem comm_u {s : Rw} {u : Nat} {x K A C : Int} (hn : s 15 ≤ 12) (h0 : 0 ≤ s 17) : wri (gup (ugo s u) 11 x) K A C = ugo (gup (wri s K A C) 11 x) u := by
  have g17 : gup (ugo s u) 11 x 17 = s 17 := by rw [gup_far (by decide), ugo_far hn (by decide) (by decide)]
  have f15 : gup (wri s K A C) 11 x 15 = s 15 := by rw [gup_far (by decide), wri_lo h0 (by decide) (by decide) (by decide)]
  funext k
  by_cases c : k = 13 ∨ k = 17 ∨ 150 ≤ k
  · rw [ugo_far (by rw [f15]; exact hn) (by omega) (by omega), gup_far (by omega)]
    refine wri_hi ?_ ?_ g17 ?_ k c
    · rw [gup_far (by decide), ugo_far hn (by decide) (by decide)]
    · rw [gup_far (by decide), ugo_far hn (by decide) (by decide)]
    · intro j hj
      rw [gup_far (by omega), ugo_far hn (by omega) (by omega)]
  · rw [wri_lo (by rw [g17]; exact h0) (by omega) (by omega) (by omega)]
    by_cases c11 : k = 11
    · subst c11
      rw [gup_same, ugo_far (by rw [f15]; exact hn) (by decide) (by decide), gup_same]
    rw [gup_far c11]
    by_cases c15 : k = 15
    · subst c15
      unfold ugo
      rw [if_pos rfl, if_pos rfl, f15]
    rw [ugo_c c15, ugo_c c15, f15]
    by_cases cc : 18 + 5 * u ≤ k ∧ k < 18 + 5 * (s 15 - 1).toNat
    · rw [if_pos cc, if_pos cc, gup_far (by omega), wri_lo h0 (by omega) (by omega) (by omega)]
    · rw [if_neg cc, if_neg cc, gup_far c11, wri_lo h0 (by omega) (by omega) (by omega)]
theorem ugo_V {s : Rw} {u : Nat} (hV : Vn s) (h1 : 1 ≤ s 15) : Vn (ugo s u) := by
  obtain ⟨v1, v2, v3⟩ := hV
  unfold Vn
  rw [ugo_far (k := 16) v1.2 (by decide) (by decide), ugo_far (k := 17) v1.2 (by decide) (by decide), show ugo s u 15 = s 15 - 1 by unfold ugo; rw [if_pos rfl]]
  exact ⟨by omega, v2, v3⟩
theorem gup_V {s : Rw} {i : Nat} {x : Int} (hV : Vn s) (hi : i < 15 ∨ 17 < i) : Vn (gup s i x) := by
  unfold Vn
  rw [gup_far (by omega), gup_far (by omega), gup_far (by omega)]
  exact hV
theorem wri_V {s : Rw} {x y z : Int} (hV : Vn s) : Vn (wri s x y z) := by
  obtain ⟨v1, v2, v3⟩ := hV
  unfold Vn
  rw [wri_lo v3.1 (by decide) (by decide) (by decide), wri_lo v3.1 (by decide) (by decide) (by decide)]
  exact ⟨v1, v2, wri_n s x y z v3.1 v3.2⟩
theorem comm_c {s : Rw} {u : Nat} {x K A C : Int} (hn : s 16 ≤ 12) (h0 : 0 ≤ s 17) : wri (gup (cgo s u) 12 x) K A C = cgo (gup (wri s K A C) 12 x) u := by
  have g17 : gup (cgo s u) 12 x 17 = s 17 := by rw [gup_far (by decide), cgo_far hn (by decide) (by decide)]
  have f16 : gup (wri s K A C) 12 x 16 = s 16 := by rw [gup_far (by decide), wri_lo h0 (by decide) (by decide) (by decide)]
  funext k
  by_cases c : k = 13 ∨ k = 17 ∨ 150 ≤ k
  · rw [cgo_far (by rw [f16]; exact hn) (by omega) (by omega), gup_far (by omega)]
    refine wri_hi ?_ ?_ g17 ?_ k c
    · rw [gup_far (by decide), cgo_far hn (by decide) (by decide)]
    · rw [gup_far (by decide), cgo_far hn (by decide) (by decide)]
    · intro j hj
      rw [gup_far (by omega), cgo_far hn (by omega) (by omega)]
  · rw [wri_lo (by rw [g17]; exact h0) (by omega) (by omega) (by omega)]
    by_cases c12 : k = 12
    · subst c12
      rw [gup_same, cgo_far (by rw [f16]; exact hn) (by decide) (by decide), gup_same]
    rw [gup_far c12]
    by_cases c16 : k = 16
    · subst c16
      unfold cgo
      rw [if_pos rfl, if_pos rfl, f16]
    rw [cgo_c c16, cgo_c c16, f16]
    by_cases cc : 78 + 6 * u ≤ k ∧ k < 78 + 6 * (s 16 - 1).toNat
    · rw [if_pos cc, if_pos cc, gup_far (by omega), wri_lo h0 (by omega) (by omega) (by omega)]
    · rw [if_neg cc, if_neg cc, gup_far c12, wri_lo h0 (by omega) (by omega) (by omega)]
theorem cgo_V {s : Rw} {u : Nat} (hV : Vn s) (h1 : 1 ≤ s 16) : Vn (cgo s u) := by
  obtain ⟨v1, v2, v3⟩ := hV
  unfold Vn
  rw [cgo_far (k := 15) v2.2 (by decide) (by decide), cgo_far (k := 17) v2.2 (by decide) (by decide), show cgo s u 16 = s 16 - 1 by unfold cgo; rw [if_pos rfl]]
  exact ⟨v1, by omega, v3⟩
theorem c_sel {o : Nat} : ∀ (m n : Nat) (h : Hp) (s : Rw) (u left z : Int), m < n → 0 ≤ u → left = m → u + m = s 15 → z = s 7 → SR h o s → Vn s → ∃ h', f_X1_endOld_L5 o (o + 1) 1 8 z n u left h = some (0, h') ∧ SR h' o (sel m u.toNat s) ∧ FrO o h h' := by
  intro m
  induction m with
  | zero =>
    intro n h s u left z hn hu hl hs hz R hV
    obtain ⟨n, rfl⟩ : ∃ n', n = n' + 1 := ⟨n - 1, by omega⟩
    rw [f_X1_endOld_L5_s, if_pos (by omega)]
    exact ⟨h, rfl, R, FrO.rf⟩
  | succ m ih =>
    intro n h s u left z hn hu hl hs hz R hV
    obtain ⟨n, rfl⟩ : ∃ n', n = n' + 1 := ⟨n - 1, by omega⟩
    have v := hV
    obtain ⟨v1, v2, v3⟩ := v
    have e1 := R.1.1
    have ea : h (o + 1 + 1) (u * 6 + 4).toNat = s (18 + 5 * u.toNat + 4) := by
      rw [show (u * 6 + 4).toNat = 6 * u.toNat + 4 by omega]
      exact R.1.2 u.toNat 4 (by omega) (by omega)
    have e6 : h (o + 7) (Int.toNat 5) = s 6 := R.2.2.2.1 5 (by omega)
    rw [f_X1_endOld_L5_s, if_neg (by omega), p_cell (by rw [e1]; exact v1.2), bd_s, e1, if_pos (by omega), ea, p_setting (by omega) (by omega), bd_s, e6, sel_step]
    by_cases c : s (18 + 5 * u.toNat + 4) < s 6
    · rw [if_neg (by omega), if_pos c, wr_id (by omega) (by omega), wr_id (by omega) (by omega), show u.toNat + 1 = (u + 1).toNat by omega]
      exact ih n h s (u + 1) (left + (-1)) z (by omega) (by omega) (by omega) (by omega) hz R hV
    · rw [if_pos (by omega), if_neg c]
      obtain ⟨h1, a1, a2, a3⟩ := c_remU R hV hu (by omega)
      rw [a1, bd_s]
      have b1 := ugo_V (u := u.toNat) hV (by omega)
      obtain ⟨h2, a4, a5, a6⟩ := c_add (k := 8) (x := 1) a2 b1 (by omega) (by omega)
      rw [a4, bd_s]
      have e11 : ugo s u.toNat 11 = s 11 := ugo_far v1.2 (by decide) (by decide)
      rw [show (8 : Int).toNat + 3 = 11 from rfl, e11] at a5
      obtain ⟨h3, a7, a8, a9⟩ := c_enter (x := 1) (y := s (18 + 5 * u.toNat + 4)) (z := z) a5 (gup_V b1 (by omega))
      rw [a7, bd_s, wr_id (by omega) (by omega)]
      rw [comm_u v1.2 v3.1, hz] at a8
      have e15 : ugo (gup (wri s 1 (s (18 + 5 * u.toNat + 4)) (s 7)) 11 (wr (s 11 + 1))) u.toNat 15 = s 15 - 1 := by
        unfold ugo
        rw [if_pos rfl, gup_far (by decide), wri_lo v3.1 (by decide) (by decide) (by decide)]
      have f15 : gup (wri s 1 (s (18 + 5 * u.toNat + 4)) (s 7)) 11 (wr (s 11 + 1)) 15 = s 15 := by rw [gup_far (by decide), wri_lo v3.1 (by decide) (by decide) (by decide)]
      have e7 : ugo (gup (wri s 1 (s (18 + 5 * u.toNat + 4)) (s 7)) 11 (wr (s 11 + 1))) u.toNat 7 = s 7 := by
        rw [ugo_far (by rw [f15]; exact v1.2) (by decide) (by decide), gup_far (by decide), wri_lo v3.1 (by decide) (by decide) (by decide)]
      obtain ⟨h4, d1, d2, d3⟩ := ih n h3 _ u (left + (-1)) z (by omega) hu (by omega) (by rw [e15]; omega) (by rw [e7]; exact hz) a8 (ugo_V (gup_V (wri_V hV) (by omega)) (by rw [f15]; omega))
      exact ⟨h4, d1, d2, ((a3.tr a6).tr a9).tr d3⟩
theorem c_lap {o : Nat} : ∀ (m n : Nat) (h : Hp) (s : Rw) (u left z : Int), m < n → 0 ≤ u → left = m → u + m = s 16 → z = 0 → SR h o s → Vn s → ∃ h', f_X1_endOld_L5 o (o + 3) 2 9 z n u left h = some (0, h') ∧ SR h' o (lap m u.toNat s) ∧ FrO o h h' := by
  intro m
  induction m with
  | zero =>
    intro n h s u left z hn hu hl hs hz R hV
    obtain ⟨n, rfl⟩ : ∃ n', n = n' + 1 := ⟨n - 1, by omega⟩
    rw [f_X1_endOld_L5_s, if_pos (by omega)]
    exact ⟨h, rfl, R, FrO.rf⟩
  | succ m ih =>
    intro n h s u left z hn hu hl hs hz R hV
    obtain ⟨n, rfl⟩ : ∃ n', n = n' + 1 := ⟨n - 1, by omega⟩
    have v := hV
    obtain ⟨v1, v2, v3⟩ := v
    have e1 := R.2.1.1
    have ea : h (o + 3 + 1) (u * 6 + 4).toNat = s (78 + 6 * u.toNat + 4) := by
      rw [show (u * 6 + 4).toNat = 6 * u.toNat + 4 by omega]
      exact R.2.1.2 u.toNat 4 (by omega) (by omega)
    have e6 : h (o + 7) (Int.toNat 5) = s 6 := R.2.2.2.1 5 (by omega)
    rw [f_X1_endOld_L5_s, if_neg (by omega), p_cell (by rw [e1]; exact v2.2), bd_s, e1, if_pos (by omega), ea, p_setting (by omega) (by omega), bd_s, e6, lap_step]
    by_cases c : s (78 + 6 * u.toNat + 4) < s 6
    · rw [if_neg (by omega), if_pos c, wr_id (by omega) (by omega), wr_id (by omega) (by omega), show u.toNat + 1 = (u + 1).toNat by omega]
      exact ih n h s (u + 1) (left + (-1)) z (by omega) (by omega) (by omega) (by omega) hz R hV
    · rw [if_pos (by omega), if_neg c]
      obtain ⟨h1, a1, a2, a3⟩ := c_remC R hV hu (by omega)
      rw [a1, bd_s]
      have b1 := cgo_V (u := u.toNat) hV (by omega)
      obtain ⟨h2, a4, a5, a6⟩ := c_add (k := 9) (x := 1) a2 b1 (by omega) (by omega)
      rw [a4, bd_s]
      have e12 : cgo s u.toNat 12 = s 12 := cgo_far v2.2 (by decide) (by decide)
      rw [show (9 : Int).toNat + 3 = 12 from rfl, e12] at a5
      obtain ⟨h3, a7, a8, a9⟩ := c_enter (x := 2) (y := s (78 + 6 * u.toNat + 4)) (z := z) a5 (gup_V b1 (by omega))
      rw [a7, bd_s, wr_id (by omega) (by omega)]
      rw [comm_c v2.2 v3.1, hz] at a8
      have e16 : cgo (gup (wri s 2 (s (78 + 6 * u.toNat + 4)) 0) 12 (wr (s 12 + 1))) u.toNat 16 = s 16 - 1 := by
        unfold cgo
        rw [if_pos rfl, gup_far (by decide), wri_lo v3.1 (by decide) (by decide) (by decide)]
      have f16 : gup (wri s 2 (s (78 + 6 * u.toNat + 4)) 0) 12 (wr (s 12 + 1)) 16 = s 16 := by rw [gup_far (by decide), wri_lo v3.1 (by decide) (by decide) (by decide)]
      obtain ⟨h4, d1, d2, d3⟩ := ih n h3 _ u (left + (-1)) z (by omega) hu (by omega) (by rw [e16]; omega) hz a8 (cgo_V (gup_V (wri_V hV) (by omega)) (by rw [f16]; omega))
      exact ⟨h4, d1, d2, ((a3.tr a6).tr a9).tr d3⟩
theorem wk_set {k : Nat} (hk : k = 6 ∨ k = 7) {s : Rw} (hV : Vn s) : sel (s 15).toNat 0 (agp (gup s 0 (wr (s 0 + 1))) 12) k = s k := by
  have hh := wk1_keep (h := fun _ j => s j) (b := 0) hV (fun j _ => by rw [Nat.zero_add])
  have e15 : agp (gup s 0 (wr (s 0 + 1))) 12 15 = s 15 := by rw [agp_c _ _ _ (by omega), gup_far (by decide)]
  rw [sel_set (by omega) _ _ _ hh.1 (by rw [e15]; have := hV.1; omega), agp_c _ _ _ (by omega), gup_far (by omega)]
/-- a week of the class -/
theorem c_weeks_L {o : Nat} {x1 x3 : Int} (h20 : x1 ≤ 20) : ∀ (m n : Nat) (h : Hp) (s : Rw) (p : Int), m < n → 0 ≤ p → p + m = x1 → SR h o s → Vn s → ∃ h', f_X1_passWeeks_L20 o x1 x3 n p h = some (wr (wks m s 11 - x3), h') ∧ SR h' o (wks m s) ∧ FrO o h h' := by
  intro m
  induction m with
  | zero =>
    intro n h s p hn hp0 hp R hV
    obtain ⟨n, rfl⟩ : ∃ n', n = n' + 1 := ⟨n - 1, by omega⟩
    rw [f_X1_passWeeks_L20_s, if_pos (by omega), p_sum (by omega) (by omega), bd_s]
    refine ⟨h, ?_, R, FrO.rf⟩
    have : h (o + 8) (Int.toNat 8) = s 11 := R.2.2.2.2.2 3 (by omega)
    rw [this]
    rfl
  | succ m ih =>
    intro n h s p hn hp0 hp R hV
    obtain ⟨n, rfl⟩ : ∃ n', n = n' + 1 := ⟨n - 1, by omega⟩
    have hk := wk1_keep (h := fun _ j => s j) (b := 0) hV (fun j _ => by rw [Nat.zero_add])
    obtain ⟨v1, -, v2, -, v3, -⟩ := hk
    rw [f_X1_passWeeks_L20_s, if_neg (by omega), wks_step]
    obtain ⟨h1, a1, a2, a3⟩ := c_add0 (x := 1) R hV
    obtain ⟨h2, h3, b1, b2, b3, b4⟩ := c_grow a2 (gup_V hV (by omega))
    have e7 : h3 (o + 7) (Int.toNat 6) = s 7 := by
      have := b3.2.2.2.1 6 (by omega)
      rw [show (1 + 6 : Nat) = 7 from rfl, agp_c _ _ _ (by omega), gup_far (by decide)] at this
      exact this
    rw [a1, bd_s, b1, bd_s, b2, bd_s, p_setting (by omega) (by omega), bd_s, e7]
    have e15 : agp (gup s 0 (wr (s 0 + 1))) 12 15 = s 15 := by rw [agp_c _ _ _ (by omega), gup_far (by decide)]
    have l1 : h3 (o + 1) 1 = s 15 := by rw [b3.1.1, e15]
    have e7b : agp (gup s 0 (wr (s 0 + 1))) 12 7 = s 7 := by rw [agp_c _ _ _ (by omega), gup_far (by decide)]
    have w1 := hV.1
    obtain ⟨h4, d1, d2, d3⟩ := c_sel (o := o) (s 15).toNat fu h3 _ 0 (s 15) (s 7) (by have := fu_gt; omega) (by omega) (by omega) (by rw [e15]; omega) e7b.symm b3 v1
    simp only [f_X1_endOld, lv]
    rw [l1, d1, bd_s]
    rw [show Int.toNat 0 = 0 from rfl] at d2
    have w2 := v2.2.1
    have l2 : h4 (o + 3) 1 = sel (s 15).toNat 0 (agp (gup s 0 (wr (s 0 + 1))) 12) 16 := d2.2.1.1
    obtain ⟨h5, f1, f2, f3⟩ := c_lap (o := o) (sel (s 15).toNat 0 (agp (gup s 0 (wr (s 0 + 1))) 12) 16).toNat fu h4 _ 0 (sel (s 15).toNat 0 (agp (gup s 0 (wr (s 0 + 1))) 12) 16) 0 (by have := fu_gt; omega) (by omega) (by omega) (by omega) rfl d2 v2
    rw [l2, f1, bd_s, wr_id (by omega) (by omega)]
    rw [show Int.toNat 0 = 0 from rfl] at f2
    obtain ⟨h6, g1, g2, g3⟩ := ih n h5 (wk1 s) (p + 1) (by omega) (by omega) (by omega) f2 v3
    exact ⟨h6, g1, g2, (((a3.tr b4).tr d3).tr f3).tr g3⟩
end Office3

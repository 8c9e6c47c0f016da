/-! the pure part: count, as a call -/
section Count1
theorem c_clr_L {c19 : Hp → Option (Int × Hp)} : ∀ (m n : Nat) (i : Nat) (h0 h : Hp), m < n → i + m = 144 → (∀ k, k < i → h 23 k = 0) → (∀ a, a ≠ 23 → h a = h0 a) →
    ∃ h', f_X0_matchByAsking_L7 1 c19 n (i : Int) h = c19 h' ∧ (∀ k, k < 144 → h' 23 k = 0) ∧ ∀ a, a ≠ 23 → h' a = h0 a := by
  intro m
  induction m with
  | zero =>
    intro n i h0 h hn hi e f
    obtain ⟨n, rfl⟩ : ∃ n', n = n' + 1 := ⟨n - 1, by omega⟩
    rw [f_X0_matchByAsking_L7_s, if_pos (by omega)]
    exact ⟨h, rfl, fun k hk => e k (by omega), f⟩
  | succ m ih =>
    intro n i h0 h hn hi e f
    obtain ⟨n, rfl⟩ : ∃ n', n = n' + 1 := ⟨n - 1, by omega⟩
    rw [f_X0_matchByAsking_L7_s, if_neg (by omega), if_pos ⟨by unfold inb; omega, by unfold isB; omega⟩, wr_id (by omega) (by omega)]
    unfold lt
    rw [show (i : Int) + 1 = ((i + 1 : Nat) : Int) by omega, show ((i : Int)).toNat = i by omega]
    refine ih n (i + 1) h0 _ (by omega) (by omega) (fun k hk => ?_) (fun a ha => ?_)
    · by_cases c : k = i
      · rw [hup_eq ⟨rfl, c⟩]
      · rw [hup_far (by omega)]
        exact e k (by omega)
    · rw [row_hup ha]
      exact f a ha
theorem m_cnt_L {U : Rw} {h : Hp} (e : ∀ j : Nat, j < 12 → h 79 j = U j) : ∀ (m n i : Nat), m < n → i + m = 12 → f_X5_byAsking_L29 n (sm (cF U) i) (i : Int) h = some (cU U, h) := by
  intro m
  induction m with
  | zero =>
    intro n i hn hi
    obtain ⟨n, rfl⟩ : ∃ n', n = n' + 1 := ⟨n - 1, by omega⟩
    rw [f_X5_byAsking_L29_s, if_pos (by omega), show i = 12 by omega]
    rfl
  | succ m ih =>
    intro n i hn hi
    obtain ⟨n, rfl⟩ : ∃ n', n = n' + 1 := ⟨n - 1, by omega⟩
    have b := sm_b1 (f := cF U) (fun k => by unfold cF; split <;> omega) i
    have k := ih n (i + 1) (by omega) (by omega)
    rw [show ((i + 1 : Nat) : Int) = (i : Int) + 1 by omega, sm_s] at k
    rw [f_X5_byAsking_L29_s, if_neg (by omega), if_pos (by unfold inb; omega), show ((i : Int)).toNat = i by omega, e i (by omega)]
    unfold lv
    dsimp only
    rw [wr_id (z := (i : Int) + 1) (by omega) (by omega), wr_id (z := sm (cF U) i + 0) (by omega) (by omega), wr_id (z := sm (cF U) i + 1) (by omega) (by omega)]
    unfold cF at k
    by_cases c : U i = -1
    · rw [if_pos c] at k
      rw [if_neg (by omega)]
      exact k
    · rw [if_neg c] at k
      rw [if_pos c]
      exact k
theorem asking {N : Int} {hC hM : Hp} {s : Rw} (hV : Vn s) (hD : Vd N s) (hN : N ≤ 1000000) (sr : SR hC 1 s) (eg : gsl (hM 77) (Int.toNat 0) = s) :
    ∃ r hC' hM', f_X0_matchByAsking 1 hC = some (0, hC') ∧ hC' 19 9 = r ∧ FrS hC hC' ∧ f_X5_byAsking 0 hM = some (r, hM') ∧ FrX hM hM' ∧ ∃ A U C : Rw, r = cU U ∧ MgI s (U, C, cU U) ∧ MgJ s (U, C, cU U) ∧ BR s A U C ∧ (∀ j, 0 ≤ A j) ∧ ∀ j : Nat, (j : Int) < s 16 → OKc s A C j := by
  have := fu_gt
  have v2 := hV.2.1
  obtain ⟨h1, a1, a2, a3⟩ := c_weighAll (o := 1) (by omega) hV hD hN sr
  obtain ⟨h2, b1, b2, b3⟩ := c_none (h := h1)
  obtain ⟨h3, d1, d2, d3⟩ := c_clr_L (c19 := fun h4 => f_X0_matchByAsking_L21 1 fu 0 h4) 144 fu 0 h2 h2 (by omega) (by omega) (fun k hk => by omega) (fun _ _ => rfl)
  rw [show ((0 : Nat) : Int) = 0 from rfl] at d1
  obtain ⟨g1, e1, e2, e3, e4, e5⟩ := m_clears (b := 0) (by omega) hV hD hN eg
  have w2 := a2.fr b3
  have w3 : WA s h3 := by
    obtain ⟨w7, w8, w⟩ := w2
    refine ⟨by rw [d3 19 (by omega)]; exact w7, by rw [d3 19 (by omega)]; exact w8, fun a b ha hb q => ?_⟩
    rw [d3 20 (by omega), d3 21 (by omega), d3 22 (by omega)]
    exact w a b ha hb q
  have z0 : ∀ k, k < 144 → aF s (fun _ => 0) k = 0 := fun k _ => by
    unfold aF
    refine if_neg (fun q => ?_)
    have q2 := q.2
    have := rk_b s (k % 12) (k / 12)
    dsimp only at q2
    omega
  have ar : AR s 0 (fun _ => 0) (fun _ => -1) (fun _ => -1) h3 g1 := by
    refine ⟨⟨w3, ⟨fun i hi => ?_, ?_⟩, fun k hk sk => ?_⟩, ⟨e4, fun j hj => ⟨(e2 j hj).1, e3 j hj⟩⟩, ⟨fun i => Or.inl rfl, fun i => Or.inl rfl⟩, ?_, fun j => Int.le_refl 0, ⟨fun u c hu hc _ q => by
      have := rk_b s c u
      dsimp only at q
      omega, fun c hc q => absurd rfl q⟩⟩
    · rw [d3 25 (by omega), d3 26 (by omega)]
      exact b2.1 i hi
    · rw [d3 19 (by omega)]
      exact b2.2
    · have := rk_b s (k % 12) (k / 12)
      rw [d2 k hk, if_neg (fun q => by
        have q2 : rk s (k % 12) (k / 12) < 0 := q
        omega)]
    · exact sm_skip (a := 0) 144 (fun k _ k2 => z0 k (by omega))
  obtain ⟨i', A', U', C', hC', hM', y1, y2, y3, y4, y5, y6⟩ := ask_3 (o := 1) (c25 := fun h4 => f_X5_byAsking_L29 fu 0 0 h4) hV hD (s 16).toNat fu 0 fu 0 _ _ _ h3 g1 ar (by omega) (by omega) (by rw [e5.g]; exact eg) (fun j hj => by omega) (fun j _ => rfl) (fun j => show (0 : Int) ≤ 13 + ((0 : Nat) : Int) by omega) (by omega)
  rw [show ((0 : Nat) : Int) = 0 from rfl] at y1 y2
  have ct := m_cnt_L (U := U') (h := hM') (fun j hj => (y3.2.1.2 j hj).1) 12 fu 0 (by omega) (by omega)
  rw [show sm (cF U') 0 = 0 from rfl, show ((0 : Nat) : Int) = 0 from rfl] at ct
  refine ⟨cU U', hC', hM', ?_, y3.1.2.1.2, ((a3.tr b3.s).tr (fun a ha => d3 a (by omega))).tr y4, ?_, e5.tr y5, A', U', C', rfl, y3.2.2.1.1, y3.2.2.1.2, y3.2.2.2.2.2, y3.2.2.2.2.1, y6⟩
  · unfold f_X0_matchByAsking
    rw [a1, bd_s, b1, bd_s, d1, y2]
  · unfold f_X5_byAsking
    rw [e1, bd_s, y1, ct]
theorem k_count {N x : Int} {hC hM : Hp} (hN : N ≤ 1000000) (R : Rel N hC hM) : Call N N hC hM (f_X4_count x hC) (f_X5_count x hM) := by
  obtain ⟨sr, vg, vd, v0⟩ := rel_0 R
  have e4 : hC 0 4 = hM 76 1 ∧ hC 28 1 = hM 76 3 := by
    obtain ⟨n, r1, r2, r3, r4, r5, r6, r7, r8⟩ := R
    exact ⟨r2.trans r3.symm, r8.1⟩
  generalize hs : gsl (hM 77) (Int.toNat 0) = s at *
  have rd : ∀ y : Int, 0 ≤ y → y < 190 → inb y 1330 ∧ hM 77 y.toNat = s y.toNat := fun y y0 y1 => by
    refine ⟨by unfold inb; omega, ?_⟩
    rw [← hs]
    show _ = hM 77 (0 + y.toNat)
    rw [Nat.zero_add]
  have same : ∀ r, f_X4_count x hC = some (r, hC) → f_X5_count x hM = some (r, hM) → Call N N hC hM (f_X4_count x hC) (f_X5_count x hM) := fun r a b => call_read R a FrT.rf FrT.rf.c b FrY.rf
  by_cases p : 20 ≤ x ∧ x ≤ 26
  · refine same (s (1 + (x - 20).toNat)) ?_ ?_
    · unfold f_X4_count
      rw [if_neg (by omega), if_neg (by omega), wr_id (by omega) (by omega), p_setting (by omega) (by omega), bd_s, show hC (1 + 7) (x - 20).toNat = s (1 + (x - 20).toNat) from sr.2.2.2.1 _ (by omega)]
    · obtain ⟨r1, r2⟩ := rd (1 + x - 20) (by omega) (by omega)
      unfold f_X5_count
      rw [p_in, bd_s, if_pos p, if_neg (show ¬ (1 : Int) = 0 by omega), wr_id (z := 1 + x) (by omega) (by omega), wr_id (z := 1 + x - 20) (by omega) (by omega), if_pos r1, r2, show (1 + x - 20).toNat = 1 + (x - 20).toNat by omega]
  have cl : f_X4_count x hC = f_X4_count_J13 x hC := by
    unfold f_X4_count
    by_cases c : x < 20
    · rw [if_pos c]
    · rw [if_neg c, if_pos (by omega)]
  by_cases c0 : x = 0
  · refine same (s 0) ?_ ?_
    · rw [cl]
      unfold f_X4_count_J13
      rw [if_neg (show ¬ x = 1 by omega), if_neg (show ¬ x = 2 by omega), if_neg (show ¬ x = 3 by omega), if_neg (show ¬ x = 4 by omega), if_neg (show ¬ x = 5 by omega), if_neg (show ¬ x = 6 by omega), if_neg (show ¬ x = 7 by omega), if_neg (show ¬ x = 8 by omega), if_neg (show ¬ x = 9 by omega), if_neg (show ¬ x = 10 by omega), if_neg (show ¬ x = 11 by omega), if_neg (show ¬ x = 12 by omega), if_neg (show ¬ x = 13 by omega), if_neg (show ¬ x = 14 by omega), if_neg (show ¬ x < 0 by omega), if_neg (show ¬ 12 ≤ x by omega), p_sum (by omega) (by omega), bd_s, c0, show hC (1 + 8) (Int.toNat 0) = s 0 from sr.2.2.2.2.1]
    · unfold f_X5_count
      rw [p_in, bd_s, if_neg p, if_pos (show (0 : Int) = 0 from rfl), if_pos c0, if_pos (rd 0 (by omega) (by omega)).1, (rd 0 (by omega) (by omega)).2]
      rfl
  by_cases c1 : x = 1
  · refine same (s 15) ?_ ?_
    · rw [cl]
      unfold f_X4_count_J13
      rw [if_pos c1, show hC 2 1 = s 15 from sr.1.1]
    · unfold f_X5_count
      rw [p_in, bd_s, if_neg p, if_pos (show (0 : Int) = 0 from rfl), if_neg (show ¬ x = 0 by omega), if_pos c1, c1, wr_id (z := 15 + 1) (by omega) (by omega), wr_id (z := 15 + 1 - 1) (by omega) (by omega), if_pos (rd (15 + 1 - 1) (by omega) (by omega)).1, (rd (15 + 1 - 1) (by omega) (by omega)).2]
      rfl
  by_cases c2 : x = 2
  · refine same (s 16) ?_ ?_
    · rw [cl]
      unfold f_X4_count_J13
      rw [if_neg (show ¬ x = 1 by omega), if_pos c2, show hC 4 1 = s 16 from sr.2.1.1]
    · unfold f_X5_count
      rw [p_in, bd_s, if_neg p, if_pos (show (0 : Int) = 0 from rfl), if_neg (show ¬ x = 0 by omega), if_neg (show ¬ x = 1 by omega), if_pos c2, c2, wr_id (z := 15 + 2) (by omega) (by omega), wr_id (z := 15 + 2 - 1) (by omega) (by omega), if_pos (rd (15 + 2 - 1) (by omega) (by omega)).1, (rd (15 + 2 - 1) (by omega) (by omega)).2]
      rfl
  by_cases c3 : x = 3
  · obtain ⟨h1, a1, a2, a3, a4⟩ := c_matchAll (o := 1) (by omega) vg vd hN sr
    obtain ⟨h2, b1, b2, b3, b4, b5⟩ := m_matches (b := 0) (by omega) vg vd hN (h := hM) hs
    refine call_read R (r := (mtA s).2.2) (hC' := h1) (hM' := h2) ?_ a4.t a4.t.c ?_ b5.y
    · rw [cl]
      unfold f_X4_count_J13
      rw [if_neg (show ¬ x = 1 by omega), if_neg (show ¬ x = 2 by omega), if_pos c3, a1, bd_s, a2.2]
    · unfold f_X5_count
      rw [p_in, bd_s, if_neg p, if_pos (show (0 : Int) = 0 from rfl), if_neg (show ¬ x = 0 by omega), if_neg (show ¬ x = 1 by omega), if_neg (show ¬ x = 2 by omega), if_pos c3, b1, bd_s]
  by_cases c4 : x = 4
  · obtain ⟨r, h1, h2, a1, a2, a3, b1, b2, -⟩ := asking vg vd hN sr hs
    refine call_read R (r := r) (hC' := h1) (hM' := h2) ?_ a3.t a3.t.c ?_ b2.y
    · rw [cl]
      unfold f_X4_count_J13
      rw [if_neg (show ¬ x = 1 by omega), if_neg (show ¬ x = 2 by omega), if_neg (show ¬ x = 3 by omega), if_pos c4, a1, bd_s, a2]
    · unfold f_X5_count
      rw [p_in, bd_s, if_neg p, if_pos (show (0 : Int) = 0 from rfl), if_neg (show ¬ x = 0 by omega), if_neg (show ¬ x = 1 by omega), if_neg (show ¬ x = 2 by omega), if_neg (show ¬ x = 3 by omega), if_pos c4, b1, bd_s]
  by_cases c5 : x = 5
  · refine same (s 8) ?_ ?_
    · rw [cl]
      unfold f_X4_count_J13
      rw [if_neg (show ¬ x = 1 by omega), if_neg (show ¬ x = 2 by omega), if_neg (show ¬ x = 3 by omega), if_neg (show ¬ x = 4 by omega), if_pos c5, if_neg (show ¬ x < 0 by omega), if_neg (show ¬ 12 ≤ x by omega), p_sum (by omega) (by omega), bd_s, c5, show hC (1 + 8) (Int.toNat 5) = s 8 from sr.2.2.2.2.2 0 (by omega)]
    · unfold f_X5_count
      rw [p_in, bd_s, if_neg p, if_pos (show (0 : Int) = 0 from rfl), if_neg (show ¬ x = 0 by omega), if_neg (show ¬ x = 1 by omega), if_neg (show ¬ x = 2 by omega), if_neg (show ¬ x = 3 by omega), if_neg (show ¬ x = 4 by omega), if_pos c5, c5, wr_id (z := 8 + 5) (by omega) (by omega), wr_id (z := 8 + 5 - 5) (by omega) (by omega), if_pos (rd (8 + 5 - 5) (by omega) (by omega)).1, (rd (8 + 5 - 5) (by omega) (by omega)).2]
      rfl
  by_cases c6 : x = 6
  · refine same (s 9) ?_ ?_
    · rw [cl]
      unfold f_X4_count_J13
      rw [if_neg (show ¬ x = 1 by omega), if_neg (show ¬ x = 2 by omega), if_neg (show ¬ x = 3 by omega), if_neg (show ¬ x = 4 by omega), if_neg (show ¬ x = 5 by omega), if_pos c6, if_neg (show ¬ x < 0 by omega), if_neg (show ¬ 12 ≤ x by omega), p_sum (by omega) (by omega), bd_s, c6, show hC (1 + 8) (Int.toNat 6) = s 9 from sr.2.2.2.2.2 1 (by omega)]
    · unfold f_X5_count
      rw [p_in, bd_s, if_neg p, if_pos (show (0 : Int) = 0 from rfl), if_neg (show ¬ x = 0 by omega), if_neg (show ¬ x = 1 by omega), if_neg (show ¬ x = 2 by omega), if_neg (show ¬ x = 3 by omega), if_neg (show ¬ x = 4 by omega), if_neg (show ¬ x = 5 by omega), if_pos c6, c6, wr_id (z := 8 + 6) (by omega) (by omega), wr_id (z := 8 + 6 - 5) (by omega) (by omega), if_pos (rd (8 + 6 - 5) (by omega) (by omega)).1, (rd (8 + 6 - 5) (by omega) (by omega)).2]
      rfl
  by_cases c7 : x = 7
  · refine same (s 10) ?_ ?_
    · rw [cl]
      unfold f_X4_count_J13
      rw [if_neg (show ¬ x = 1 by omega), if_neg (show ¬ x = 2 by omega), if_neg (show ¬ x = 3 by omega), if_neg (show ¬ x = 4 by omega), if_neg (show ¬ x = 5 by omega), if_neg (show ¬ x = 6 by omega), if_pos c7, if_neg (show ¬ x < 0 by omega), if_neg (show ¬ 12 ≤ x by omega), p_sum (by omega) (by omega), bd_s, c7, show hC (1 + 8) (Int.toNat 7) = s 10 from sr.2.2.2.2.2 2 (by omega)]
    · unfold f_X5_count
      rw [p_in, bd_s, if_neg p, if_pos (show (0 : Int) = 0 from rfl), if_neg (show ¬ x = 0 by omega), if_neg (show ¬ x = 1 by omega), if_neg (show ¬ x = 2 by omega), if_neg (show ¬ x = 3 by omega), if_neg (show ¬ x = 4 by omega), if_neg (show ¬ x = 5 by omega), if_neg (show ¬ x = 6 by omega), if_pos c7, c7, wr_id (z := 8 + 7) (by omega) (by omega), wr_id (z := 8 + 7 - 5) (by omega) (by omega), if_pos (rd (8 + 7 - 5) (by omega) (by omega)).1, (rd (8 + 7 - 5) (by omega) (by omega)).2]
      rfl
  by_cases c8 : x = 8
  · refine same (s 11) ?_ ?_
    · rw [cl]
      unfold f_X4_count_J13
      rw [if_neg (show ¬ x = 1 by omega), if_neg (show ¬ x = 2 by omega), if_neg (show ¬ x = 3 by omega), if_neg (show ¬ x = 4 by omega), if_neg (show ¬ x = 5 by omega), if_neg (show ¬ x = 6 by omega), if_neg (show ¬ x = 7 by omega), if_pos c8, if_neg (show ¬ x < 0 by omega), if_neg (show ¬ 12 ≤ x by omega), p_sum (by omega) (by omega), bd_s, c8, show hC (1 + 8) (Int.toNat 8) = s 11 from sr.2.2.2.2.2 3 (by omega)]
    · unfold f_X5_count
      rw [p_in, bd_s, if_neg p, if_pos (show (0 : Int) = 0 from rfl), if_neg (show ¬ x = 0 by omega), if_neg (show ¬ x = 1 by omega), if_neg (show ¬ x = 2 by omega), if_neg (show ¬ x = 3 by omega), if_neg (show ¬ x = 4 by omega), if_neg (show ¬ x = 5 by omega), if_neg (show ¬ x = 6 by omega), if_neg (show ¬ x = 7 by omega), if_pos c8, c8, wr_id (z := 8 + 8) (by omega) (by omega), wr_id (z := 8 + 8 - 5) (by omega) (by omega), if_pos (rd (8 + 8 - 5) (by omega) (by omega)).1, (rd (8 + 8 - 5) (by omega) (by omega)).2]
      rfl
  by_cases c9 : x = 9
  · refine same (s 12) ?_ ?_
    · rw [cl]
      unfold f_X4_count_J13
      rw [if_neg (show ¬ x = 1 by omega), if_neg (show ¬ x = 2 by omega), if_neg (show ¬ x = 3 by omega), if_neg (show ¬ x = 4 by omega), if_neg (show ¬ x = 5 by omega), if_neg (show ¬ x = 6 by omega), if_neg (show ¬ x = 7 by omega), if_neg (show ¬ x = 8 by omega), if_pos c9, if_neg (show ¬ x < 0 by omega), if_neg (show ¬ 12 ≤ x by omega), p_sum (by omega) (by omega), bd_s, c9, show hC (1 + 8) (Int.toNat 9) = s 12 from sr.2.2.2.2.2 4 (by omega)]
    · unfold f_X5_count
      rw [p_in, bd_s, if_neg p, if_pos (show (0 : Int) = 0 from rfl), if_neg (show ¬ x = 0 by omega), if_neg (show ¬ x = 1 by omega), if_neg (show ¬ x = 2 by omega), if_neg (show ¬ x = 3 by omega), if_neg (show ¬ x = 4 by omega), if_neg (show ¬ x = 5 by omega), if_neg (show ¬ x = 6 by omega), if_neg (show ¬ x = 7 by omega), if_neg (show ¬ x = 8 by omega), if_pos c9, c9, wr_id (z := 8 + 9) (by omega) (by omega), wr_id (z := 8 + 9 - 5) (by omega) (by omega), if_pos (rd (8 + 9 - 5) (by omega) (by omega)).1, (rd (8 + 9 - 5) (by omega) (by omega)).2]
      rfl
  by_cases c10 : x = 10
  · refine same (s 13) ?_ ?_
    · rw [cl]
      unfold f_X4_count_J13
      rw [if_neg (show ¬ x = 1 by omega), if_neg (show ¬ x = 2 by omega), if_neg (show ¬ x = 3 by omega), if_neg (show ¬ x = 4 by omega), if_neg (show ¬ x = 5 by omega), if_neg (show ¬ x = 6 by omega), if_neg (show ¬ x = 7 by omega), if_neg (show ¬ x = 8 by omega), if_neg (show ¬ x = 9 by omega), if_pos c10, if_neg (show ¬ x < 0 by omega), if_neg (show ¬ 12 ≤ x by omega), p_sum (by omega) (by omega), bd_s, c10, show hC (1 + 8) (Int.toNat 10) = s 13 from sr.2.2.2.2.2 5 (by omega)]
    · unfold f_X5_count
      rw [p_in, bd_s, if_neg p, if_pos (show (0 : Int) = 0 from rfl), if_neg (show ¬ x = 0 by omega), if_neg (show ¬ x = 1 by omega), if_neg (show ¬ x = 2 by omega), if_neg (show ¬ x = 3 by omega), if_neg (show ¬ x = 4 by omega), if_neg (show ¬ x = 5 by omega), if_neg (show ¬ x = 6 by omega), if_neg (show ¬ x = 7 by omega), if_neg (show ¬ x = 8 by omega), if_neg (show ¬ x = 9 by omega), if_pos c10, c10, wr_id (z := 8 + 10) (by omega) (by omega), wr_id (z := 8 + 10 - 5) (by omega) (by omega), if_pos (rd (8 + 10 - 5) (by omega) (by omega)).1, (rd (8 + 10 - 5) (by omega) (by omega)).2]
      rfl
  by_cases c11 : x = 11
  · refine same (s 14) ?_ ?_
    · rw [cl]
      unfold f_X4_count_J13
      rw [if_neg (show ¬ x = 1 by omega), if_neg (show ¬ x = 2 by omega), if_neg (show ¬ x = 3 by omega), if_neg (show ¬ x = 4 by omega), if_neg (show ¬ x = 5 by omega), if_neg (show ¬ x = 6 by omega), if_neg (show ¬ x = 7 by omega), if_neg (show ¬ x = 8 by omega), if_neg (show ¬ x = 9 by omega), if_neg (show ¬ x = 10 by omega), if_pos c11, if_neg (show ¬ x < 0 by omega), if_neg (show ¬ 12 ≤ x by omega), p_sum (by omega) (by omega), bd_s, c11, show hC (1 + 8) (Int.toNat 11) = s 14 from sr.2.2.2.2.2 6 (by omega)]
    · unfold f_X5_count
      rw [p_in, bd_s, if_neg p, if_pos (show (0 : Int) = 0 from rfl), if_neg (show ¬ x = 0 by omega), if_neg (show ¬ x = 1 by omega), if_neg (show ¬ x = 2 by omega), if_neg (show ¬ x = 3 by omega), if_neg (show ¬ x = 4 by omega), if_neg (show ¬ x = 5 by omega), if_neg (show ¬ x = 6 by omega), if_neg (show ¬ x = 7 by omega), if_neg (show ¬ x = 8 by omega), if_neg (show ¬ x = 9 by omega), if_neg (show ¬ x = 10 by omega), if_pos c11, c11, wr_id (z := 8 + 11) (by omega) (by omega), wr_id (z := 8 + 11 - 5) (by omega) (by omega), if_pos (rd (8 + 11 - 5) (by omega) (by omega)).1, (rd (8 + 11 - 5) (by omega) (by omega)).2]
      rfl
  by_cases c12 : x = 12
  · refine same (s 17) ?_ ?_
    · rw [cl]
      unfold f_X4_count_J13
      rw [if_neg (show ¬ x = 1 by omega), if_neg (show ¬ x = 2 by omega), if_neg (show ¬ x = 3 by omega), if_neg (show ¬ x = 4 by omega), if_neg (show ¬ x = 5 by omega), if_neg (show ¬ x = 6 by omega), if_neg (show ¬ x = 7 by omega), if_neg (show ¬ x = 8 by omega), if_neg (show ¬ x = 9 by omega), if_neg (show ¬ x = 10 by omega), if_neg (show ¬ x = 11 by omega), if_pos c12, show hC 6 1 = s 17 from sr.2.2.1.1]
    · unfold f_X5_count
      rw [p_in, bd_s, if_neg p, if_pos (show (0 : Int) = 0 from rfl), if_neg (show ¬ x = 0 by omega), if_neg (show ¬ x = 1 by omega), if_neg (show ¬ x = 2 by omega), if_neg (show ¬ x = 3 by omega), if_neg (show ¬ x = 4 by omega), if_neg (show ¬ x = 5 by omega), if_neg (show ¬ x = 6 by omega), if_neg (show ¬ x = 7 by omega), if_neg (show ¬ x = 8 by omega), if_neg (show ¬ x = 9 by omega), if_neg (show ¬ x = 10 by omega), if_neg (show ¬ x = 11 by omega), if_pos c12, if_pos (rd 17 (by omega) (by omega)).1, (rd 17 (by omega) (by omega)).2]
      rfl
  by_cases c13 : x = 13
  · refine same (hM 76 1) ?_ ?_
    · rw [cl]
      unfold f_X4_count_J13
      rw [if_neg (show ¬ x = 1 by omega), if_neg (show ¬ x = 2 by omega), if_neg (show ¬ x = 3 by omega), if_neg (show ¬ x = 4 by omega), if_neg (show ¬ x = 5 by omega), if_neg (show ¬ x = 6 by omega), if_neg (show ¬ x = 7 by omega), if_neg (show ¬ x = 8 by omega), if_neg (show ¬ x = 9 by omega), if_neg (show ¬ x = 10 by omega), if_neg (show ¬ x = 11 by omega), if_neg (show ¬ x = 12 by omega), if_pos c13, e4.1]
    · unfold f_X5_count
      rw [p_in, bd_s, if_neg p, if_pos (show (0 : Int) = 0 from rfl), if_neg (show ¬ x = 0 by omega), if_neg (show ¬ x = 1 by omega), if_neg (show ¬ x = 2 by omega), if_neg (show ¬ x = 3 by omega), if_neg (show ¬ x = 4 by omega), if_neg (show ¬ x = 5 by omega), if_neg (show ¬ x = 6 by omega), if_neg (show ¬ x = 7 by omega), if_neg (show ¬ x = 8 by omega), if_neg (show ¬ x = 9 by omega), if_neg (show ¬ x = 10 by omega), if_neg (show ¬ x = 11 by omega), if_neg (show ¬ x = 12 by omega), if_pos c13]
  by_cases c14 : x = 14
  · refine same (hM 76 3) ?_ ?_
    · rw [cl]
      unfold f_X4_count_J13
      rw [if_neg (show ¬ x = 1 by omega), if_neg (show ¬ x = 2 by omega), if_neg (show ¬ x = 3 by omega), if_neg (show ¬ x = 4 by omega), if_neg (show ¬ x = 5 by omega), if_neg (show ¬ x = 6 by omega), if_neg (show ¬ x = 7 by omega), if_neg (show ¬ x = 8 by omega), if_neg (show ¬ x = 9 by omega), if_neg (show ¬ x = 10 by omega), if_neg (show ¬ x = 11 by omega), if_neg (show ¬ x = 12 by omega), if_neg (show ¬ x = 13 by omega), if_pos c14, e4.2]
    · unfold f_X5_count
      rw [p_in, bd_s, if_neg p, if_pos (show (0 : Int) = 0 from rfl), if_neg (show ¬ x = 0 by omega), if_neg (show ¬ x = 1 by omega), if_neg (show ¬ x = 2 by omega), if_neg (show ¬ x = 3 by omega), if_neg (show ¬ x = 4 by omega), if_neg (show ¬ x = 5 by omega), if_neg (show ¬ x = 6 by omega), if_neg (show ¬ x = 7 by omega), if_neg (show ¬ x = 8 by omega), if_neg (show ¬ x = 9 by omega), if_neg (show ¬ x = 10 by omega), if_neg (show ¬ x = 11 by omega), if_neg (show ¬ x = 12 by omega), if_neg (show ¬ x = 13 by omega), if_pos c14]
  · refine same (-1000001) ?_ ?_
    · rw [cl]
      unfold f_X4_count_J13
      rw [if_neg c1, if_neg c2, if_neg c3, if_neg c4, if_neg c5, if_neg c6, if_neg c7, if_neg c8, if_neg c9, if_neg c10, if_neg c11, if_neg c12, if_neg c13, if_neg c14]
      by_cases c : x < 0
      · rw [if_pos c]
      · rw [if_neg c, if_pos (show 12 ≤ x by omega)]
    · unfold f_X5_count
      rw [p_in, bd_s, if_neg p, if_pos (show (0 : Int) = 0 from rfl), if_neg c0, if_neg c1, if_neg c2, if_neg c3, if_neg c4, if_neg c5, if_neg c6, if_neg c7, if_neg c8, if_neg c9, if_neg c10, if_neg c11, if_neg c12, if_neg c13, if_neg c14]
end Count1

/-! the pure part: mean, as a call -/
section Mean1
/-- the points of the matched pairs -/
def gF (s U : Rw) (u : Nat) : Int := if U u = -1 then 0 else pts s u (U u).toNat
theorem gF_b {N : Int} {s : Rw} {q : MgQ} (hV : Vn s) (hD : Vd N s) (hI : MgI s q) (u : Nat) : cF q.1 u ≤ gF s q.1 u ∧ gF s q.1 u ≤ 52 * cF q.1 u ∧ 0 ≤ gF s q.1 u ∧ gF s q.1 u ≤ 52 := by
  have s4 := (hD.2.2 3 (by omega)).1
  rw [show sA 85 3 = 1 from rfl, show 1 + 3 = 4 from rfl] at s4
  unfold cF gF
  by_cases c : q.1 u = -1
  · rw [if_pos c, if_pos c]
    omega
  · rw [if_neg c, if_neg c]
    rcases hI u with h | h
    · exact absurd h c
    · have p := pts_b hV hD h.2.2.1 (c := (q.1 u).toNat) (by omega)
      have p2 := h.2.2.2.1.2
      omega
theorem gF_s {N : Int} {s : Rw} {q : MgQ} (hV : Vn s) (hD : Vd N s) (hI : MgI s q) : ∀ n : Nat, sm (cF q.1) n ≤ sm (gF s q.1) n ∧ sm (gF s q.1) n ≤ 52 * sm (cF q.1) n := by
  intro n
  induction n with
  | zero => exact ⟨Int.le_refl 0, Int.le_refl 0⟩
  | succ n ih =>
    have := gF_b hV hD hI n
    rw [sm_s, sm_s]
    omega
theorem mtc_n {s : Rw} (hV : Vn s) : ∀ (n : Nat) (q : MgQ), q.2.2 = cU q.1 → (mtc s n q).2.2 = cU (mtc s n q).1 := by
  intro n
  induction n with
  | zero => intro q h; exact h
  | succ n ih =>
    intro q h
    rw [mtc_step]
    by_cases c : bst s q = -1
    · rw [if_pos c]; exact h
    · rw [if_neg c]
      rcases bst_b s q with b | b
      · exact absurd b c
      · have v := hV.1
        have l := b.2.2.1.1.1
        refine ih _ ?_
        show q.2.2 + 1 = cU (gup q.1 ((bst s q).toNat / 12) (((bst s q).toNat % 12 : Nat) : Int))
        rw [cU_up (by omega) b.2.2.2.1 (by omega), h]
theorem c_wm_L {N : Int} {s : Rw} {q : MgQ} {h : Hp} (hV : Vn s) (hD : Vd N s) (w : WA s h) (mc : MC h q.1 q.2.1) (hI : MgI s q) : ∀ (m n u : Nat), m < n → (u : Int) + m = s 15 → f_X0_worthOfMatched_L4 n (sm (gF s q.1) u) (u : Int) h = some (sm (gF s q.1) 12, h) := by
  have v1 := hV.1
  intro m
  induction m with
  | zero =>
    intro n u hn hi
    obtain ⟨n, rfl⟩ : ∃ n', n = n' + 1 := ⟨n - 1, by omega⟩
    rw [f_X0_worthOfMatched_L4_s, w.1, if_pos (by omega), show 12 = u + (12 - u) by omega, sm_skip (a := u) (12 - u) (fun k k1 k2 => by
      unfold gF
      rcases hI k with r | r
      · rw [if_pos r]
      · have := r.2.2.1
        omega)]
  | succ m ih =>
    intro n u hn hi
    obtain ⟨n, rfl⟩ : ∃ n', n = n' + 1 := ⟨n - 1, by omega⟩
    have b := sm_b52 (fun k => (gF_b hV hD hI k).2.2) u
    have b2 := (gF_b hV hD hI u).2.2
    have k := ih n (u + 1) (by omega) (by omega)
    rw [show ((u + 1 : Nat) : Int) = (u : Int) + 1 by omega, sm_s] at k
    rw [f_X0_worthOfMatched_L4_s, w.1, if_neg (by omega), p_clM (by omega), bd_s, show ((u : Int)).toNat = u by omega, (mc u (by omega)).1, wr_id (z := (u : Int) + 1) (by omega) (by omega)]
    by_cases c : q.1 u = -1
    · rw [show gF s q.1 u = 0 by unfold gF; rw [if_pos c], Int.add_zero] at k
      rw [if_pos c]
      exact k
    · rcases hI u with r | r
      · exact absurd r c
      · rw [if_neg c, c_worth hV w (by omega) (by omega) r.1 r.2.1, bd_s, show ((u : Int)).toNat = u by omega]
        rw [show gF s q.1 u = pts s u (q.1 u).toNat by unfold gF; rw [if_neg c]] at k b2
        unfold lv
        rw [wr_id (z := sm (gF s q.1) u + pts s u (q.1 u).toNat) (by omega) (by omega)]
        exact k
theorem m_mean_L {N r : Int} {s : Rw} {q : MgQ} {h : Hp} {c35 : Int → Hp → Option (Int × Hp)} (hV : Vn s) (hD : Vd N s) (w : WM s h) (mm : MM h q) (hI : MgI s q) : ∀ (m n u : Nat), m < n → u + m = 12 → f_X5_mean_L8 r c35 n (sm (gF s q.1) u) (u : Int) h = c35 (sm (gF s q.1) 12) h := by
  have v1 := hV.1
  have v2 := hV.2.1
  intro m
  induction m with
  | zero =>
    intro n u hn hi
    obtain ⟨n, rfl⟩ : ∃ n', n = n' + 1 := ⟨n - 1, by omega⟩
    rw [f_X5_mean_L8_s, if_pos (by omega), show u = 12 by omega]
  | succ m ih =>
    intro n u hn hi
    obtain ⟨n, rfl⟩ : ∃ n', n = n' + 1 := ⟨n - 1, by omega⟩
    have b := sm_b52 (fun k => (gF_b hV hD hI k).2.2) u
    have b2 := (gF_b hV hD hI u).2.2
    have k := ih n (u + 1) (by omega) (by omega)
    rw [show ((u + 1 : Nat) : Int) = (u : Int) + 1 by omega, sm_s] at k
    have i12 : inb (u : Int) 12 := by unfold inb; omega
    rw [f_X5_mean_L8_s, if_neg (by omega), if_pos i12, show ((u : Int)).toNat = u by omega, (mm u (by omega)).1, wr_id (z := (u : Int) + 1) (by omega) (by omega)]
    by_cases c : q.1 u = -1
    · rw [show gF s q.1 u = 0 by unfold gF; rw [if_pos c]] at k
      rw [if_neg (by omega)]
      unfold lv
      rw [wr_id (z := sm (gF s q.1) u + 0) (by omega) (by omega)]
      exact k
    · rcases hI u with r | r
      · exact absurd r c
      · have e : wr ((wr (12 * (u : Int))) + q.1 u) = ((12 * u + (q.1 u).toNat : Nat) : Int) := by
          rw [wr_id (z := 12 * (u : Int)) (by omega) (by omega), wr_id (by omega) (by omega)]
          omega
        have d := dv (u := u) (c := (q.1 u).toNat) (by omega)
        have su : suP s (12 * u + (q.1 u).toNat) := ⟨⟨by rw [d.1]; exact r.2.2.1, by rw [d.2]; omega⟩, by rw [d.1, d.2]; exact r.2.2.2.1⟩
        have b81 : h 81 (12 * u + (q.1 u).toNat) = pts s u (q.1 u).toNat := by
          rw [w _ (by omega), (r81_su hD.2.2 su).2]
          unfold ptP
          rw [d.1, d.2]
        rw [if_pos c, if_pos i12, e, if_pos (by unfold inb; omega), show (((12 * u + (q.1 u).toNat : Nat) : Int)).toNat = 12 * u + (q.1 u).toNat by omega, b81]
        rw [show gF s q.1 u = pts s u (q.1 u).toNat by unfold gF; rw [if_neg c]] at k b2
        unfold lv
        rw [wr_id (z := sm (gF s q.1) u + pts s u (q.1 u).toNat) (by omega) (by omega)]
        exact k
theorem k_mean {N : Int} {hC hM : Hp} (hN : N ≤ 1000000) (R : Rel N hC hM) : Call N N hC hM (f_X4_mean hC) (f_X5_mean hM) := by
  obtain ⟨sr, vg, vd, v0⟩ := rel_0 R
  have v1 := vg.1
  generalize hs : gsl (hM 77) (Int.toNat 0) = s at *
  obtain ⟨h1, a1, a2, a3, a4⟩ := c_matchAll (o := 1) (by omega) vg vd hN sr
  obtain ⟨h2, b1, b2, b3, b4, b5⟩ := m_matches (b := 0) (by omega) vg vd hN (h := hM) hs
  obtain ⟨I, J⟩ := mt0_I s
  have mi := (mtc_I 12 mt0 I J).1
  have mn : (mtA s).2.2 = cU (mtA s).1 := mtc_n vg 12 mt0 rfl
  rw [show mtc s 12 mt0 = mtA s from rfl] at mi
  have cb := cU_b (mtA s).1
  have ss := gF_s vg vd mi 12
  rw [show sm (cF (mtA s).1) 12 = (mtA s).2.2 from mn.symm] at ss
  have := fu_gt
  have kC := c_wm_L vg vd a3 a2.1 mi (s 15).toNat fu 0 (by omega) (by omega)
  rw [show ((0 : Nat) : Int) = 0 from rfl, show sm (gF s (mtA s).1) 0 = 0 from rfl] at kC
  have kM := m_mean_L (r := (mtA s).2.2) (c35 := fun y4 h5 => if ¬ (mtA s).2.2 = 0 then if nN (FP.fdiv (FP.i2f (Int32.ofInt y4)) (FP.i2f (Int32.ofInt (mtA s).2.2))) then bd (f_J_floatToIntBits (FP.fdiv (FP.i2f (Int32.ofInt y4)) (FP.i2f (Int32.ofInt (mtA s).2.2))) h5) fun r6 h6 => some (r6, h6) else none else some ((-1000004), h5)) vg vd b4 b2 mi 12 fu 0 (by omega) (by omega)
  rw [show ((0 : Nat) : Int) = 0 from rfl, show sm (gF s (mtA s).1) 0 = 0 from rfl] at kM
  unfold f_X4_mean f_X5_mean f_X0_worthOfMatched
  rw [a1, bd_s, b1, bd_s, kM, a2.2]
  unfold lv
  dsimp only
  by_cases c : (mtA s).2.2 = 0
  · rw [if_neg (by omega), if_neg (by omega)]
    exact call_read R rfl a4.t a4.t.c rfl b5.y
  · obtain ⟨m1, v, m2, m3⟩ := mean_bits (y := sm (gF s (mtA s).1) 12) (n := (mtA s).2.2) (hC := h1) (hM := h2) (by omega) (by omega) ss.1 ss.2
    unfold fx at m1 m2 m3
    rw [if_pos (by omega), kC, bd_s, if_pos m1, m2, bd_s, if_pos c, if_pos m1, m3, bd_s]
    exact call_read R rfl a4.t a4.t.c rfl b5.y
end Mean1

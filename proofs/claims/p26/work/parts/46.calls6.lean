/-! the pure part: points, having, oddest, umbrella, claimOf, why, as calls -/
section Calls6
theorem p_isU {s : Rw} {x : Int} {h : Hp} (eg : gsl (h 77) (Int.toNat 0) = s) (hV : Vn s) : f_X5_isUmbrella x h = some (if 0 ≤ x ∧ x < s 15 then 1 else 0, h) := by
  have v := hV.1
  have e : h 77 (Int.toNat 15) = s 15 := by rw [← eg]; rfl
  unfold f_X5_isUmbrella
  rw [if_pos (by unfold inb; omega), e, wr_id (by omega) (by omega), p_in, bd_s]
  by_cases c : 0 ≤ x ∧ x < s 15
  · rw [if_pos (show 0 ≤ x ∧ x ≤ s 15 - 1 by omega), if_pos c, if_pos (by unfold isB; omega)]
  · rw [if_neg (show ¬ (0 ≤ x ∧ x ≤ s 15 - 1) by omega), if_neg c, if_pos (by unfold isB; omega)]
theorem p_isC0 {s : Rw} {x : Int} {h : Hp} (eg : gsl (h 77) (Int.toNat 0) = s) (hV : Vn s) : f_X5_isClaim 0 x h = some (if 0 ≤ x ∧ x < s 16 then 1 else 0, h) := by
  have v := hV.2.1
  have e : h 77 (Int.toNat (0 + 16)) = s 16 := by rw [← eg]; rfl
  unfold f_X5_isClaim
  rw [wr_id (z := 0 + 16) (by omega) (by omega), if_pos (by unfold inb; omega), e, wr_id (by omega) (by omega), p_in, bd_s]
  by_cases c : 0 ≤ x ∧ x < s 16
  · rw [if_pos (show 0 ≤ x ∧ x ≤ s 16 - 1 by omega), if_pos c, if_pos (by unfold isB; omega)]
  · rw [if_neg (show ¬ (0 ≤ x ∧ x ≤ s 16 - 1) by omega), if_neg c, if_pos (by unfold isB; omega)]
theorem c_hasU {s : Rw} {x : Int} {h : Hp} (R : SR h 1 s) : f_X2_has 2 x h = some (if 0 ≤ x ∧ x < s 15 then 1 else 0, h) := by
  have e : h 2 1 = s 15 := R.1.1
  rw [p_has, e]
theorem c_hasC {s : Rw} {x : Int} {h : Hp} (R : SR h 1 s) : f_X2_has 4 x h = some (if 0 ≤ x ∧ x < s 16 then 1 else 0, h) := by
  have e : h 4 1 = s 16 := R.2.1.1
  rw [p_has, e]
abbrev okP (s : Rw) (u c : Int) : Prop := (0 ≤ u ∧ u < s 15) ∧ (0 ≤ c ∧ c < s 16)
theorem c_isPair {s : Rw} {u c : Int} {h : Hp} (R : SR h 1 s) : f_X4_isPair u c h = some (if okP s u c then 1 else 0, h) := by
  unfold f_X4_isPair
  rw [c_hasU R, bd_s]
  by_cases c1 : 0 ≤ u ∧ u < s 15
  · rw [if_pos c1, if_neg (by omega), c_hasC R, bd_s]
    by_cases c2 : 0 ≤ c ∧ c < s 16
    · rw [if_pos c2, if_neg (by omega), if_pos ⟨c1, c2⟩]
    · rw [if_neg c2, if_pos rfl, if_neg (fun q => c2 q.2)]
  · rw [if_neg c1, if_pos rfl, if_neg (fun q => c1 q.1)]
theorem k_points {N u c : Int} {hC hM : Hp} (hN : N ≤ 1000000) (R : Rel N hC hM) : Call N N hC hM (f_X4_points u c hC) (f_X5_points u c hM) := by
  obtain ⟨sr, vg, vd, v0⟩ := rel_0 R
  have e1 := c_isPair (u := u) (c := c) sr
  have e2 := p_isU (x := u) (h := hM) rfl vg
  have e3 := p_isC0 (x := c) (h := hM) rfl vg
  by_cases p : okP (gsl (hM 77) (Int.toNat 0)) u c
  · obtain ⟨h1, a1, a2, a3⟩ := c_weighAll (o := 1) (by omega) vg vd hN sr
    refine call_read R (r := wr (1000 + pts (gsl (hM 77) (Int.toNat 0)) u.toNat c.toNat)) (hC' := h1) (hM' := hM) ?_ a3.t a3.t.c ?_ FrY.rf
    · unfold f_X4_points
      rw [e1, bd_s, if_pos p, if_pos (by omega), a1, bd_s, c_worth vg a2 p.1.1 p.1.2 p.2.1 p.2.2, bd_s]
    · unfold f_X5_points
      rw [e2, bd_s, if_pos p.1, if_neg (by omega), e3, bd_s, if_pos p.2, if_neg (by omega), p_pts (b := 0) (by omega) vg vd hN p.1 p.2, bd_s]
  · refine call_read R (r := -1000001) (hC' := hC) (hM' := hM) ?_ FrT.rf FrT.rf.c ?_ FrY.rf
    · unfold f_X4_points
      rw [e1, bd_s, if_neg p, if_neg (by omega)]
    · unfold f_X5_points
      rw [e2, bd_s]
      by_cases c1 : 0 ≤ u ∧ u < gsl (hM 77) (Int.toNat 0) 15
      · rw [if_pos c1, if_neg (by omega), e3, bd_s, if_neg (fun q => p ⟨c1, q⟩), if_pos rfl]
      · rw [if_neg c1, if_pos rfl]
theorem k_having {N j v : Int} {hC hM : Hp} (R : Rel N hC hM) : Call N N hC hM (f_X4_having j v hC) (f_X5_having j v hM) := by
  obtain ⟨sr, vg, vd, v0⟩ := rel_0 R
  by_cases p : (0 ≤ j ∧ j ≤ 3) ∧ okv 0 v
  · refine call_read R (r := cn (gsl (hM 77) (Int.toNat 0)) j.toNat v (gsl (hM 77) (Int.toNat 0) 15).toNat) (hC' := hC) (hM' := hM) ?_ FrT.rf FrT.rf.c ?_ FrY.rf
    · unfold f_X4_having
      rw [p_isD, bd_s, if_pos p.1, if_neg (by omega), p_isV, bd_s, if_pos p.2, if_pos (by omega), c_with sr vg (by omega), bd_s]
    · unfold f_X5_having
      rw [p_isDt, bd_s, if_pos p, if_neg (by omega), p_many (b := 0) (by omega) (by omega) vg, bd_s]
  · refine call_read R (r := -1000001) (hC' := hC) (hM' := hM) ?_ FrT.rf FrT.rf.c ?_ FrY.rf
    · unfold f_X4_having
      rw [p_isD, bd_s]
      by_cases c1 : 0 ≤ j ∧ j ≤ 3
      · rw [if_pos c1, if_neg (by omega), p_isV, bd_s, if_neg (fun q => p ⟨c1, q⟩), if_neg (by omega)]
      · rw [if_neg c1, if_pos rfl]
    · unfold f_X5_having
      rw [p_isDt, bd_s, if_neg p, if_pos rfl]
theorem oddest_L {s : Rw} {hC hM : Hp} (sr : SR hC 1 s) (eg : gsl (hM 77) (Int.toNat 0) = s) (hV : Vn s) : ∀ (m n n' : Nat) (i : Nat) (b : Int), m < n → m < n' → (i : Int) + m = s 15 → (b = -1 ∨ (0 ≤ b ∧ b < s 15)) →
    ∃ r, f_X4_oddest_L6 n b (if b = -1 then 0 else odt s b.toNat) (i : Int) hC = some (r, hC) ∧ f_X5_oddest_L4 n' (if b = -1 then -1000004 else b) (i : Int) hM = some (r, hM) := by
  have eC : hC 2 1 = s 15 := sr.1.1
  have eM : hM 77 (Int.toNat 15) = s 15 := by rw [← eg]; rfl
  have v := hV.1
  intro m
  induction m with
  | zero =>
    intro n n' i b hn hn' hi hb
    obtain ⟨n, rfl⟩ : ∃ n0, n = n0 + 1 := ⟨n - 1, by omega⟩
    obtain ⟨n', rfl⟩ : ∃ n0, n' = n0 + 1 := ⟨n' - 1, by omega⟩
    have e4 : inb 15 1330 := by unfold inb; omega
    by_cases c : b = -1
    · rw [if_pos c, if_pos c, f_X4_oddest_L6_s, f_X5_oddest_L4_s, eC, eM, if_pos (show s 15 ≤ (i : Int) by omega), if_pos e4, if_pos (show s 15 ≤ (i : Int) by omega)]
      unfold f_X4_orNotFound
      rw [if_neg (by omega), bd_s]
      exact ⟨_, rfl, rfl⟩
    · rw [if_neg c, if_neg c, f_X4_oddest_L6_s, f_X5_oddest_L4_s, eC, eM, if_pos (show s 15 ≤ (i : Int) by omega), if_pos e4, if_pos (show s 15 ≤ (i : Int) by omega)]
      unfold f_X4_orNotFound
      rw [if_pos c, bd_s]
      exact ⟨_, rfl, rfl⟩
  | succ m ih =>
    intro n n' i b hn hn' hi hb
    obtain ⟨n, rfl⟩ : ∃ n0, n = n0 + 1 := ⟨n - 1, by omega⟩
    obtain ⟨n', rfl⟩ : ∃ n0, n' = n0 + 1 := ⟨n' - 1, by omega⟩
    have e4 : inb 15 1330 := by unfold inb; omega
    have kI := ih n n' (i + 1) (i : Int) (by omega) (by omega) (by omega) (Or.inr (by omega))
    rw [if_neg (show ¬ (i : Int) = -1 by omega), if_neg (show ¬ (i : Int) = -1 by omega), show ((i + 1 : Nat) : Int) = (i : Int) + 1 by omega] at kI
    by_cases c : b = -1
    · rw [if_pos c, if_pos c, f_X4_oddest_L6_s, f_X5_oddest_L4_s, eC, eM, if_neg (show ¬ s 15 ≤ (i : Int) by omega), if_pos e4, if_neg (show ¬ s 15 ≤ (i : Int) by omega), c_odt sr hV (by omega) (by omega), bd_s, wr_id (by omega) (by omega), if_pos c, if_pos rfl]
      exact kI
    · have kB := ih n n' (i + 1) b (by omega) (by omega) (by omega) hb
      rw [if_neg c, if_neg c, show ((i + 1 : Nat) : Int) = (i : Int) + 1 by omega] at kB
      rw [if_neg c, if_neg c, f_X4_oddest_L6_s, f_X5_oddest_L4_s, eC, eM, if_neg (show ¬ s 15 ≤ (i : Int) by omega), if_pos e4, if_neg (show ¬ s 15 ≤ (i : Int) by omega), c_odt sr hV (by omega) (by omega), bd_s, wr_id (by omega) (by omega), if_neg c, if_neg (show ¬ b = -1000004 by omega), p_odt eg hV (by omega) (by omega), bd_s, p_odt eg hV (by omega) (by omega), bd_s]
      by_cases c2 : odt s ((i : Int)).toNat ≤ odt s b.toNat
      · rw [if_pos c2, if_pos c2]
        exact kB
      · rw [if_neg c2, if_neg c2]
        exact kI
theorem k_oddest {N : Int} {hC hM : Hp} (R : Rel N hC hM) : Call N N hC hM (f_X4_oddest hC) (f_X5_oddest hM) := by
  obtain ⟨sr, vg, vd, v0⟩ := rel_0 R
  have v := vg.1
  have := fu_gt
  obtain ⟨r, a, b⟩ := oddest_L sr rfl vg (gsl (hM 77) (Int.toNat 0) 15).toNat fu fu 0 (-1) (by omega) (by omega) (by omega) (Or.inl rfl)
  exact call_read R a FrT.rf FrT.rf.c b FrY.rf
theorem FrX.g {h h' : Hp} {b : Nat} (f : FrX h h') : gsl (h' 77) b = gsl (h 77) b := by
  rw [f 77 (by omega) (by omega) (by omega) (by omega)]
theorem k_umbrella {N x w : Int} {hC hM : Hp} (hN : N ≤ 1000000) (R : Rel N hC hM) : Call N N hC hM (f_X4_umbrella x w hC) (f_X5_umbrella x w hM) := by
  obtain ⟨sr, vg, vd, v0⟩ := rel_0 R
  have e1 := c_hasU (x := x) sr
  have e2 := p_isU (x := x) (h := hM) rfl vg
  have v1 := vg.1
  have v2 := vg.2.1
  by_cases p : 0 ≤ x ∧ x < gsl (hM 77) (Int.toNat 0) 15
  · rw [if_pos p] at e1 e2
    by_cases q : 0 ≤ w ∧ w ≤ 8
    · unfold f_X4_umbrella f_X5_umbrella
      rw [e1, e2, bd_s, bd_s, p_in, bd_s, if_pos (show 0 ≤ w ∧ w ≤ 8 from q), if_neg (show ¬ (1 : Int) = 0 by omega), if_neg (show ¬ (1 : Int) = 0 by omega), if_neg (show ¬ w < 0 by omega), if_pos (show w ≤ 8 by omega), if_pos (show ¬ (1 : Int) = 0 by omega)]
      by_cases w4 : w ≤ 4
      · rw [if_neg (show ¬ 4 < w by omega), if_neg (show ¬ w = 5 by omega), if_neg (show ¬ w = 6 by omega), if_neg (show ¬ w = 7 by omega), if_neg (show ¬ w = 8 by omega)]
        refine call_read R (r := gsl (hM 77) (Int.toNat 0) (18 + 5 * x.toNat + w.toNat)) (hC' := hC) (hM' := hM) ?_ FrT.rf FrT.rf.c ?_ FrY.rf
        · rw [show f_X2_cell 2 x w hC = _ from c_cellU sr vg p (by omega), bd_s]
        · rw [p_uAt (by omega) (by omega) (by omega) (by omega), bd_s, wr_id (z := 0 + 18 + 5 * x + w) (by omega) (by omega), if_pos (by unfold inb; omega), show 0 + 18 + 5 * x + w = 0 + (18 + 5 * x + w) by omega, rd_sl (h := hM) (by omega) (by omega), show (18 + 5 * x + w).toNat = 18 + 5 * x.toNat + w.toNat by omega]
      rw [if_pos (show 4 < w by omega)]
      by_cases w8 : w = 8
      · rw [if_neg (show ¬ ¬ w = 8 by omega), if_neg (show ¬ w = 5 by omega), if_neg (show ¬ w = 6 by omega), if_neg (show ¬ w = 7 by omega), if_pos w8, c_odt sr vg p.1 p.2, bd_s, p_odt rfl vg p.1 p.2, bd_s]
        exact call_read R rfl FrT.rf FrT.rf.c rfl FrY.rf
      obtain ⟨h1, a1, a2, a3, a4⟩ := c_matchAll (o := 1) (by omega) vg vd hN sr
      rw [if_pos w8, a1, bd_s]
      by_cases w7 : w = 7
      · obtain ⟨h2, b1, b2⟩ := m_suit (x := x) (y := -1) vg vd hN rfl
        rw [if_neg (show ¬ ¬ w = 7 by omega), if_neg (show ¬ w = 5 by omega), if_neg (show ¬ w = 6 by omega), if_pos w7, b1, bd_s, c_cs vg a3 p.1 p.2, bd_s]
        exact call_read R rfl a4.t a4.t.c rfl b2.y
      obtain ⟨h2, b1, b2, b3, b4, b5⟩ := m_matches (b := 0) (by omega) vg vd hN (h := hM) rfl
      have g : gsl (h2 77) (Int.toNat 0) = gsl (hM 77) (Int.toNat 0) := b5.g
      obtain ⟨I, J⟩ := mt0_I (gsl (hM 77) (Int.toNat 0))
      have mi := (mtc_I 12 mt0 I J).1 x.toNat
      rw [show mtc (gsl (hM 77) (Int.toNat 0)) 12 mt0 = mtA (gsl (hM 77) (Int.toNat 0)) from rfl] at mi
      rw [if_pos w7, p_clM (by omega), bd_s, (a2.1 x.toNat (by omega)).1]
      have mat : ∀ y, f_X5_mateOf x y hM = if ¬ (mtA (gsl (hM 77) (Int.toNat 0))).1 x.toNat = -1 then (if y = 0 then bd (f_X5_pointsOf 0 x ((mtA (gsl (hM 77) (Int.toNat 0))).1 x.toNat) h2) fun r3 h3 => some (r3, h3) else some ((mtA (gsl (hM 77) (Int.toNat 0))).1 x.toNat, h2)) else some (-1000004, h2) := fun y => by
        unfold f_X5_mateOf
        rw [b1, bd_s, if_pos (by unfold inb; omega)]
        unfold lv
        rw [(b2 x.toNat (by omega)).1]
      by_cases c5 : w = 5
      · rw [if_neg (show ¬ ¬ w = 5 by omega), if_pos c5, if_neg (show ¬ ¬ w = 5 by omega), mat]
        by_cases c : (mtA (gsl (hM 77) (Int.toNat 0))).1 x.toNat = -1
        · rw [if_neg (by omega), if_neg (by omega), bd_s]
          exact call_read R rfl a4.t a4.t.c rfl b5.y
        · rw [if_pos c, if_pos c, if_neg (by omega), bd_s]
          exact call_read R rfl a4.t a4.t.c rfl b5.y
      · rw [if_pos c5, if_neg c5, if_pos (show w = 6 by omega), if_pos c5, mat]
        by_cases c : (mtA (gsl (hM 77) (Int.toNat 0))).1 x.toNat = -1
        · rw [if_neg (by omega), if_neg (by omega), bd_s]
          exact call_read R rfl a4.t a4.t.c rfl b5.y
        · rcases mi with mi | mi
          · exact absurd mi c
          rw [if_pos c, if_pos c, if_pos rfl, c_worth vg a3 p.1 p.2 mi.1 mi.2.1, bd_s, p_pts (b := 0) (by omega) (by rw [g]; exact vg) (by rw [g]; exact vd) hN (by rw [g]; exact p) (by rw [g]; exact ⟨mi.1, mi.2.1⟩), bd_s, bd_s, g]
          exact call_read R rfl a4.t a4.t.c rfl b5.y
    · refine call_read R (r := -1000001) (hC' := hC) (hM' := hM) ?_ FrT.rf FrT.rf.c ?_ FrY.rf
      · unfold f_X4_umbrella
        rw [e1, bd_s, if_neg (show ¬ (1 : Int) = 0 by omega)]
        by_cases c : w < 0
        · rw [if_pos c]
        · rw [if_neg c, if_neg (show ¬ w ≤ 8 by omega)]
      · unfold f_X5_umbrella
        rw [e2, bd_s, if_neg (show ¬ (1 : Int) = 0 by omega), p_in, bd_s, if_neg (show ¬ (0 ≤ w ∧ w ≤ 8) from q), if_neg (show ¬ ¬ (0 : Int) = 0 by omega)]
  · rw [if_neg p] at e1 e2
    refine call_read R (r := -1000001) (hC' := hC) (hM' := hM) ?_ FrT.rf FrT.rf.c ?_ FrY.rf
    · unfold f_X4_umbrella
      rw [e1, bd_s, if_pos rfl]
    · unfold f_X5_umbrella
      rw [e2, bd_s, if_pos rfl]
end Calls6

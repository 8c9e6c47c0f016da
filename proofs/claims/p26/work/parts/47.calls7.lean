/-! the pure part: claimOf, why, as calls -/
section Calls7
theorem m_matchOf {b N c : Int} {s : Rw} {h : Hp} (hb : 0 ≤ b ∧ b ≤ 1140) (hV : Vn s) (hD : Vd N s) (hN : N ≤ 1000000) (eg : gsl (h 77) b.toNat = s) (hc : 0 ≤ c ∧ c < 12) :
    ∃ h', f_X5_matchOf b c h = some (if (mtA s).2.1 c.toNat = -1 then -1000004 else (mtA s).2.1 c.toNat, h') ∧ FrX h h' := by
  obtain ⟨h2, b1, b2, b3, b4, b5⟩ := m_matches hb hV hD hN eg
  have i12 : inb c 12 := by unfold inb; omega
  unfold f_X5_matchOf
  rw [b1, bd_s, if_pos i12, (b2 c.toNat (by omega)).2]
  by_cases k : (mtA s).2.1 c.toNat = -1
  · rw [if_neg (by omega), if_pos k]
    exact ⟨h2, rfl, b5⟩
  · rw [if_pos k, if_pos i12, if_neg k]
    exact ⟨h2, rfl, b5⟩
theorem k_claimOf {N x w : Int} {hC hM : Hp} (hN : N ≤ 1000000) (R : Rel N hC hM) : Call N N hC hM (f_X4_claimOf x w hC) (f_X5_claimOf x w hM) := by
  obtain ⟨sr, vg, vd, v0⟩ := rel_0 R
  have e1 := c_hasC (x := x) sr
  have e2 := p_isC0 (x := x) (h := hM) rfl vg
  have v1 := vg.1
  have v2 := vg.2.1
  by_cases p : 0 ≤ x ∧ x < gsl (hM 77) (Int.toNat 0) 16
  · rw [if_pos p] at e1 e2
    by_cases q : 0 ≤ w ∧ w ≤ 7
    · have cell : ∀ j, 0 ≤ j ∧ j < 6 → f_X2_cell 4 x j hC = some (gsl (hM 77) (Int.toNat 0) (78 + 6 * x.toNat + j.toNat), hC) := fun j hj => c_cellC sr vg p hj
      have rd : ∀ j : Int, 0 ≤ j → j < 6 → inb (wr (0 + 78 + 6 * x + j)) 1330 ∧ hM 77 (wr (0 + 78 + 6 * x + j)).toNat = gsl (hM 77) (Int.toNat 0) (78 + 6 * x.toNat + j.toNat) := fun j h0 h1 => by
        rw [wr_id (z := 0 + 78 + 6 * x + j) (by omega) (by omega)]
        refine ⟨by unfold inb; omega, ?_⟩
        rw [show 0 + 78 + 6 * x + j = 0 + (78 + 6 * x + j) by omega, rd_sl (h := hM) (by omega) (by omega), show (78 + 6 * x + j).toNat = 78 + 6 * x.toNat + j.toNat by omega]
      unfold f_X4_claimOf f_X5_claimOf
      rw [e1, e2, bd_s, bd_s, p_in, bd_s, if_pos (show 0 ≤ w ∧ w ≤ 7 from q), if_neg (show ¬ (1 : Int) = 0 by omega), if_neg (show ¬ (1 : Int) = 0 by omega), if_neg (show ¬ w < 0 by omega), if_pos (show w ≤ 7 by omega), if_pos (show ¬ (1 : Int) = 0 by omega), p_cAt (by omega) (by omega) (by omega) (by omega), bd_s]
      by_cases w4 : w < 4
      · obtain ⟨r1, r2⟩ := rd w q.1 (by omega)
        rw [if_neg (show ¬ 4 ≤ w by omega), if_neg (show ¬ w = 4 by omega), if_neg (show ¬ w = 5 by omega), if_neg (show ¬ w = 6 by omega), if_neg (show ¬ w = 7 by omega), cell w (by omega), bd_s, if_pos r1, r2]
        by_cases k : gsl (hM 77) (Int.toNat 0) (78 + 6 * x.toNat + w.toNat) = -1
        · rw [if_neg (by omega), if_neg (by omega)]
          exact call_read R rfl FrT.rf FrT.rf.c rfl FrY.rf
        · rw [if_pos k, if_pos k, if_pos r1]
          exact call_read R rfl FrT.rf FrT.rf.c rfl FrY.rf
      rw [if_pos (show 4 ≤ w by omega)]
      by_cases c4 : w = 4
      · obtain ⟨r1, r2⟩ := rd 4 (by omega) (by omega)
        rw [if_neg (show ¬ ¬ w = 4 by omega), if_pos c4, cell 4 (by omega), bd_s, if_pos r1, r2]
        exact call_read R rfl FrT.rf FrT.rf.c rfl FrY.rf
      rw [if_pos c4, if_neg c4]
      by_cases c7 : w = 7
      · obtain ⟨r1, r2⟩ := rd 5 (by omega) (by omega)
        rw [if_neg (show ¬ ¬ w = 7 by omega), if_neg (show ¬ w = 5 by omega), if_neg (show ¬ w = 6 by omega), if_pos c7, cell 5 (by omega), bd_s, if_pos r1, r2]
        exact call_read R rfl FrT.rf FrT.rf.c rfl FrY.rf
      obtain ⟨h1, a1, a2, a3, a4⟩ := c_matchAll (o := 1) (by omega) vg vd hN sr
      rw [if_pos c7, a1, bd_s]
      by_cases c5 : w = 5
      · obtain ⟨h2, b1, b2⟩ := m_matchOf (b := 0) (c := x) (h := hM) (by omega) vg vd hN rfl (by omega)
        rw [if_neg (show ¬ ¬ w = 5 by omega), if_pos c5, b1, bd_s, p_umM (by omega), bd_s, (a2.1 x.toNat (by omega)).2]
        unfold f_X4_orNotFound
        by_cases k : (mtA (gsl (hM 77) (Int.toNat 0))).2.1 x.toNat = -1
        · rw [if_neg (by omega), bd_s, if_pos k]
          exact call_read R rfl a4.t a4.t.c rfl b2.y
        · rw [if_pos k, bd_s, if_neg k]
          exact call_read R rfl a4.t a4.t.c rfl b2.y
      · obtain ⟨h2, b1, b2⟩ := m_suit (x := -1) (y := x) vg vd hN rfl
        rw [if_pos c5, if_neg c5, if_pos (show w = 6 by omega), b1, bd_s, c_us vg a3 p.1 p.2, bd_s]
        exact call_read R rfl a4.t a4.t.c rfl b2.y
    · refine call_read R (r := -1000001) (hC' := hC) (hM' := hM) ?_ FrT.rf FrT.rf.c ?_ FrY.rf
      · unfold f_X4_claimOf
        rw [e1, bd_s, if_neg (show ¬ (1 : Int) = 0 by omega)]
        by_cases c : w < 0
        · rw [if_pos c]
        · rw [if_neg c, if_neg (show ¬ w ≤ 7 by omega)]
      · unfold f_X5_claimOf
        rw [e2, bd_s, if_neg (show ¬ (1 : Int) = 0 by omega), p_in, bd_s, if_neg (show ¬ (0 ≤ w ∧ w ≤ 7) from q), if_neg (show ¬ ¬ (0 : Int) = 0 by omega)]
  · rw [if_neg p] at e1 e2
    refine call_read R (r := -1000001) (hC' := hC) (hM' := hM) ?_ FrT.rf FrT.rf.c ?_ FrY.rf
    · unfold f_X4_claimOf
      rw [e1, bd_s, if_pos rfl]
    · unfold f_X5_claimOf
      rw [e2, bd_s, if_pos rfl]
theorem k_why {N u c : Int} {hC hM : Hp} (hN : N ≤ 1000000) (R : Rel N hC hM) : Call N N hC hM (f_X4_why u c hC) (f_X5_why u c hM) := by
  obtain ⟨sr, vg, vd, v0⟩ := rel_0 R
  have e1 := c_isPair (u := u) (c := c) sr
  have e2 := p_isU (x := u) (h := hM) rfl vg
  have e3 := p_isC0 (x := c) (h := hM) rfl vg
  have v1 := vg.1
  have v2 := vg.2.1
  generalize hs : gsl (hM 77) (Int.toNat 0) = s at *
  by_cases p : okP s u c
  · obtain ⟨h1, a1, a2, a3, a4⟩ := c_matchAll (o := 1) (by omega) vg vd hN sr
    obtain ⟨h2, b1, b2, b3, b4, b5⟩ := m_matches (b := 0) (by omega) vg vd hN (h := hM) hs
    have g : gsl (h2 77) (Int.toNat 0) = s := b5.g.trans hs
    obtain ⟨I, J⟩ := mt0_I s
    have mi := (mtc_I 12 mt0 I J).1 u.toNat
    rw [show mtc s 12 mt0 = mtA s from rfl] at mi
    have sr1 := sr.scr a4 (by omega)
    obtain ⟨w7, w8, w⟩ := a3
    have wk := w u.toNat c.toNat (by omega) (by omega) (by omega)
    have pp := p_pair (u := u.toNat) (c := c.toNat) (h := h1) (by omega) (by omega) (by omega) (by omega)
    rw [show ((u.toNat : Nat) : Int) = u by omega, show ((c.toNat : Nat) : Int) = c by omega] at pp
    have inu : inb u 12 := by unfold inb; omega
    have m1 : h2 77 (Int.toNat 1) = s 1 := by rw [← g]; rfl
    have m4 : h2 77 (Int.toNat 4) = s 4 := by rw [← g]; rfl
    have i1 : inb 1 1330 := by unfold inb; omega
    have i4 : inb 4 1330 := by unfold inb; omega
    have i144 : inb (((12 * u.toNat + c.toNat : Nat) : Int)) 144 := by unfold inb; omega
    unfold f_X4_why f_X5_why f_X0_reasonAgainst
    rw [e1, e2, bd_s, bd_s, if_pos p.1, if_pos p, if_pos (show ¬ (1 : Int) = 0 by omega), if_neg (show ¬ (1 : Int) = 0 by omega), e3, bd_s, if_pos p.2, if_pos (show ¬ (1 : Int) = 0 by omega), a1, bd_s, b1, bd_s, pp, bd_s, p_clM (by omega), bd_s, if_neg (show ¬ ((12 * u.toNat + c.toNat : Nat) : Int) < 0 by omega), if_neg (show ¬ 144 ≤ ((12 * u.toNat + c.toNat : Nat) : Int) by omega), (a2.1 u.toNat (by omega)).1, if_pos inu, (b2 u.toNat (by omega)).1]
    by_cases k0 : (mtA s).1 u.toNat = c
    · rw [if_neg (show ¬ ¬ (mtA s).1 u.toNat = c by omega), if_neg (show ¬ ¬ (mtA s).1 u.toNat = c by omega), bd_s]
      exact call_read R rfl a4.t a4.t.c rfl b5.y
    rw [if_pos k0, if_pos k0, if_pos i144, p_setting (by omega) (by omega), bd_s, show (((12 * u.toNat + c.toNat : Nat) : Int)).toNat = 12 * u.toNat + c.toNat by omega, wk.1, wk.2.2, show h1 (1 + 7) (Int.toNat 0) = s 1 from sr1.2.2.2.1 0 (by omega), if_pos i144, p_misses (b := 0) (by omega) (by omega) (by omega), bd_s, if_pos i1, m1, g]
    by_cases k1 : mis s u.toNat c.toNat ≤ s 1
    · rw [if_pos k1, if_pos k1, p_pts (b := 0) (by omega) (by rw [g]; exact vg) (by rw [g]; exact vd) hN (by rw [g]; exact p.1) (by rw [g]; exact p.2), bd_s, if_pos i4, m4, g]
      by_cases k2 : s 4 ≤ pts s u.toNat c.toNat
      · rw [if_pos (show sut s u.toNat c.toNat from ⟨k1, k2⟩), if_pos (show ¬ (1 : Int) = 0 by omega), if_pos k2, if_pos inu]
        unfold lv
        dsimp only
        rw [(b2 u.toNat (by omega)).1]
        have kJ : f_X5_why_J80 h2 = some (3, h2) := by
          unfold f_X5_why_J80
          rw [if_neg (by omega)]
        by_cases k3 : (mtA s).1 u.toNat = -1
        · rw [if_pos k3, if_pos (show (0 : Int) = 0 from rfl), k3]
          have pm : f_X0_pairOf u (-1) h1 = some (-1, h1) := by
            unfold f_X0_pairOf
            rw [if_neg (by omega), if_neg (by omega), if_pos (by omega)]
          rw [pm, bd_s]
          unfold f_X0_aheadOf
          rw [if_pos (by omega), bd_s, if_neg (by omega), bd_s]
          exact call_read R rfl a4.t a4.t.c rfl b5.y
        · rcases mi with mi | mi
          · exact absurd mi k3
          obtain ⟨q0, q1, q2, q3, q4⟩ := mi
          have d := dv (u := u.toNat) (c := ((mtA s).1 u.toNat).toNat) (by omega)
          have dc := dv (u := u.toNat) (c := c.toNat) (by omega)
          have pm := p_pair (u := u.toNat) (c := ((mtA s).1 u.toNat).toNat) (h := h1) (by omega) (by omega) (by omega) (by omega)
          rw [show ((u.toNat : Nat) : Int) = u by omega, show (((mtA s).1 u.toNat).toNat : Int) = (mtA s).1 u.toNat by omega] at pm
          have su : suP s (12 * u.toNat + ((mtA s).1 u.toNat).toNat) := ⟨⟨by rw [d.1]; omega, by rw [d.2]; omega⟩, by rw [d.1, d.2]; exact q3⟩
          have b81 : h2 81 (12 * u.toNat + ((mtA s).1 u.toNat).toNat) = pts s u.toNat ((mtA s).1 u.toNat).toNat := by
            rw [b4 _ (by omega), (r81_su vd.2.2 su).2]
            unfold ptP
            rw [d.1, d.2]
          have wm := (w u.toNat ((mtA s).1 u.toNat).toNat (by omega) (by omega) (by omega)).2.1
          have iM : inb (wr ((wr (12 * u)) + (mtA s).1 u.toNat)) 144 := by
            rw [wr_id (z := 12 * u) (by omega) (by omega), wr_id (by omega) (by omega)]
            unfold inb
            omega
          have eM : (wr ((wr (12 * u)) + (mtA s).1 u.toNat)).toNat = 12 * u.toNat + ((mtA s).1 u.toNat).toNat := by
            rw [wr_id (z := 12 * u) (by omega) (by omega), wr_id (by omega) (by omega)]
            omega
          rw [if_neg k3, if_pos iM, eM, b81, pm, bd_s]
          unfold f_X0_aheadOf
          rw [if_neg (by omega), if_pos (by omega), if_neg (by omega), if_pos (by omega), if_pos (by unfold inb; omega), if_pos (by unfold inb; omega), show (((12 * u.toNat + c.toNat : Nat) : Int)).toNat = 12 * u.toNat + c.toNat by omega, show (((12 * u.toNat + ((mtA s).1 u.toNat).toNat : Nat) : Int)).toNat = 12 * u.toNat + ((mtA s).1 u.toNat).toNat by omega, wk.2.1, wm]
          by_cases k4 : pts s u.toNat c.toNat < pts s u.toNat ((mtA s).1 u.toNat).toNat
          · rw [if_pos k4, kJ, if_neg (by omega), if_pos (by unfold inb; omega), if_pos (by unfold inb; omega), if_neg (by omega), bd_s, if_pos (by omega), bd_s]
            exact call_read R rfl a4.t a4.t.c rfl b5.y
          · rw [if_neg k4, if_pos iM]
            by_cases k5 : pts s u.toNat ((mtA s).1 u.toNat).toNat = pts s u.toNat c.toNat
            · rw [if_pos k5, if_neg (show ¬ ¬ pts s u.toNat ((mtA s).1 u.toNat).toNat = pts s u.toNat c.toNat by omega), p_min, bd_s, bd_s]
              by_cases k6 : c ≤ (mtA s).1 u.toNat
              · rw [if_pos k6, if_pos (show (0 : Int) = 0 from rfl), if_neg (show ¬ ((12 * u.toNat + ((mtA s).1 u.toNat).toNat : Nat) : Int) ≤ ((12 * u.toNat + c.toNat : Nat) : Int) by omega), if_neg (by omega), bd_s]
                exact call_read R rfl a4.t a4.t.c rfl b5.y
              · rw [if_neg k6, kJ, if_pos (show ((12 * u.toNat + ((mtA s).1 u.toNat).toNat : Nat) : Int) ≤ ((12 * u.toNat + c.toNat : Nat) : Int) by omega), if_pos (by omega), bd_s]
                exact call_read R rfl a4.t a4.t.c rfl b5.y
            · rw [if_neg k5, if_pos (show ¬ pts s u.toNat ((mtA s).1 u.toNat).toNat = pts s u.toNat c.toNat from k5), if_pos (show (0 : Int) = 0 from rfl), if_pos (by unfold inb; omega), if_pos (by unfold inb; omega), if_pos (by omega), bd_s, if_neg (by omega), bd_s]
              exact call_read R rfl a4.t a4.t.c rfl b5.y
      · rw [if_neg (show ¬ sut s u.toNat c.toNat from fun q => k2 q.2), if_neg (show ¬ ¬ (0 : Int) = 0 by omega), if_neg k2, bd_s]
        exact call_read R rfl a4.t a4.t.c rfl b5.y
    · rw [if_neg k1, if_neg k1, bd_s]
      exact call_read R rfl a4.t a4.t.c rfl b5.y
  · refine call_read R (r := -1000001) (hC' := hC) (hM' := hM) ?_ FrT.rf FrT.rf.c ?_ FrY.rf
    · unfold f_X4_why
      rw [e1, bd_s, if_neg p, if_neg (by omega)]
    · unfold f_X5_why
      rw [e2, bd_s]
      by_cases c1 : 0 ≤ u ∧ u < s 15
      · rw [if_pos c1, if_neg (by omega), e3, bd_s, if_neg (fun q => p ⟨c1, q⟩), if_neg (by omega)]
      · rw [if_neg c1, if_pos rfl]
end Calls7

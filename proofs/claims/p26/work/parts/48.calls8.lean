/-! the pure part: ifTold, ifWeeks, as calls -/
section Calls8
theorem FrO.t {h h' : Hp} (f : FrO 10 h h') : FrT h h' := fun a ha => f a (by omega)
theorem FrT.tr {h h1 h2 : Hp} (a : FrT h h1) (b : FrT h1 h2) : FrT h h2 := fun x hx => (b x hx).trans (a x hx)
theorem FrY.tr {h h1 h2 : Hp} (a : FrY h h1) (b : FrY h1 h2) : FrY h h2 := by
  obtain ⟨a1, a3, a77, a78, a0⟩ := a
  obtain ⟨b1, b3, b77, b78, b0⟩ := b
  exact ⟨b1.trans a1, b3.trans a3, fun k hk => (b77 k hk).trans (a77 k hk), b78.trans a78, fun x hx => (b0 x hx).trans (a0 x hx)⟩
theorem FrY.mst {h : Hp} {s : Rw} : FrY h (mst (Int.toNat 950) h s) :=
  ⟨by rw [mst_row (by omega)], by rw [mst_row (by omega)], fun k hk => mst_lo hk, mst_row (by omega), fun a ha => mst_row (by omega)⟩
theorem hi_tlS {h : Hp} {b : Nat} {s : Rw} {i j v : Int} (q : hiR h b s) (hV : Vn s) (k : okT s i j v) : hiR h b (tlS s i.toNat j.toNat v) := by
  have v2 := hV.2.1
  have k1 := k.1
  have k2 := k.2.1
  unfold tlS
  exact hi_gup (hi_gup q (by omega)) (by omega)
theorem tl_0 {N : Int} {s : Rw} {i j v : Int} (hD : Vd N s) (hN : N ≤ 1000000) (k : okT s i j v) : 0 ≤ tlD s i.toNat j.toNat v := by
  have k1 := k.1
  have b := (hD.2.1 i.toNat (by omega)).2
  unfold tlD
  split
  · exact b.1
  · rw [wr_id (by omega) (by omega)]
    omega
theorem k_ifTold {N i j v : Int} {hC hM : Hp} (hN : N < 1000000) (R : Rel N hC hM) : Call N N hC hM (f_X4_ifTold i j v hC) (f_X5_ifTold i j v hM) := by
  obtain ⟨sr0, vg0⟩ := rel_0 R
  have sr : SR hC 1 (tr0 hM) := sr0.ag vg0.1 (ag_cut hM 950 _)
  obtain ⟨vg, vd, v0⟩ : Vg N (tr0 hM) := vg0.ag (ag_cut hM 950 _)
  have hi : hiR hM (Int.toNat 950) (tr0 hM) := hi_cut hM 950 _
  obtain ⟨h1, a1, a2, a3⟩ := c_become (d := 10) sr vg (by omega)
  unfold f_X4_ifTold f_X5_ifTold
  rw [a1, bd_s, m_tried, bd_s]
  by_cases p : okT (tr0 hM) i j v
  · obtain ⟨h2, b1, b2, b3⟩ := c_tell a2 vg p
    have v2 := vg.2.1
    have p1 := p.1
    have t := tl_0 vd (by omega) p
    have vg' : Vn (tlS (tr0 hM) i.toNat j.toNat v) := by
      have p2 := p.2.1
      unfold tlS
      exact gup_V (gup_V vg (by omega)) (by omega)
    have vd' := Vd_tlS vg vd (by omega) p
    have b := (vd.2.1 i.toNat (by omega)).2
    obtain ⟨h3, d1, d2, d3, d4⟩ := c_matchAll (o := 10) (by omega) vg' vd' (by omega) b2
    have eM := p_tells (e := 950) (h := hM) (by omega) hi vg (by omega) p
    obtain ⟨h4, g1, g2⟩ := m_matchOf (b := 950) (c := i) (h := mst (Int.toNat 950) hM (tlS (tr0 hM) i.toNat j.toNat v)) (by omega) vg' vd' (by omega) (mst_sl (hi_tlS hi vg p)) (by omega)
    rw [b1, bd_s, if_pos t, d1, bd_s, p_umM (by omega), bd_s, (d2.1 i.toNat (by omega)).2, eM, bd_s, if_pos (show ¬ tlD (tr0 hM) i.toNat j.toNat v = -1000001 by omega), g1, bd_s]
    unfold f_X4_orNotFound
    have fT : FrT hC h3 := (a3.t.tr b3.t).tr d4.t
    by_cases k : (mtA (tlS (tr0 hM) i.toNat j.toNat v)).2.1 i.toNat = -1
    · rw [if_neg (by omega), bd_s, if_pos k]
      exact call_read R rfl fT fT.c rfl (FrY.mst.tr g2.y)
    · rw [if_pos k, bd_s, if_neg k]
      exact call_read R rfl fT fT.c rfl (FrY.mst.tr g2.y)
  · rw [c_tell_bad a2 p, bd_s, if_neg (by omega), p_tells_bad (e := 950) (by omega) hi vg p, bd_s, if_neg (by omega)]
    exact call_read R rfl a3.t a3.t.c rfl FrY.mst
theorem k_ifWeeks {N x w : Int} {hC hM : Hp} (hN : N ≤ 1000000) (R : Rel N hC hM) : Call N N hC hM (f_X4_ifWeeks x w hC) (f_X5_ifWeeks x w hM) := by
  obtain ⟨sr0, vg0⟩ := rel_0 R
  have sr : SR hC 1 (tr0 hM) := sr0.ag vg0.1 (ag_cut hM 950 _)
  obtain ⟨vg, vd, v0⟩ : Vg N (tr0 hM) := vg0.ag (ag_cut hM 950 _)
  have hi : hiR hM (Int.toNat 950) (tr0 hM) := hi_cut hM 950 _
  by_cases p : 1 ≤ x ∧ x ≤ 20
  · by_cases q : 0 ≤ w ∧ w ≤ 2
    · obtain ⟨h1, a1, a2, a3⟩ := c_become (d := 10) sr vg (by omega)
      obtain ⟨h2, b1, b2, b3⟩ := c_weeks (m := 1019) a2 vg p (by rw [wr_id (by omega) (by omega)]; omega)
      have sr2 : SR h2 1 (tr0 hM) := (sr.fr a3 (by omega)).fr b3 (by omega)
      have sl : gsl (mst (Int.toNat 950) hM (tr0 hM) 77) (Int.toNat 950) = tr0 hM := mst_sl hi
      have eM := p_goBy (b := 950) (w := x) (h := mst (Int.toNat 950) hM (tr0 hM)) (by omega) (by omega) (by rw [sl]; exact vg)
      rw [sl, mst_mst] at eM
      obtain ⟨y1, y2, y3⟩ := Vd_wks x.toNat (tr0 hM) vg vd v0.1 (by omega)
      have hi2 := (wks_keep x.toNat (tr0 hM) vg hi).2
      have fT : FrT hC h2 := a3.t.tr b3.t
      unfold f_X4_ifWeeks f_X5_ifWeeks
      rw [p_isW, bd_s, if_pos p, if_neg (show ¬ (1 : Int) = 0 by omega), if_neg (show ¬ w < 0 by omega), if_pos (show w ≤ 2 by omega), a1, bd_s, b1, bd_s, p_in, bd_s, if_pos p, if_neg (show ¬ (1 : Int) = 0 by omega), p_in, bd_s, if_pos q, if_pos (show ¬ (1 : Int) = 0 by omega), m_tried, bd_s, eM, bd_s]
      by_cases w0 : w = 0
      · rw [if_neg (show ¬ ¬ w = 0 by omega), if_neg (show ¬ ¬ w = 0 by omega), p_sum (by omega) (by omega), bd_s, p_sum (by omega) (by omega), bd_s, show h2 (10 + 8) (Int.toNat 8) = wks x.toNat (tr0 hM) 11 from b2.2.2.2.2.2 3 (by omega), show h2 (1 + 8) (Int.toNat 8) = tr0 hM 11 from sr2.2.2.2.2.2 3 (by omega)]
        exact call_read R rfl fT fT.c rfl FrY.mst
      rw [if_pos w0, if_pos w0]
      by_cases w1 : w = 1
      · have m1 : mst (Int.toNat 950) hM (wks x.toNat (tr0 hM)) 77 (wr (950 + 12)).toNat = wks x.toNat (tr0 hM) 12 := by
          rw [wr_id (z := 950 + 12) (by omega) (by omega)]
          exact rd_mst (b := 950) (c := 12) (by omega) (by omega) hi2
        have m2 : mst (Int.toNat 950) hM (wks x.toNat (tr0 hM)) 77 (Int.toNat 12) = tr0 hM 12 := (mst_lo (b := 950) (k := 12) (by omega)).trans (by
          have := ag_cut hM 950 (gsl (hM 77) 0) 12 (by omega)
          exact (this.trans (show gsl (hM 77) 0 12 = hM 77 12 from rfl)).symm)
        rw [if_neg (show ¬ ¬ w = 1 by omega), if_neg (show ¬ ¬ w = 1 by omega), p_sum (by omega) (by omega), bd_s, p_sum (by omega) (by omega), bd_s, show h2 (10 + 8) (Int.toNat 9) = wks x.toNat (tr0 hM) 12 from b2.2.2.2.2.2 4 (by omega), show h2 (1 + 8) (Int.toNat 9) = tr0 hM 12 from sr2.2.2.2.2.2 4 (by omega), if_pos (show inb (wr (950 + 12)) 1330 by rw [wr_id (by omega) (by omega)]; unfold inb; omega), if_pos (show inb 12 1330 by unfold inb; omega), m1, m2]
        exact call_read R rfl fT fT.c rfl FrY.mst
      rw [if_pos w1, if_pos w1]
      obtain ⟨h3, d1, d2, d3, d4⟩ := c_matchAll (o := 10) (by omega) y1 y2 hN b2
      obtain ⟨h4, g1, g2, g3, g4, g5⟩ := m_matches (b := 950) (h := mst (Int.toNat 950) hM (wks x.toNat (tr0 hM))) (by omega) y1 y2 hN (mst_sl hi2)
      rw [d1, bd_s, g1, bd_s, d2.2]
      exact call_read R rfl (fT.tr d4.t) (fT.tr d4.t).c rfl (FrY.mst.tr g5.y)
    · refine call_read R (r := -1000001) (hC' := hC) (hM' := hM) ?_ FrT.rf FrT.rf.c ?_ FrY.rf
      · unfold f_X4_ifWeeks
        rw [p_isW, bd_s, if_pos p, if_neg (show ¬ (1 : Int) = 0 by omega)]
        by_cases c : w < 0
        · rw [if_pos c]
        · rw [if_neg c, if_neg (show ¬ w ≤ 2 by omega)]
      · unfold f_X5_ifWeeks
        rw [p_in, bd_s, if_pos p, if_neg (show ¬ (1 : Int) = 0 by omega), p_in, bd_s, if_neg q, if_neg (show ¬ ¬ (0 : Int) = 0 by omega)]
  · refine call_read R (r := -1000001) (hC' := hC) (hM' := hM) ?_ FrT.rf FrT.rf.c ?_ FrY.rf
    · unfold f_X4_ifWeeks
      rw [p_isW, bd_s, if_neg p, if_pos rfl]
    · unfold f_X5_ifWeeks
      rw [p_in, bd_s, if_neg p, if_pos rfl]
end Calls8

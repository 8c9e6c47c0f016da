/-! the pure part: find, claim, tell, weeks in the model -/
section Mod1
theorem hup_m2 {b c x : Int} {h : Hp} {s : Rw} (hb : 0 ≤ b) (hc : 0 ≤ c) (hc2 : c < 190) (q : hiR h b.toNat s) : hup (mst b.toNat h s) 77 (b + c).toNat x = mst b.toNat h (gup s c.toNat x) := by
  rw [hup_mst hb hc hc2, mst_sl q, mst_mst]
def lay5 (s : Rw) (c : Nat) (x y z w : Int) : Rw := gup (gup (gup (gup (gup s c x) (c + 1) y) (c + 2) z) (c + 3) w) (c + 4) 0
theorem hi_lay5 {h : Hp} {b c : Nat} {s : Rw} {x y z w : Int} (q : hiR h b s) (hc : c < 186) : hiR h b (lay5 s c x y z w) :=
  hi_gup (hi_gup (hi_gup (hi_gup (hi_gup q (by omega)) (by omega)) (by omega)) (by omega)) (by omega)
theorem p_lays {b c x y z w : Int} {h : Hp} {s : Rw} (hb : 0 ≤ b ∧ b ≤ 1140) (hc : 0 ≤ c ∧ c ≤ 185) (q : hiR h b.toNat s) : f_X5_lays (b + c) x y z w (mst b.toNat h s) = some (0, mst b.toNat h (lay5 s c.toNat x y z w)) := by
  unfold f_X5_lays
  rw [wr_id (by omega) (by omega), wr_id (by omega) (by omega), wr_id (by omega) (by omega), wr_id (by omega) (by omega)]
  rw [show b + c + 1 = b + (c + 1) by omega, show b + c + 2 = b + (c + 2) by omega, show b + c + 3 = b + (c + 3) by omega, show b + c + 4 = b + (c + 4) by omega]
  have q1 := hi_gup (x := x) q (show c.toNat < 190 by omega)
  have q2 := hi_gup (x := y) q1 (show (c + 1).toNat < 190 by omega)
  have q3 := hi_gup (x := z) q2 (show (c + 2).toNat < 190 by omega)
  have q4 := hi_gup (x := w) q3 (show (c + 3).toNat < 190 by omega)
  unfold lt inb
  dsimp only
  rw [if_pos (by omega), if_pos (by omega), if_pos (by omega), if_pos (by omega), if_pos (by omega)]
  rw [hup_m2 hb.1 (by omega) (by omega) q, hup_m2 hb.1 (by omega) (by omega) q1, hup_m2 hb.1 (by omega) (by omega) q2, hup_m2 hb.1 (by omega) (by omega) q3, hup_m2 hb.1 (by omega) (by omega) q4]
  unfold lay5
  rw [show (c + 1).toNat = c.toNat + 1 by omega, show (c + 2).toNat = c.toNat + 2 by omega, show (c + 3).toNat = c.toNat + 3 by omega, show (c + 4).toNat = c.toNat + 4 by omega]
theorem p_finds {e a b c d : Int} {h : Hp} {s : Rw} (he : 0 ≤ e ∧ e ≤ 1140) (q : hiR h e.toNat s) (hV : Vn s) : f_X5_finds e a b c d (mst e.toNat h s) = if ok4 0 a b c d then (if s 15 = 12 then some (-1000003, mst e.toNat h s) else some (s 15, mst e.toNat h (sapU (gup s 8 (wr (s 8 + 1))) a b c d))) else some (-1000001, mst e.toNat h s) := by
  obtain ⟨v1, v2, v3⟩ := hV
  unfold f_X5_finds
  rw [p_are, bd_s]
  by_cases c1 : ok4 0 a b c d
  · rw [if_pos c1, if_pos c1, if_pos (by decide), wr_id (z := e + 15) (by omega) (by omega), wr_id (z := e + 8) (by omega) (by omega)]
    have e15 : mst e.toNat h s 77 (e + 15).toNat = s 15 := rd_mst he.1 (by omega) q
    have b15 : inb (e + 15) 1330 := by unfold inb; omega
    have b8 : inb (e + 8) 1330 := by unfold inb; omega
    rw [e15, if_pos b15]
    by_cases c2 : s 15 = 12
    · rw [if_neg (by omega), if_pos c2]
    · rw [if_pos c2, if_neg c2, if_pos b15, p_uAt he.1 he.2 (by omega) (by omega), bd_s]
      rw [show e + 18 + 5 * s 15 = e + (18 + 5 * s 15) by omega, p_lays he (by omega) q, bd_s, if_pos b8, if_pos b8]
      have q5 : hiR h e.toNat (lay5 s (18 + 5 * s 15).toNat a b c d) := hi_lay5 q (by omega)
      unfold lt
      dsimp only
      rw [rd_mst he.1 (by omega) q5, hup_m2 he.1 (by omega) (by omega) q5, if_pos b15, if_pos b15]
      have q6 := hi_gup (x := wr (lay5 s (18 + 5 * s 15).toNat a b c d (Int.toNat 8) + 1)) q5 (show Int.toNat 8 < 190 by decide)
      rw [rd_mst he.1 (by omega) q6, hup_m2 he.1 (by omega) (by omega) q6, if_pos b15]
      have q7 := hi_gup (x := wr (gup (lay5 s (18 + 5 * s 15).toNat a b c d) (Int.toNat 8) (wr (lay5 s (18 + 5 * s 15).toNat a b c d (Int.toNat 8) + 1)) (Int.toNat 15) + 1)) q6 (show Int.toNat 15 < 190 by decide)
      rw [rd_mst he.1 (by omega) q7]
      have l8 : lay5 s (18 + 5 * s 15).toNat a b c d (Int.toNat 8) = s 8 := by
        unfold lay5
        rw [gup_far (by omega), gup_far (by omega), gup_far (by omega), gup_far (by omega), gup_far (by omega)]
        rfl
      have l15 : lay5 s (18 + 5 * s 15).toNat a b c d (Int.toNat 15) = s 15 := by
        unfold lay5
        rw [gup_far (by omega), gup_far (by omega), gup_far (by omega), gup_far (by omega), gup_far (by omega)]
        rfl
      rw [l8, gup_far (g := lay5 s (18 + 5 * s 15).toNat a b c d) (by decide), l15, gup_eq rfl, wr_id (z := s 15 + 1) (by omega) (by omega), wr_id (by omega) (by omega)]
      rw [show s 15 + 1 - 1 = s 15 by omega]
      congr 3
      funext k
      unfold sapU lay5 gup
      rw [show (18 + 5 * s 15).toNat = 18 + 5 * (s 15).toNat by omega]
      simp only [Int.reduceToNat, Nat.reduceEqDiff, if_false]
      by_cases k1 : k = 15
      · simp only [k1, if_true]
      by_cases k2 : k = 8
      · subst k2
        simp (disch := omega) only [if_pos, if_neg]
      · simp only [k1, k2, if_false]
        by_cases k3 : k = 18 + 5 * (s 15).toNat
        · simp (disch := omega) only [if_pos, if_neg]
        by_cases k4 : k = 18 + 5 * (s 15).toNat + 1
        · simp (disch := omega) only [if_pos, if_neg]
        by_cases k5 : k = 18 + 5 * (s 15).toNat + 2
        · simp (disch := omega) only [if_pos, if_neg]
        by_cases k6 : k = 18 + 5 * (s 15).toNat + 3
        · simp (disch := omega) only [if_pos, if_neg]
        by_cases k7 : k = 18 + 5 * (s 15).toNat + 4
        · simp (disch := omega) only [if_pos, if_neg]
        · simp (disch := omega) only [if_pos, if_neg]
  · rw [if_neg c1, if_neg c1, if_neg (by decide)]
theorem sum4 {a b c d : Int} (q : ok4 (-1) a b c d) : (wr (wr (wr (a + b) + c) + d) = -4) ↔ (a = -1 ∧ b = -1 ∧ c = -1 ∧ d = -1) := by
  obtain ⟨q1, q2, q3, q4⟩ := q
  unfold okv at *
  rw [wr_id (z := a + b) (by omega) (by omega), wr_id (z := a + b + c) (by omega) (by omega), wr_id (by omega) (by omega)]
  omega
theorem p_claims {e a b c d : Int} {h : Hp} {s : Rw} (he : 0 ≤ e ∧ e ≤ 1140) (q : hiR h e.toNat s) (hV : Vn s) : f_X5_claims e a b c d (mst e.toNat h s) = if ok4 (-1) a b c d then (if a = -1 ∧ b = -1 ∧ c = -1 ∧ d = -1 then some (-1000002, mst e.toNat h s) else if s 16 = 12 then some (-1000003, mst e.toNat h s) else some (s 16, mst e.toNat h (sapC (gup s 9 (wr (s 9 + 1))) a b c d))) else some (-1000001, mst e.toNat h s) := by
  obtain ⟨v1, v2, v3⟩ := hV
  unfold f_X5_claims
  rw [p_are, bd_s]
  by_cases c1 : ok4 (-1) a b c d
  · rw [if_pos c1, if_pos c1, if_pos (by decide), wr_id (z := e + 16) (by omega) (by omega), wr_id (z := e + 9) (by omega) (by omega)]
    by_cases c0 : a = -1 ∧ b = -1 ∧ c = -1 ∧ d = -1
    · rw [if_neg (fun x => x ((sum4 c1).2 c0)), if_pos c0]
    rw [if_pos (fun x => c0 ((sum4 c1).1 x)), if_neg c0]
    have e16 : mst e.toNat h s 77 (e + 16).toNat = s 16 := rd_mst he.1 (by omega) q
    have b16 : inb (e + 16) 1330 := by unfold inb; omega
    have b9 : inb (e + 9) 1330 := by unfold inb; omega
    rw [e16, if_pos b16]
    by_cases c2 : s 16 = 12
    · rw [if_neg (by omega), if_pos c2]
    · rw [if_pos c2, if_neg c2, if_pos b16, p_cAt he.1 he.2 (by omega) (by omega), bd_s]
      rw [show e + 78 + 6 * s 16 = e + (78 + 6 * s 16) by omega, p_lays he (by omega) q, bd_s, if_pos b16]
      have q5 : hiR h e.toNat (lay5 s (78 + 6 * s 16).toNat a b c d) := hi_lay5 q (by omega)
      have l16 : lay5 s (78 + 6 * s 16).toNat a b c d (Int.toNat 16) = s 16 := by
        unfold lay5
        rw [gup_far (by omega), gup_far (by omega), gup_far (by omega), gup_far (by omega), gup_far (by omega)]
        rfl
      have l9 : lay5 s (78 + 6 * s 16).toNat a b c d (Int.toNat 9) = s 9 := by
        unfold lay5
        rw [gup_far (by omega), gup_far (by omega), gup_far (by omega), gup_far (by omega), gup_far (by omega)]
        rfl
      rw [rd_mst he.1 (by omega) q5, l16, p_cAt he.1 he.2 (by omega) (by omega), bd_s]
      rw [wr_id (z := e + 78 + 6 * s 16 + 5) (by omega) (by omega), if_pos (by unfold inb; omega)]
      unfold lt
      dsimp only
      rw [show e + 78 + 6 * s 16 + 5 = e + (78 + 6 * s 16 + 5) by omega, hup_m2 he.1 (by omega) (by omega) q5]
      have q6 := hi_gup (x := 0) q5 (show (78 + 6 * s 16 + 5).toNat < 190 by omega)
      rw [rd_mst he.1 (by omega) q6, gup_far (g := lay5 s (78 + 6 * s 16).toNat a b c d) (by omega), l9, hup_m2 he.1 (by omega) (by omega) q6, if_pos b9, if_pos b9, if_pos b16, if_pos b16, if_pos b16]
      have q7 := hi_gup (x := wr (s 9 + 1)) q6 (show Int.toNat 9 < 190 by decide)
      rw [rd_mst he.1 (by omega) q7, gup_far (by decide), gup_far (g := lay5 s (78 + 6 * s 16).toNat a b c d) (by omega), l16, hup_m2 he.1 (by omega) (by omega) q7]
      have q8 := hi_gup (x := wr (s 16 + 1)) q7 (show Int.toNat 16 < 190 by decide)
      rw [rd_mst he.1 (by omega) q8]
      rw [gup_eq rfl, wr_id (z := s 16 + 1) (by omega) (by omega), wr_id (by omega) (by omega)]
      rw [show s 16 + 1 - 1 = s 16 by omega]
      congr 3
      funext k
      unfold sapC lay5 gup
      rw [show (78 + 6 * s 16 + 5).toNat = 78 + 6 * (s 16).toNat + 5 by omega, show (78 + 6 * s 16).toNat = 78 + 6 * (s 16).toNat by omega]
      simp only [Int.reduceToNat, Nat.reduceEqDiff, if_false]
      by_cases k1 : k = 16
      · simp only [k1, if_true]
      by_cases k2 : k = 9
      · subst k2
        simp (disch := omega) only [if_pos, if_neg]
      · simp only [k1, k2, if_false]
        by_cases k3 : k = 78 + 6 * (s 16).toNat
        · simp (disch := omega) only [if_pos, if_neg]
        by_cases k4 : k = 78 + 6 * (s 16).toNat + 1
        · simp (disch := omega) only [if_pos, if_neg]
        by_cases k5 : k = 78 + 6 * (s 16).toNat + 2
        · simp (disch := omega) only [if_pos, if_neg]
        by_cases k6 : k = 78 + 6 * (s 16).toNat + 3
        · simp (disch := omega) only [if_pos, if_neg]
        by_cases k7 : k = 78 + 6 * (s 16).toNat + 4
        · simp (disch := omega) only [if_pos, if_neg]
        by_cases k8 : k = 78 + 6 * (s 16).toNat + 5
        · simp (disch := omega) only [if_pos, if_neg]
        · simp (disch := omega) only [if_pos, if_neg]
  · rw [if_neg c1, if_neg c1, if_neg (by decide)]
theorem p_isC {e i : Int} {h : Hp} {s : Rw} (he : 0 ≤ e ∧ e ≤ 1140) (q : hiR h e.toNat s) (hV : Vn s) : f_X5_isClaim e i (mst e.toNat h s) = some (if 0 ≤ i ∧ i < s 16 then 1 else 0, mst e.toNat h s) := by
  obtain ⟨v1, v2, v3⟩ := hV
  unfold f_X5_isClaim
  rw [wr_id (z := e + 16) (by omega) (by omega), if_pos (by unfold inb; omega), p_in, bd_s, rd_mst he.1 (by omega) q]
  rw [show s (Int.toNat 16) = s 16 from rfl, wr_id (by omega) (by omega)]
  by_cases c : 0 ≤ i ∧ i < s 16
  · rw [if_pos c, if_pos (show 0 ≤ i ∧ i ≤ s 16 - 1 by omega), if_pos (show isB 1 by unfold isB; decide)]
  · rw [if_neg c, if_neg (show ¬ (0 ≤ i ∧ i ≤ s 16 - 1) by omega), if_pos (show isB 0 by unfold isB; decide)]
theorem p_isDt {j v : Int} {h : Hp} : f_X5_isDetail j v h = some (if (0 ≤ j ∧ j ≤ 3) ∧ okv 0 v then 1 else 0, h) := by
  unfold f_X5_isDetail
  rw [p_in, bd_s]
  by_cases c1 : 0 ≤ j ∧ j ≤ 3
  · rw [if_pos c1, if_neg (by decide), p_in, bd_s]
    by_cases c2 : okv 0 v
    · rw [if_pos c2, if_neg (by decide), if_pos ⟨c1, c2⟩]
    · rw [if_neg c2, if_pos rfl, if_neg (fun x => c2 x.2)]
  · rw [if_neg c1, if_pos rfl, if_neg (fun x => c1 x.1)]
theorem p_tells_bad {e i j v : Int} {h : Hp} {s : Rw} (he : 0 ≤ e ∧ e ≤ 1140) (q : hiR h e.toNat s) (hV : Vn s) (c : ¬ okT s i j v) : f_X5_tells e i j v (mst e.toNat h s) = some (-1000001, mst e.toNat h s) := by
  unfold f_X5_tells
  rw [p_isC he q hV, bd_s]
  by_cases c1 : 0 ≤ i ∧ i < s 16
  · rw [if_pos c1, if_neg (by decide), p_isDt, bd_s, if_neg (fun x => c ⟨c1, x⟩), if_neg (by decide)]
  · rw [if_neg c1, if_pos rfl]
theorem p_tells {e i j v : Int} {h : Hp} {s : Rw} (he : 0 ≤ e ∧ e ≤ 1140) (q : hiR h e.toNat s) (hV : Vn s) (hI : -2147483648 ≤ s (78 + 6 * i.toNat + 5) ∧ s (78 + 6 * i.toNat + 5) ≤ 2147483647) (c : okT s i j v) : f_X5_tells e i j v (mst e.toNat h s) = some (tlD s i.toNat j.toNat v, mst e.toNat h (tlS s i.toNat j.toNat v)) := by
  obtain ⟨c1, c2, c3⟩ := c
  have hv := hV.2.1
  have key : ∀ y, f_X5_tells_J41 j v (e + 78 + 6 * i) (e + (78 + 6 * i + 5)) (s (78 + 6 * i.toNat + 5)) y (mst e.toNat h s) = some (wr (s (78 + 6 * i.toNat + 5) + y), mst e.toNat h (gup (gup s (78 + 6 * i.toNat + j.toNat) v) (78 + 6 * i.toNat + 5) (wr (s (78 + 6 * i.toNat + 5) + y)))) := by
    intro y
    unfold f_X5_tells_J41
    rw [wr_id (z := e + 78 + 6 * i + j) (by omega) (by omega), wr_id (z := e + 78 + 6 * i + 5) (by omega) (by omega), if_pos (by unfold inb; omega)]
    unfold lt
    dsimp only
    rw [if_pos (by unfold inb; omega), if_pos (by unfold inb; omega)]
    have q6 := hi_gup (x := wr (s (78 + 6 * i.toNat + 5) + y)) q (show (78 + 6 * i + 5).toNat < 190 by omega)
    have q7 := hi_gup (x := v) q6 (show (78 + 6 * i + j).toNat < 190 by omega)
    rw [show e + 78 + 6 * i + j = e + (78 + 6 * i + j) by omega, show e + 78 + 6 * i + 5 = e + (78 + 6 * i + 5) by omega, hup_m2 he.1 (by omega) (by omega) q, hup_m2 he.1 (by omega) (by omega) q6, rd_mst he.1 (by omega) q7]
    rw [gup_far (by omega), gup_eq rfl]
    congr 3
    funext k
    unfold gup
    rw [show (78 + 6 * i + 5).toNat = 78 + 6 * i.toNat + 5 by omega, show (78 + 6 * i + j).toNat = 78 + 6 * i.toNat + j.toNat by omega]
    by_cases k1 : k = 78 + 6 * i.toNat + j.toNat
    · rw [if_pos k1, if_neg (by omega), if_pos k1]
    · rw [if_neg k1, if_neg k1]
  unfold f_X5_tells
  rw [p_isC he q hV, bd_s, if_pos c1, if_neg (by decide), p_isDt, bd_s, if_pos (show (0 ≤ j ∧ j ≤ 3) ∧ okv 0 v from ⟨c2, c3⟩), if_pos (by decide), p_cAt he.1 he.2 (by omega) (by omega), bd_s]
  rw [wr_id (z := e + 78 + 6 * i + j) (by omega) (by omega), wr_id (z := e + 78 + 6 * i + 5) (by omega) (by omega), if_pos (by unfold inb; omega), if_pos (by unfold inb; omega)]
  rw [show e + 78 + 6 * i + j = e + (78 + 6 * i + j) by omega, show e + 78 + 6 * i + 5 = e + (78 + 6 * i + 5) by omega, rd_mst he.1 (by omega) q, rd_mst he.1 (by omega) q]
  rw [show (78 + 6 * i + 5).toNat = 78 + 6 * i.toNat + 5 by omega, show (78 + 6 * i + j).toNat = 78 + 6 * i.toNat + j.toNat by omega]
  unfold f_X5_tells_J40
  rw [key, key]
  have r5 := hI
  rw [wr_id (z := s (78 + 6 * i.toNat + 5) + 0) (by omega) (by omega), Int.add_zero]
  unfold tlS tlD
  by_cases d1 : s (78 + 6 * i.toNat + j.toNat) = -1
  · rw [if_pos d1, if_pos (Or.inl d1)]
  · rw [if_neg d1, if_pos (by unfold inb; omega)]
    by_cases d2 : s (78 + 6 * i.toNat + j.toNat) = v
    · rw [if_pos d2, if_pos (Or.inr d2)]
    · rw [if_neg d2, if_neg (by omega)]
theorem p_weeksIn {e x : Int} {h : Hp} {s : Rw} (he : 0 ≤ e ∧ e ≤ 1140) (q : hiR h e.toNat s) (hV : Vn s) : f_X5_weeksIn e x (mst e.toNat h s) = if 1 ≤ x ∧ x ≤ 20 then (if wr (s 0 + x) ≤ 999 then some (wr (wks x.toNat s 11 - s 11), mst e.toNat h (wks x.toNat s)) else some (-1000003, mst e.toNat h s)) else some (-1000001, mst e.toNat h s) := by
  unfold f_X5_weeksIn
  rw [p_in, bd_s]
  by_cases c : 1 ≤ x ∧ x ≤ 20
  · rw [if_pos c, if_pos (by decide), if_pos c, wr_id (z := e + 0) (by omega) (by omega), if_pos (by unfold inb; omega), rd_mst he.1 (by omega) q, p_goBy he (by omega) (by rw [mst_sl q]; exact hV), bd_s, mst_sl q, mst_mst]
    rfl
  · rw [if_neg c, if_neg (by decide), if_neg c]
end Mod1

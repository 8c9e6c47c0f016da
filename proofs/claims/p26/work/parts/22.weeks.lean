/-! the pure part: the model's weeks -/
section Weeks1
theorem rd_mst {b c : Int} {h : Hp} {s : Rw} (hb : 0 ≤ b) (hc : 0 ≤ c) (q : hiR h b.toNat s) : mst b.toNat h s 77 (b + c).toNat = s c.toNat := by
  rw [rd_sl (h := mst b.toNat h s) hb hc, mst_sl q]
theorem p_wri_L {b kind age coins : Int} {c31 : Hp → Option (Int × Hp)} (hb : 0 ≤ b ∧ b ≤ 1140) : ∀ (m n : Nat) (h0 h : Hp) (p : Int), m < n → b + 150 ≤ p → p + m = b + 186 → h = hrow h0 77 (gsh (h0 77) (b + 150).toNat p.toNat 4) →
    f_X5_writes_L12 b kind age coins c31 n p h = c31 (hrow h0 77 (gsh (h0 77) (b + 150).toNat (b + 186).toNat 4)) := by
  intro m
  induction m with
  | zero =>
    intro n h0 h p hn hp0 hp hh
    obtain ⟨n, rfl⟩ : ∃ n', n = n' + 1 := ⟨n - 1, by omega⟩
    rw [f_X5_writes_L12_s]
    simp (disch := omega) only [if_pos, wr_id]
    rw [hh, show p = b + 186 by omega]
  | succ m ih =>
    intro n h0 h p hn hp0 hp hh
    obtain ⟨n, rfl⟩ : ∃ n', n = n' + 1 := ⟨n - 1, by omega⟩
    rw [f_X5_writes_L12_s]
    simp (disch := omega) only [lt, inb, if_pos, if_neg, wr_id, hup_row]
    refine ih n h0 _ (p + 1) (by omega) (by omega) (by omega) ?_
    rw [hh, hrow_hrow, hrow_get]
    congr 1
    funext k
    unfold gup gsh
    try dsimp only
    repeat' split
    all_goals first | rfl | omega | (congr 1; omega)
theorem hi_wr1 {h : Hp} {b : Nat} {s : Rw} {x y z : Int} (q : hiR h b s) (hn : s 17 ≤ 9) : hiR h b (wr1 s x y z) := by
  intro k hk
  unfold wr1
  simp (disch := omega) only [if_neg]
  exact q k hk
theorem hi_wsh {h : Hp} {b : Nat} {s : Rw} (q : hiR h b s) : hiR h b (wsh s) := by
  intro k hk
  unfold wsh
  simp (disch := omega) only [if_neg]
  exact q k hk
theorem wsh_17 (s : Rw) : wsh s 17 = s 17 - 1 := by simp [wsh]
theorem hi_wri {h : Hp} {b : Nat} {s : Rw} {x y z : Int} (q : hiR h b s) (hn : s 17 ≤ 10) : hiR h b (wri s x y z) := by
  unfold wri
  by_cases c : s 17 = 10
  · rw [if_pos c]
    exact hi_wr1 (hi_wsh q) (by rw [wsh_17]; omega)
  · rw [if_neg c]
    exact hi_wr1 q (by omega)
theorem p_wri {b kind age coins : Int} {h : Hp} (hb : 0 ≤ b ∧ b ≤ 1140) (h0 : 0 ≤ gsl (h 77) b.toNat 17) (h1 : gsl (h 77) b.toNat 17 ≤ 10) : f_X5_writes b kind age coins h = some (0, mst b.toNat h (wri (gsl (h 77) b.toNat) kind age coins)) := by
  have e : h 77 (b + 17).toNat = gsl (h 77) b.toNat 17 := rd_sl (c := 17) hb.1 (by omega)
  unfold f_X5_writes
  by_cases c : gsl (h 77) b.toNat 17 = 10
  · simp (disch := omega) only [inb, if_pos, if_neg, wr_id, lv]
    rw [p_wri_L hb 36 fu h h (b + 150) (by have := fu_gt; omega) (by omega) (by omega) ?_]
    · have e5 : hrow h 77 (gsh (h 77) (b + 150).toNat (b + 186).toNat 4) 77 (b + 17).toNat = 10 := by
        rw [hrow_get]
        unfold gsh
        rw [if_neg (by omega), e, c]
      simp (disch := omega) only [if_pos, lt, e5, wr_id]
      have e6 : hup (hrow h 77 (gsh (h 77) (b + 150).toNat (b + 186).toNat 4)) 77 (b + 17).toNat (10 - 1) = mst b.toNat h (wsh (gsl (h 77) b.toNat)) := by
        rw [hup_row, hrow_hrow, hrow_get]
        unfold mst
        congr 1
        funext k
        have e17 : b.toNat + 17 = (b + 17).toNat := by omega
        unfold gup gsh gat wsh
        unfold gsl at c ⊢
        try dsimp only
        rw [c]
        repeat' split
        all_goals first | rfl | omega | (congr 1; omega)
      rw [e6]
      have e7 : mst b.toNat h (wsh (gsl (h 77) b.toNat)) 77 (b + 17).toNat = 9 := by
        rw [rd_mst hb.1 (by omega) (hi_wsh (hi_sl _ _))]
        show wsh _ 17 = 9
        rw [wsh_17, c]
        rfl
      rw [p_wr1 hb (by rw [e7]; omega) (by rw [e7]; omega), mst_sl (hi_wsh (hi_sl _ _)), mst_mst]
      unfold wri
      rw [if_pos c]
    · rw [show gsh (h 77) (b + 150).toNat (b + 150).toNat 4 = h 77 from ?_, hrow_self]
      funext k
      unfold gsh
      rw [if_neg (by omega)]
  · simp (disch := omega) only [inb, if_pos, if_neg, wr_id]
    rw [p_wr1 hb (by omega) (by omega)]
    unfold wri
    rw [if_neg c]
theorem wri_n (s : Rw) (x y z : Int) (h0 : 0 ≤ s 17) (h1 : s 17 ≤ 10) : 0 ≤ wri s x y z 17 ∧ wri s x y z 17 ≤ 10 := by
  unfold wri
  by_cases c : s 17 = 10
  · rw [if_pos c]
    unfold wr1
    rw [if_neg (by omega), if_pos rfl, wsh_17]
    omega
  · rw [if_neg c]
    unfold wr1
    rw [if_neg (by omega), if_pos rfl]
    omega
theorem wri_lo {s : Rw} {x y z : Int} {k : Nat} (h0 : 0 ≤ s 17) (hk : k < 150) (k1 : k ≠ 13) (k2 : k ≠ 17) : wri s x y z k = s k := by
  unfold wri
  by_cases c : s 17 = 10
  · rw [if_pos c]
    unfold wr1
    simp (disch := omega) only [if_neg]
    unfold wsh
    simp (disch := omega) only [if_neg]
  · rw [if_neg c]
    unfold wr1
    simp (disch := omega) only [if_neg]
/-- the umbrellas that are too old are sold, from one on; so many are looked at -/
noncomputable def sel : Nat → Nat → Rw → Rw
  | 0, _, s => s
  | n + 1, u, s => if s (18 + 5 * u + 4) < s 6 then sel n (u + 1) s else sel n u (ugo (gup (wri s 1 (s (18 + 5 * u + 4)) (s 7)) 11 (wr (s 11 + 1))) u)
theorem sel_step (n u : Nat) (s : Rw) : sel (n + 1) u s = if s (18 + 5 * u + 4) < s 6 then sel n (u + 1) s else sel n u (ugo (gup (wri s 1 (s (18 + 5 * u + 4)) (s 7)) 11 (wr (s 11 + 1))) u) := rfl
theorem p_sells_L {b : Int} (hb : 0 ≤ b ∧ b ≤ 1140) : ∀ (m n : Nat) (h : Hp) (u : Int), m < n → 0 ≤ u → gsl (h 77) b.toNat 15 ≤ 12 → u + m = gsl (h 77) b.toNat 15 → 0 ≤ gsl (h 77) b.toNat 17 → gsl (h 77) b.toNat 17 ≤ 10 →
    f_X5_sells_L2 b n u h = some (0, mst b.toNat h (sel m u.toNat (gsl (h 77) b.toNat))) := by
  intro m
  induction m with
  | zero =>
    intro n h u hn hu hN hum h0 h1
    obtain ⟨n, rfl⟩ : ∃ n', n = n' + 1 := ⟨n - 1, by omega⟩
    have e : h 77 (b + 15).toNat = gsl (h 77) b.toNat 15 := rd_sl (c := 15) hb.1 (by omega)
    rw [f_X5_sells_L2_s]
    simp (disch := omega) only [inb, if_pos, wr_id]
    show _ = some (0, mst b.toNat h (gsl (h 77) b.toNat))
    rw [mst_self]
  | succ m ih =>
    intro n h u hn hu hN hum h0 h1
    obtain ⟨n, rfl⟩ : ∃ n', n = n' + 1 := ⟨n - 1, by omega⟩
    have e15 : h 77 (b + 15).toNat = gsl (h 77) b.toNat 15 := rd_sl (c := 15) hb.1 (by omega)
    have e6 : h 77 (b + 6).toNat = gsl (h 77) b.toNat 6 := rd_sl (c := 6) hb.1 (by omega)
    have e7 : h 77 (b + 7).toNat = gsl (h 77) b.toNat 7 := rd_sl (c := 7) hb.1 (by omega)
    have ea : h 77 (b + 18 + 5 * u + 4).toNat = gsl (h 77) b.toNat (18 + 5 * u.toNat + 4) := by
      unfold gsl
      congr 1
      omega
    rw [f_X5_sells_L2_s, sel_step]
    simp (disch := omega) only [inb, if_pos, if_neg, wr_id, p_uAt, bd_s, lv, e15, e6, e7, ea]
    by_cases c : gsl (h 77) b.toNat (18 + 5 * u.toNat + 4) < gsl (h 77) b.toNat 6
    · rw [if_pos c, if_pos c, show u.toNat + 1 = (u + 1).toNat by omega]
      exact ih n h (u + 1) (by omega) (by omega) hN (by omega) h0 h1
    · rw [if_neg c, if_neg c, p_wri hb h0 h1, bd_s]
      have hw := hi_wri (x := 1) (y := gsl (h 77) b.toNat (18 + 5 * u.toNat + 4)) (z := gsl (h 77) b.toNat 7) (hi_sl h b.toNat) h1
      have e11 : mst b.toNat h (wri (gsl (h 77) b.toNat) 1 (gsl (h 77) b.toNat (18 + 5 * u.toNat + 4)) (gsl (h 77) b.toNat 7)) 77 (b + 11).toNat = gsl (h 77) b.toNat 11 := by
        rw [rd_mst hb.1 (by omega) hw]
        exact wri_lo h0 (by decide) (by decide) (by decide)
      simp (disch := omega) only [lt, e11, hup_mst, Int.reduceToNat]
      rw [mst_sl hw, mst_mst]
      have hg := hi_gup (i := 11) (x := wr (gsl (h 77) b.toNat 11 + 1)) hw (by omega)
      have n15 : gsl (mst b.toNat h (gup (wri (gsl (h 77) b.toNat) 1 (gsl (h 77) b.toNat (18 + 5 * u.toNat + 4)) (gsl (h 77) b.toNat 7)) 11 (wr (gsl (h 77) b.toNat 11 + 1))) 77) b.toNat 15 = gsl (h 77) b.toNat 15 := by
        rw [mst_sl hg, gup_far (by decide)]
        exact wri_lo h0 (by decide) (by decide) (by decide)
      rw [p_ugo2 hb hu (by rw [n15]; omega) (by rw [n15]; omega), bd_s, mst_sl hg, mst_mst]
      have hu2 := hi_ugo (u := u.toNat) hg (by rw [gup_far (by decide), wri_lo h0 (by decide) (by decide) (by decide)]; exact hN)
      have key := ih n (mst b.toNat h (ugo (gup (wri (gsl (h 77) b.toNat) 1 (gsl (h 77) b.toNat (18 + 5 * u.toNat + 4)) (gsl (h 77) b.toNat 7)) 11 (wr (gsl (h 77) b.toNat 11 + 1))) u.toNat)) u (by omega) hu
      rw [mst_sl hu2, mst_mst] at key
      have q15 : ugo (gup (wri (gsl (h 77) b.toNat) 1 (gsl (h 77) b.toNat (18 + 5 * u.toNat + 4)) (gsl (h 77) b.toNat 7)) 11 (wr (gsl (h 77) b.toNat 11 + 1))) u.toNat 15 = gsl (h 77) b.toNat 15 - 1 := by
        unfold ugo
        rw [if_pos rfl, gup_far (by decide), wri_lo h0 (by decide) (by decide) (by decide)]
      have q17 : ugo (gup (wri (gsl (h 77) b.toNat) 1 (gsl (h 77) b.toNat (18 + 5 * u.toNat + 4)) (gsl (h 77) b.toNat 7)) 11 (wr (gsl (h 77) b.toNat 11 + 1))) u.toNat 17 = wri (gsl (h 77) b.toNat) 1 (gsl (h 77) b.toNat (18 + 5 * u.toNat + 4)) (gsl (h 77) b.toNat 7) 17 := by
        unfold ugo
        rw [if_neg (by decide), if_neg (by omega), gup_far (by decide)]
      have w17 := wri_n (gsl (h 77) b.toNat) 1 (gsl (h 77) b.toNat (18 + 5 * u.toNat + 4)) (gsl (h 77) b.toNat 7) h0 h1
      exact key (by rw [q15]; omega) (by rw [q15]; omega) (by rw [q17]; exact w17.1) (by rw [q17]; exact w17.2)
end Weeks1

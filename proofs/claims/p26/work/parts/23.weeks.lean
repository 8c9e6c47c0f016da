/-! the pure part: the model's claims that lapse, and its weeks -/
section Weeks2
/-- the claims that are too old lapse, from one on; so many are looked at -/
noncomputable def lap : Nat → Nat → Rw → Rw
  | 0, _, s => s
  | n + 1, u, s => if s (78 + 6 * u + 4) < s 6 then lap n (u + 1) s else lap n u (cgo (gup (wri s 2 (s (78 + 6 * u + 4)) 0) 12 (wr (s 12 + 1))) u)
theorem lap_step (n u : Nat) (s : Rw) : lap (n + 1) u s = if s (78 + 6 * u + 4) < s 6 then lap n (u + 1) s else lap n u (cgo (gup (wri s 2 (s (78 + 6 * u + 4)) 0) 12 (wr (s 12 + 1))) u) := rfl
theorem p_lapses_L {b : Int} (hb : 0 ≤ b ∧ b ≤ 1140) : ∀ (m n : Nat) (h : Hp) (u : Int), m < n → 0 ≤ u → gsl (h 77) b.toNat 16 ≤ 12 → u + m = gsl (h 77) b.toNat 16 → 0 ≤ gsl (h 77) b.toNat 17 → gsl (h 77) b.toNat 17 ≤ 10 →
    f_X5_lapses_L2 b n u h = some (0, mst b.toNat h (lap m u.toNat (gsl (h 77) b.toNat))) := by
  intro m
  induction m with
  | zero =>
    intro n h u hn hu hN hum h0 h1
    obtain ⟨n, rfl⟩ : ∃ n', n = n' + 1 := ⟨n - 1, by omega⟩
    have e : h 77 (b + 16).toNat = gsl (h 77) b.toNat 16 := rd_sl (c := 16) hb.1 (by omega)
    rw [f_X5_lapses_L2_s]
    simp (disch := omega) only [inb, if_pos, wr_id]
    show _ = some (0, mst b.toNat h (gsl (h 77) b.toNat))
    rw [mst_self]
  | succ m ih =>
    intro n h u hn hu hN hum h0 h1
    obtain ⟨n, rfl⟩ : ∃ n', n = n' + 1 := ⟨n - 1, by omega⟩
    have e16 : h 77 (b + 16).toNat = gsl (h 77) b.toNat 16 := rd_sl (c := 16) hb.1 (by omega)
    have e6 : h 77 (b + 6).toNat = gsl (h 77) b.toNat 6 := rd_sl (c := 6) hb.1 (by omega)
    have ea : h 77 (b + 78 + 6 * u + 4).toNat = gsl (h 77) b.toNat (78 + 6 * u.toNat + 4) := by
      unfold gsl
      congr 1
      omega
    rw [f_X5_lapses_L2_s, lap_step]
    simp (disch := omega) only [inb, if_pos, if_neg, wr_id, p_cAt, bd_s, lv, e16, e6, ea]
    by_cases c : gsl (h 77) b.toNat (78 + 6 * u.toNat + 4) < gsl (h 77) b.toNat 6
    · rw [if_pos c, if_pos c, show u.toNat + 1 = (u + 1).toNat by omega]
      exact ih n h (u + 1) (by omega) (by omega) hN (by omega) h0 h1
    · rw [if_neg c, if_neg c, p_wri hb h0 h1, bd_s]
      have hw := hi_wri (x := 2) (y := gsl (h 77) b.toNat (78 + 6 * u.toNat + 4)) (z := 0) (hi_sl h b.toNat) h1
      have e12 : mst b.toNat h (wri (gsl (h 77) b.toNat) 2 (gsl (h 77) b.toNat (78 + 6 * u.toNat + 4)) 0) 77 (b + 12).toNat = gsl (h 77) b.toNat 12 := by
        rw [rd_mst hb.1 (by omega) hw]
        exact wri_lo h0 (by decide) (by decide) (by decide)
      simp (disch := omega) only [lt, e12, hup_mst, Int.reduceToNat]
      rw [mst_sl hw, mst_mst]
      have hg := hi_gup (i := 12) (x := wr (gsl (h 77) b.toNat 12 + 1)) hw (by omega)
      have n16 : gsl (mst b.toNat h (gup (wri (gsl (h 77) b.toNat) 2 (gsl (h 77) b.toNat (78 + 6 * u.toNat + 4)) 0) 12 (wr (gsl (h 77) b.toNat 12 + 1))) 77) b.toNat 16 = gsl (h 77) b.toNat 16 := by
        rw [mst_sl hg, gup_far (by decide)]
        exact wri_lo h0 (by decide) (by decide) (by decide)
      rw [p_cgo2 hb hu (by rw [n16]; omega) (by rw [n16]; omega), bd_s, mst_sl hg, mst_mst]
      have hu2 := hi_cgo (u := u.toNat) hg (by rw [gup_far (by decide), wri_lo h0 (by decide) (by decide) (by decide)]; exact hN)
      have key := ih n (mst b.toNat h (cgo (gup (wri (gsl (h 77) b.toNat) 2 (gsl (h 77) b.toNat (78 + 6 * u.toNat + 4)) 0) 12 (wr (gsl (h 77) b.toNat 12 + 1))) u.toNat)) u (by omega) hu
      rw [mst_sl hu2, mst_mst] at key
      have q16 : cgo (gup (wri (gsl (h 77) b.toNat) 2 (gsl (h 77) b.toNat (78 + 6 * u.toNat + 4)) 0) 12 (wr (gsl (h 77) b.toNat 12 + 1))) u.toNat 16 = gsl (h 77) b.toNat 16 - 1 := by
        unfold cgo
        rw [if_pos rfl, gup_far (by decide), wri_lo h0 (by decide) (by decide) (by decide)]
      have q17 : cgo (gup (wri (gsl (h 77) b.toNat) 2 (gsl (h 77) b.toNat (78 + 6 * u.toNat + 4)) 0) 12 (wr (gsl (h 77) b.toNat 12 + 1))) u.toNat 17 = wri (gsl (h 77) b.toNat) 2 (gsl (h 77) b.toNat (78 + 6 * u.toNat + 4)) 0 17 := by
        unfold cgo
        rw [if_neg (by decide), if_neg (by omega), gup_far (by decide)]
      have w17 := wri_n (gsl (h 77) b.toNat) 2 (gsl (h 77) b.toNat (78 + 6 * u.toNat + 4)) 0 h0 h1
      exact key (by rw [q16]; omega) (by rw [q16]; omega) (by rw [q17]; exact w17.1) (by rw [q17]; exact w17.2)
/-- the numbers of umbrellas, claims, entries -/
def Vn (s : Rw) : Prop := (0 ≤ s 15 ∧ s 15 ≤ 12) ∧ (0 ≤ s 16 ∧ s 16 ≤ 12) ∧ 0 ≤ s 17 ∧ s 17 ≤ 10
theorem sel_keep {h : Hp} {b : Nat} : ∀ (n u : Nat) (s : Rw), Vn s → (u : Int) + n = s 15 → hiR h b s → Vn (sel n u s) ∧ hiR h b (sel n u s) := by
  intro n
  induction n with
  | zero => intro u s hV hn hh; exact ⟨hV, hh⟩
  | succ n ih =>
    intro u s hV hn hh
    rw [sel_step]
    obtain ⟨v1, v2, v3⟩ := hV
    by_cases c : s (18 + 5 * u + 4) < s 6
    · rw [if_pos c]
      exact ih (u + 1) s ⟨v1, v2, v3⟩ (by omega) hh
    · rw [if_neg c]
      have w := wri_n s 1 (s (18 + 5 * u + 4)) (s 7) v3.1 v3.2
      have e15 : ugo (gup (wri s 1 (s (18 + 5 * u + 4)) (s 7)) 11 (wr (s 11 + 1))) u 15 = s 15 - 1 := by
        unfold ugo
        rw [if_pos rfl, gup_far (by decide), wri_lo v3.1 (by decide) (by decide) (by decide)]
      have f15 : gup (wri s 1 (s (18 + 5 * u + 4)) (s 7)) 11 (wr (s 11 + 1)) 15 = s 15 := by rw [gup_far (by decide), wri_lo v3.1 (by decide) (by decide) (by decide)]
      have e16 : ugo (gup (wri s 1 (s (18 + 5 * u + 4)) (s 7)) 11 (wr (s 11 + 1))) u 16 = s 16 := by
        unfold ugo
        rw [if_neg (by decide), if_neg (by omega), gup_far (by decide), wri_lo v3.1 (by decide) (by decide) (by decide)]
      have e17 : ugo (gup (wri s 1 (s (18 + 5 * u + 4)) (s 7)) 11 (wr (s 11 + 1))) u 17 = wri s 1 (s (18 + 5 * u + 4)) (s 7) 17 := by
        unfold ugo
        rw [if_neg (by decide), if_neg (by omega), gup_far (by decide)]
      refine ih u _ ⟨?_, ?_, ?_⟩ ?_ (hi_ugo (hi_gup (hi_wri hh v3.2) (by omega)) (by rw [f15]; exact v1.2))
      · rw [e15]; omega
      · rw [e16]; exact v2
      · rw [e17]; exact w
      · rw [e15]; omega
theorem lap_keep {h : Hp} {b : Nat} : ∀ (n u : Nat) (s : Rw), Vn s → (u : Int) + n = s 16 → hiR h b s → Vn (lap n u s) ∧ hiR h b (lap n u s) := by
  intro n
  induction n with
  | zero => intro u s hV hn hh; exact ⟨hV, hh⟩
  | succ n ih =>
    intro u s hV hn hh
    rw [lap_step]
    obtain ⟨v1, v2, v3⟩ := hV
    by_cases c : s (78 + 6 * u + 4) < s 6
    · rw [if_pos c]
      exact ih (u + 1) s ⟨v1, v2, v3⟩ (by omega) hh
    · rw [if_neg c]
      have w := wri_n s 2 (s (78 + 6 * u + 4)) 0 v3.1 v3.2
      have e16 : cgo (gup (wri s 2 (s (78 + 6 * u + 4)) 0) 12 (wr (s 12 + 1))) u 16 = s 16 - 1 := by
        unfold cgo
        rw [if_pos rfl, gup_far (by decide), wri_lo v3.1 (by decide) (by decide) (by decide)]
      have f16 : gup (wri s 2 (s (78 + 6 * u + 4)) 0) 12 (wr (s 12 + 1)) 16 = s 16 := by rw [gup_far (by decide), wri_lo v3.1 (by decide) (by decide) (by decide)]
      have e15 : cgo (gup (wri s 2 (s (78 + 6 * u + 4)) 0) 12 (wr (s 12 + 1))) u 15 = s 15 := by
        unfold cgo
        rw [if_neg (by decide), if_neg (by omega), gup_far (by decide), wri_lo v3.1 (by decide) (by decide) (by decide)]
      have e17 : cgo (gup (wri s 2 (s (78 + 6 * u + 4)) 0) 12 (wr (s 12 + 1))) u 17 = wri s 2 (s (78 + 6 * u + 4)) 0 17 := by
        unfold cgo
        rw [if_neg (by decide), if_neg (by omega), gup_far (by decide)]
      refine ih u _ ⟨?_, ?_, ?_⟩ ?_ (hi_cgo (hi_gup (hi_wri hh v3.2) (by omega)) (by rw [f16]; exact v2.2))
      · rw [e15]; exact v1
      · rw [e16]; omega
      · rw [e17]; exact w
      · rw [e16]; omega
/-- all are a week older, as far as a place -/
noncomputable def agp (s : Rw) (p : Nat) : Rw := fun k => if 18 ≤ k ∧ k < 18 + 5 * p ∧ (k - 18) % 5 = 4 then wr (s k + 1) else if 78 ≤ k ∧ k < 78 + 6 * p ∧ (k - 78) % 6 = 4 then wr (s k + 1) else s k
theorem hi_agp {h : Hp} {b p : Nat} {s : Rw} (q : hiR h b s) (hp : p ≤ 12) : hiR h b (agp s p) := by
  intro k hk
  unfold agp
  rw [if_neg (by omega), if_neg (by omega)]
  exact q k hk
theorem agp_step (s : Rw) (p : Nat) (hp : p < 12) : gup (gup (agp s p) (18 + 5 * p + 4) (wr (s (18 + 5 * p + 4) + 1))) (78 + 6 * p + 4) (wr (s (78 + 6 * p + 4) + 1)) = agp s (p + 1) := by
  funext k
  unfold gup agp
  by_cases c1 : k = 78 + 6 * p + 4
  · rw [if_pos c1, if_neg (by omega), if_pos (by omega), c1]
  rw [if_neg c1]
  by_cases c2 : k = 18 + 5 * p + 4
  · rw [if_pos c2, if_pos (by omega), c2]
  rw [if_neg c2]
  by_cases c3 : 18 ≤ k ∧ k < 18 + 5 * p ∧ (k - 18) % 5 = 4
  · rw [if_pos c3, if_pos (by omega)]
  rw [if_neg c3]
  by_cases c4 : 78 ≤ k ∧ k < 78 + 6 * p ∧ (k - 78) % 6 = 4
  · rw [if_pos c4, if_neg (by omega), if_pos (by omega)]
  rw [if_neg c4, if_neg (by omega), if_neg (by omega)]
theorem p_age_L {b x2 x3 x4 : Int} {c53 : Hp → Option (Int × Hp)} (hb : 0 ≤ b ∧ b ≤ 1140) : ∀ (m n : Nat) (h0 : Hp) (s : Rw) (p : Int), m < n → 0 ≤ p → p + m = 12 → hiR h0 b.toNat s →
    f_X5_goBy_L24 b x2 x3 x4 c53 n p (mst b.toNat h0 (agp s p.toNat)) = c53 (mst b.toNat h0 (agp s 12)) := by
  intro m
  induction m with
  | zero =>
    intro n h0 s p hn hp0 hp hh
    obtain ⟨n, rfl⟩ : ∃ n', n = n' + 1 := ⟨n - 1, by omega⟩
    rw [f_X5_goBy_L24_s]
    simp (disch := omega) only [if_pos]
    rw [show p.toNat = 12 by omega]
  | succ m ih =>
    intro n h0 s p hn hp0 hp hh
    obtain ⟨n, rfl⟩ : ∃ n', n = n' + 1 := ⟨n - 1, by omega⟩
    rw [f_X5_goBy_L24_s]
    have h1 := hi_agp (p := p.toNat) hh (by omega)
    have a1 : b + 18 + 5 * p + 4 = b + (18 + 5 * p + 4) := by omega
    have a2 : b + 78 + 6 * p + 4 = b + (78 + 6 * p + 4) := by omega
    have r1 : mst b.toNat h0 (agp s p.toNat) 77 (b + (18 + 5 * p + 4)).toNat = s (18 + 5 * p.toNat + 4) := by
      rw [rd_mst hb.1 (by omega) h1, show (18 + 5 * p + 4).toNat = 18 + 5 * p.toNat + 4 by omega]
      unfold agp
      rw [if_neg (by omega), if_neg (by omega)]
    simp (disch := omega) only [lt, inb, if_pos, if_neg, wr_id, p_uAt, p_cAt, bd_s, a1, a2, r1, hup_mst]
    rw [mst_sl h1, mst_mst, show (18 + 5 * p + 4).toNat = 18 + 5 * p.toNat + 4 by omega, show (78 + 6 * p + 4).toNat = 78 + 6 * p.toNat + 4 by omega]
    have h2 := hi_gup (i := 18 + 5 * p.toNat + 4) (x := wr (s (18 + 5 * p.toNat + 4) + 1)) h1 (by omega)
    have r2 : mst b.toNat h0 (gup (agp s p.toNat) (18 + 5 * p.toNat + 4) (wr (s (18 + 5 * p.toNat + 4) + 1))) 77 (b + (78 + 6 * p + 4)).toNat = s (78 + 6 * p.toNat + 4) := by
      rw [rd_mst hb.1 (by omega) h2, show (78 + 6 * p + 4).toNat = 78 + 6 * p.toNat + 4 by omega, gup_far (by omega)]
      unfold agp
      rw [if_neg (by omega), if_neg (by omega)]
    simp only [mst_mst]
    rw [r2, mst_sl h2, agp_step s p.toNat (by omega), show p.toNat + 1 = (p + 1).toNat by omega]
    exact ih n h0 s (p + 1) (by omega) (by omega) (by omega) hh
/-- a week -/
noncomputable def wk1 (s : Rw) : Rw := lap ((sel (s 15).toNat 0 (agp (gup s 0 (wr (s 0 + 1))) 12)) 16).toNat 0 (sel (s 15).toNat 0 (agp (gup s 0 (wr (s 0 + 1))) 12))
noncomputable def wks : Nat → Rw → Rw
  | 0, s => s
  | n + 1, s => wks n (wk1 s)
theorem wks_step (n : Nat) (s : Rw) : wks (n + 1) s = wks n (wk1 s) := rfl
theorem agp_c (s : Rw) (p k : Nat) (hk : k < 18) : agp s p k = s k := by
  unfold agp
  rw [if_neg (by omega), if_neg (by omega)]
theorem wk1_keep {h : Hp} {b : Nat} {s : Rw} (hV : Vn s) (hh : hiR h b s) : Vn (agp (gup s 0 (wr (s 0 + 1))) 12) ∧ hiR h b (agp (gup s 0 (wr (s 0 + 1))) 12) ∧ Vn (sel (s 15).toNat 0 (agp (gup s 0 (wr (s 0 + 1))) 12)) ∧ hiR h b (sel (s 15).toNat 0 (agp (gup s 0 (wr (s 0 + 1))) 12)) ∧ Vn (wk1 s) ∧ hiR h b (wk1 s) := by
  have c : ∀ k, k = 15 ∨ k = 16 ∨ k = 17 → agp (gup s 0 (wr (s 0 + 1))) 12 k = s k := fun k hk => by
    rw [agp_c _ _ _ (by omega), gup_far (by omega)]
  have v1 : Vn (agp (gup s 0 (wr (s 0 + 1))) 12) := by
    unfold Vn at hV ⊢
    rw [c 15 (by omega), c 16 (by omega), c 17 (by omega)]
    exact hV
  have h1 := hi_agp (p := 12) (hi_gup (i := 0) (x := wr (s 0 + 1)) hh (by omega)) (by omega)
  obtain ⟨v2, h2⟩ := sel_keep (s 15).toNat 0 _ v1 (by rw [c 15 (by omega)]; have := hV.1; omega) h1
  obtain ⟨v3, h3⟩ := lap_keep ((sel (s 15).toNat 0 (agp (gup s 0 (wr (s 0 + 1))) 12)) 16).toNat 0 _ v2 (by have := v2.2.1; omega) h2
  exact ⟨v1, h1, v2, h2, v3, h3⟩
theorem p_goBy_L {b x2 x3 : Int} {c61 : Hp → Option (Int × Hp)} (hb : 0 ≤ b ∧ b ≤ 1140) (h20 : x2 ≤ 20) : ∀ (m n : Nat) (h0 : Hp) (s : Rw) (p : Int), m < n → 0 ≤ p → p + m = x2 → hiR h0 b.toNat s → Vn s →
    f_X5_goBy_L9 b x2 x3 c61 n p (mst b.toNat h0 s) = c61 (mst b.toNat h0 (wks m s)) := by
  intro m
  induction m with
  | zero =>
    intro n h0 s p hn hp0 hp hh hV
    obtain ⟨n, rfl⟩ : ∃ n', n = n' + 1 := ⟨n - 1, by omega⟩
    rw [f_X5_goBy_L9_s]
    simp (disch := omega) only [if_pos]
    rfl
  | succ m ih =>
    intro n h0 s p hn hp0 hp hh hV
    obtain ⟨n, rfl⟩ : ∃ n', n = n' + 1 := ⟨n - 1, by omega⟩
    obtain ⟨v1, h1, v2, h2, v3, h3⟩ := wk1_keep hV hh
    rw [f_X5_goBy_L9_s, wks_step]
    simp (disch := omega) only [lt, inb, if_pos, if_neg, wr_id, hup_mst]
    rw [rd_mst hb.1 (by omega) hh, mst_sl hh, mst_mst]
    simp only [Int.reduceToNat]
    have hg := hi_gup (i := 0) (x := wr (s 0 + 1)) hh (by omega)
    have e0 : gup s 0 (wr (s 0 + 1)) = agp (gup s 0 (wr (s 0 + 1))) (Int.toNat 0) := by
      funext k
      unfold agp
      rw [if_neg (by simp only [Int.reduceToNat]; omega), if_neg (by simp only [Int.reduceToNat]; omega)]
    rw [e0, p_age_L hb 12 fu h0 _ 0 (by have := fu_gt; omega) (by omega) (by omega) hg]
    have k1 : gsl (mst b.toNat h0 (agp (gup s 0 (wr (s 0 + 1))) 12) 77) b.toNat 15 = s 15 := by
      rw [mst_sl h1, agp_c _ _ _ (by omega), gup_far (by omega)]
    obtain ⟨u1, u2, u3⟩ := hV
    obtain ⟨w1, w2, w3⟩ := v1
    unfold f_X5_sells
    rw [p_sells_L hb (s 15).toNat fu _ 0 (by have := fu_gt; omega) (by omega) (by rw [k1]; exact u1.2) (by rw [k1]; omega) (by rw [mst_sl h1]; exact w3.1) (by rw [mst_sl h1]; exact w3.2), bd_s, mst_sl h1, mst_mst]
    unfold f_X5_lapses
    have k2 : Int.toNat 0 = 0 := rfl
    rw [k2]
    rw [p_lapses_L hb ((sel (s 15).toNat 0 (agp (gup s 0 (wr (s 0 + 1))) 12)) 16).toNat fu _ 0 (by have := fu_gt; have := v2.2.1; omega) (by omega) (by rw [mst_sl h2]; exact v2.2.1.2) (by rw [mst_sl h2]; have := v2.2.1; omega) (by rw [mst_sl h2]; exact v2.2.2.1) (by rw [mst_sl h2]; exact v2.2.2.2), bd_s, mst_sl h2, mst_mst, k2]
    exact ih n h0 (wk1 s) (p + 1) (by omega) (by omega) (by omega) h3 v3
theorem wks_keep {h : Hp} {b : Nat} : ∀ (n : Nat) (s : Rw), Vn s → hiR h b s → Vn (wks n s) ∧ hiR h b (wks n s) := by
  intro n
  induction n with
  | zero => intro s hV hh; exact ⟨hV, hh⟩
  | succ n ih =>
    intro s hV hh
    obtain ⟨-, -, -, -, v3, h3⟩ := wk1_keep hV hh
    exact ih _ v3 h3
theorem p_goBy {b w : Int} {h : Hp} (hb : 0 ≤ b ∧ b ≤ 1140) (hw : 0 ≤ w ∧ w ≤ 20) (hV : Vn (gsl (h 77) b.toNat)) : f_X5_goBy b w h = some (wr (wks w.toNat (gsl (h 77) b.toNat) 11 - gsl (h 77) b.toNat 11), mst b.toNat h (wks w.toNat (gsl (h 77) b.toNat))) := by
  unfold f_X5_goBy
  have hh := hi_sl h b.toNat
  have e11 : h 77 (b + 11).toNat = gsl (h 77) b.toNat 11 := rd_sl (c := 11) hb.1 (by omega)
  simp (disch := omega) only [inb, if_pos, wr_id, lv, e11]
  have key := p_goBy_L (b := b) (x2 := w) (x3 := gsl (h 77) b.toNat 11) (c61 := fun h10 => some (wr (h10 77 (b + 11).toNat - gsl (h 77) b.toNat 11), h10)) hb hw.2 w.toNat fu h (gsl (h 77) b.toNat) 0 (by have := fu_gt; omega) (by omega) (by omega) hh hV
  rw [mst_self] at key
  rw [key, rd_mst hb.1 (by omega) (wks_keep w.toNat _ hV hh).2]
  rfl
end Weeks2

/-! the pure part: an order read is done -/
section Do1
theorem sel_10 : ∀ (n u : Nat) (s : Rw), Vn s → (u : Int) + n = s 15 → sel n u s 10 = s 10 := by
  intro n
  induction n with
  | zero => intro u s _ _; rfl
  | succ n ih =>
    intro u s hV hn
    rw [sel_step]
    by_cases c : s (18 + 5 * u + 4) < s 6
    · rw [if_pos c]
      exact ih (u + 1) s hV (by omega)
    · rw [if_neg c]
      have v3 := hV.2.2
      have w2 := gup_V (i := 11) (x := wr (s 11 + 1)) (wri_V (x := 1) (y := s (18 + 5 * u + 4)) (z := s 7) hV) (by omega)
      have f15 : gup (wri s 1 (s (18 + 5 * u + 4)) (s 7)) 11 (wr (s 11 + 1)) 15 = s 15 := by
        rw [gup_far (by omega), wri_lo v3.1 (by omega) (by omega) (by omega)]
      rw [ih u _ (ugo_V w2 (by rw [f15]; omega)) (by rw [u15, f15]; omega), ugo_far w2.1.2 (by omega) (by omega), gup_far (by omega), wri_lo v3.1 (by omega) (by omega) (by omega)]
theorem lap_10 : ∀ (n u : Nat) (s : Rw), Vn s → (u : Int) + n = s 16 → lap n u s 10 = s 10 := by
  intro n
  induction n with
  | zero => intro u s _ _; rfl
  | succ n ih =>
    intro u s hV hn
    rw [lap_step]
    by_cases c : s (78 + 6 * u + 4) < s 6
    · rw [if_pos c]
      exact ih (u + 1) s hV (by omega)
    · rw [if_neg c]
      have v3 := hV.2.2
      have w2 := gup_V (i := 12) (x := wr (s 12 + 1)) (wri_V (x := 2) (y := s (78 + 6 * u + 4)) (z := 0) hV) (by omega)
      have f16 : gup (wri s 2 (s (78 + 6 * u + 4)) 0) 12 (wr (s 12 + 1)) 16 = s 16 := by
        rw [gup_far (by omega), wri_lo v3.1 (by omega) (by omega) (by omega)]
      rw [ih u _ (cgo_V w2 (by rw [f16]; omega)) (by rw [c16, f16]; omega), cgo_far w2.2.1.2 (by omega) (by omega), gup_far (by omega), wri_lo v3.1 (by omega) (by omega) (by omega)]
theorem wk1_10 {N : Int} {s : Rw} (hV : Vn s) (q : Vd N s) : wk1 s 10 = s 10 := by
  have c : ∀ k, 1 ≤ k → k < 18 → agp (gup s 0 (wr (s 0 + 1))) 12 k = s k := fun k k1 k2 => by
    rw [agp_c _ _ _ k2, gup_far (by omega)]
  have v0 := gup_V (i := 0) (x := wr (s 0 + 1)) hV (by omega)
  have d0 := Vd_gup (i := 0) (x := wr (s 0 + 1)) q hV (by omega)
  have v1 : Vn (agp (gup s 0 (wr (s 0 + 1))) 12) := by
    unfold Vn at hV ⊢
    rw [c 15 (by omega) (by omega), c 16 (by omega) (by omega), c 17 (by omega) (by omega)]
    exact hV
  have d1 := Vd_agp (p := 12) d0 v0 (by omega)
  have h15 : ((0 : Nat) : Int) + ((s 15).toNat : Nat) = agp (gup s 0 (wr (s 0 + 1))) 12 15 := by
    rw [c 15 (by omega) (by omega)]
    have := hV.1
    omega
  obtain ⟨v2, d2, e2⟩ := Vd_sel (s 15).toNat 0 _ v1 h15 d1
  unfold wk1
  rw [lap_10 _ _ _ v2 (by have := v2.2.1; omega), sel_10 _ _ _ v1 h15, c 10 (by omega) (by omega)]
theorem wks_10 {N : Int} : ∀ (n : Nat) (s : Rw), Vn s → Vd N s → wks n s 10 = s 10 := by
  intro n
  induction n with
  | zero => intro s _ _; rfl
  | succ n ih =>
    intro s hV q
    obtain ⟨a, b, c⟩ := Vd_wk1 hV q
    rw [wks_step, ih _ a b, wk1_10 hV q]
theorem p_nb {i : Int} {h : Hp} (h0 : 0 ≤ i) (h1 : i < 4) : f_X3_number i h = some (h 30 i.toNat, h) := by
  unfold f_X3_number
  rw [p_num h0 (by omega), bd_s]
def FrZ (h h' : Hp) : Prop := (∀ a, a ≠ 77 → a ≠ 79 → a ≠ 80 → a ≠ 81 → a ≠ 82 → h' a = h a) ∧ ∀ k, k < 1140 → h' 77 k = h 77 k
theorem FrZ.rf {h : Hp} : FrZ h h := ⟨fun _ _ _ _ _ _ => rfl, fun _ _ => rfl⟩
theorem FrZ.mst {h h1 : Hp} {s : Rw} (f : FrX h h1) : FrZ h (mst (Int.toNat 1140) h1 s) := by
  refine ⟨fun a q1 q2 q3 q4 q5 => ?_, fun k hk => ?_⟩
  · rw [mst_row q1]
    exact f a q2 q3 q4 q5
  · rw [mst_lo (show k < Int.toNat 1140 from hk), f 77 (by omega) (by omega) (by omega) (by omega)]
abbrev Tg (g : Hp) : Rw := gsl (g 77) (Int.toNat 1140)
def Ok1 (N : Int) (h g : Hp) : Prop := SR h 10 (Tg g) ∧ Vg N (Tg g) ∧ iR (Tg g 10)
theorem Ok1.mk {N : Int} {h g1 : Hp} {s : Rw} (R : SR h 10 s) (v : Vg N s) (i : iR (s 10)) : Ok1 N h (mst (Int.toNat 1140) g1 s) := by
  have a : ag s (Tg (mst (Int.toNat 1140) g1 s)) := fun k hk => mst_in hk
  exact ⟨R.ag v.1 a, v.ag a, by rw [a 10 (by omega)]; exact i⟩
def Don (N : Int) (h g : Hp) (e e' : Option (Int × Hp)) : Prop := ∃ r h' g', e = some (r, h') ∧ e' = some (r, g') ∧ FrT h h' ∧ FrZ g g' ∧ (0 ≤ r → Ok1 N h' g')
theorem l_do {N : Int} {h g : Hp} (hN : 0 ≤ N ∧ N < 1000000) (o : Ok1 N h g) (kd : Kd (h 28 3) (g 76 9) (h 30) (g 83)) : Don (N + 1) h g (f_X4_doOrder 10 h) (f_X5_does 1140 g) := by
  obtain ⟨sr, vg, i10⟩ := o
  generalize hs : Tg g = s at *
  have me : mst (Int.toNat 1140) g s = g := by rw [← hs]; exact mst_self _ g
  have hi : hiR g (Int.toNat 1140) s := by rw [← hs]; exact hi_sl g _
  obtain ⟨w1, w2, w3⟩ := vg
  have v1 := w1.1
  have v2 := w1.2.1
  have i0 : inb 0 4 := by unfold inb; omega
  have i1 : inb 1 4 := by unfold inb; omega
  have i2 : inb 2 4 := by unfold inb; omega
  have i3 : inb 3 4 := by unfold inb; omega
  have bad : ∀ (r : Int) (e e' : Option (Int × Hp)), e = some (r, h) → e' = some (r, g) → r < 0 → Don (N + 1) h g e e' := fun r e e' a b c => ⟨r, h, g, a, b, FrT.rf, FrZ.rf, fun q => by omega⟩
  have good : ∀ (r : Int) (h' : Hp) (s' : Rw) (e e' : Option (Int × Hp)), e = some (r, h') → e' = some (r, mst (Int.toNat 1140) g s') → FrO 10 h h' → SR h' 10 s' → Vg (N + 1) s' → iR (s' 10) → Don (N + 1) h g e e' := fun r h' s' e e' a b f R v i => ⟨r, h', _, a, b, f.t, FrZ.mst (h1 := g) FrX.rf, fun _ => Ok1.mk R v i⟩
  unfold f_X4_doOrder f_X5_does
  rcases kd with ⟨k1, k2, k3⟩ | ⟨k1, k2, k3⟩ | ⟨k1, k2⟩ | ⟨k1, k2, k3⟩ | ⟨k1, k2, k3⟩
  · -- a claim
    rw [k1, k2, if_neg (show ¬ (1 : Int) = 0 by omega), if_pos rfl, if_pos rfl, if_pos i0, if_pos i1, if_pos i2, if_pos i3, p_nb (by omega) (by omega), bd_s, p_nb (by omega) (by omega), bd_s, p_nb (by omega) (by omega), bd_s, p_nb (by omega) (by omega), bd_s, k3 (Int.toNat 0) (by decide), k3 (Int.toNat 1) (by decide), k3 (Int.toNat 2) (by decide), k3 (Int.toNat 3) (by decide)]
    generalize g 83 (Int.toNat 0) = a
    generalize g 83 (Int.toNat 1) = b
    generalize g 83 (Int.toNat 2) = c
    generalize g 83 (Int.toNat 3) = d
    have e3 := p_claims (e := 1140) (a := a) (b := b) (c := c) (d := d) (h := g) (s := s) (by omega) hi w1
    rw [me] at e3
    by_cases c1 : ok4 (-1) a b c d
    · rw [if_pos c1] at e3
      by_cases c0 : a = -1 ∧ b = -1 ∧ c = -1 ∧ d = -1
      · rw [if_pos c0] at e3
        exact bad (-1000002) _ _ (by rw [c_claim_ok c1, if_pos c0, bd_s]) (by rw [e3, bd_s]) (by omega)
      rw [if_neg c0] at e3
      by_cases c2 : s 16 = 12
      · rw [if_pos c2] at e3
        exact bad (-1000003) _ _ (by rw [c_claim_full sr c1 c0 c2, bd_s]) (by rw [e3, bd_s]) (by omega)
      · rw [if_neg c2] at e3
        obtain ⟨h2, z1, z2, z3⟩ := c_claim sr w1 c1 c0 (by omega)
        have g1 := gup_V (i := 9) (x := wr (s 9 + 1)) w1 (by omega)
        have g2 := Vd_gup (i := 9) (x := wr (s 9 + 1)) w2 w1 (by omega)
        have g16 : gup s 9 (wr (s 9 + 1)) 16 ≤ 11 := by
          rw [gup_far (by omega)]
          omega
        refine good _ _ _ _ _ (by rw [z1, bd_s]) (by rw [e3, bd_s]) z3 z2 ⟨Vn_sapC g1 g16, (Vd_sapC hN.1 g1 g2 g16 c1).mono (by omega), ?_⟩ ?_
        · rw [sapC_far g16 (by omega) (by omega), gup_far (by omega)]
          exact w3
        · rw [sapC_far g16 (by omega) (by omega), gup_far (by omega)]
          exact i10
    · rw [if_neg c1] at e3
      exact bad (-1000001) _ _ (by rw [c_claim_bad c1, bd_s]) (by rw [e3, bd_s]) (by omega)
  · -- an umbrella
    rw [k1, k2, if_pos rfl, if_neg (show ¬ (102 : Int) = 99 by omega), if_pos rfl, if_pos i0, if_pos i1, if_pos i2, if_pos i3, p_nb (by omega) (by omega), bd_s, p_nb (by omega) (by omega), bd_s, p_nb (by omega) (by omega), bd_s, p_nb (by omega) (by omega), bd_s, k3 (Int.toNat 0) (by decide), k3 (Int.toNat 1) (by decide), k3 (Int.toNat 2) (by decide), k3 (Int.toNat 3) (by decide)]
    generalize g 83 (Int.toNat 0) = a
    generalize g 83 (Int.toNat 1) = b
    generalize g 83 (Int.toNat 2) = c
    generalize g 83 (Int.toNat 3) = d
    have e3 := p_finds (e := 1140) (a := a) (b := b) (c := c) (d := d) (h := g) (s := s) (by omega) hi w1
    rw [me] at e3
    by_cases c1 : ok4 0 a b c d
    · rw [if_pos c1] at e3
      by_cases c2 : s 15 = 12
      · rw [if_pos c2] at e3
        exact bad (-1000003) _ _ (by rw [c_find_full sr c1 c2, bd_s]) (by rw [e3, bd_s]) (by omega)
      · rw [if_neg c2] at e3
        obtain ⟨h2, z1, z2, z3⟩ := c_find sr w1 c1 (by omega)
        have g1 := gup_V (i := 8) (x := wr (s 8 + 1)) w1 (by omega)
        have g2 := Vd_gup (i := 8) (x := wr (s 8 + 1)) w2 w1 (by omega)
        have g15 : gup s 8 (wr (s 8 + 1)) 15 ≤ 11 := by
          rw [gup_far (by omega)]
          omega
        refine good _ _ _ _ _ (by rw [z1, bd_s]) (by rw [e3, bd_s]) z3 z2 ⟨Vn_sapU g1 g15, (Vd_sapU g1 g2 g15 c1).mono (by omega), ?_⟩ ?_
        · rw [sapU_far g15 (by omega) (by omega), gup_far (by omega)]
          exact w3
        · rw [sapU_far g15 (by omega) (by omega), gup_far (by omega)]
          exact i10
    · rw [if_neg c1] at e3
      exact bad (-1000001) _ _ (by rw [c_find_bad c1, bd_s]) (by rw [e3, bd_s]) (by omega)
  · -- handing out
    rw [k1, k2, if_neg (show ¬ (4 : Int) = 0 by omega), if_neg (show ¬ (4 : Int) = 1 by omega), if_neg (show ¬ (4 : Int) = 2 by omega), if_neg (show ¬ (4 : Int) = 3 by omega), if_neg (show ¬ (104 : Int) = 99 by omega), if_neg (show ¬ (104 : Int) = 102 by omega), if_neg (show ¬ (104 : Int) = 116 by omega), if_neg (show ¬ (104 : Int) = 119 by omega)]
    obtain ⟨h2, b1, b2, b3, b4⟩ := c_matchAll (o := 10) (by omega) w1 w2 (by omega) sr
    obtain ⟨h3, d1, d2, d3⟩ := c_hand (o := 10) (by omega) w1 w2 (sr.scr b4 (by omega)) b2 i10
    obtain ⟨g2, a1, a2, a3⟩ := m_hand (b := 1140) (h := g) (by omega) w1 w2 (by omega) hs
    obtain ⟨x1, x2, x3⟩ := hdF_V w1 w2
    rw [b1, bd_s, d1, bd_s, a1, bd_s]
    refine ⟨_, h3, _, rfl, rfl, b4.t.tr d3.t, FrZ.mst a2, fun _ => Ok1.mk d2 ⟨x1, x2.mono (by omega), by rw [x3]; exact w3⟩ ?_⟩
    show iR (hdF s 10)
    unfold hdF
    rw [gup_same]
    exact wr_R _
  · -- a claim tells
    rw [k1, k2, if_neg (show ¬ (2 : Int) = 0 by omega), if_neg (show ¬ (2 : Int) = 1 by omega), if_pos rfl, if_neg (show ¬ (116 : Int) = 99 by omega), if_neg (show ¬ (116 : Int) = 102 by omega), if_pos rfl, if_pos i0, if_pos i1, if_pos i2, p_nb (by omega) (by omega), bd_s, p_nb (by omega) (by omega), bd_s, p_nb (by omega) (by omega), bd_s, k3 (Int.toNat 0) (by decide), k3 (Int.toNat 1) (by decide), k3 (Int.toNat 2) (by decide)]
    generalize g 83 (Int.toNat 0) = a
    generalize g 83 (Int.toNat 1) = b
    generalize g 83 (Int.toNat 2) = c
    by_cases c1 : okT s a b c
    · obtain ⟨h2, z1, z2, z3⟩ := c_tell sr w1 c1
      have q1 := c1.1
      have q2 := c1.2.1
      have bb := (w2.2.1 a.toNat (by omega)).2
      have e3 := p_tells (e := 1140) (h := g) (by omega) hi w1 (by omega) c1
      rw [me] at e3
      refine good _ _ _ _ _ (by rw [z1, bd_s]) (by rw [e3, bd_s]) z3 z2 ⟨?_, Vd_tlS w1 w2 (by omega) c1, ?_⟩ ?_
      · unfold tlS
        exact gup_V (gup_V w1 (by omega)) (by omega)
      · unfold tlS
        rw [gup_far (by omega), gup_far (by omega)]
        exact w3
      · unfold tlS
        rw [gup_far (by omega), gup_far (by omega)]
        exact i10
    · have e3 := p_tells_bad (e := 1140) (h := g) (by omega) hi w1 c1
      rw [me] at e3
      exact bad (-1000001) _ _ (by rw [c_tell_bad sr c1, bd_s]) (by rw [e3, bd_s]) (by omega)
  · -- weeks
    rw [k1, k2, if_neg (show ¬ (3 : Int) = 0 by omega), if_neg (show ¬ (3 : Int) = 1 by omega), if_neg (show ¬ (3 : Int) = 2 by omega), if_pos rfl, if_neg (show ¬ (119 : Int) = 99 by omega), if_neg (show ¬ (119 : Int) = 102 by omega), if_neg (show ¬ (119 : Int) = 116 by omega), if_pos rfl, if_pos i0, p_nb (by omega) (by omega), bd_s, k3 (Int.toNat 0) (by decide)]
    generalize g 83 (Int.toNat 0) = x
    have e3 := p_weeksIn (e := 1140) (x := x) (h := g) (s := s) (by omega) hi w1
    rw [me] at e3
    by_cases c1 : 1 ≤ x ∧ x ≤ 20
    · rw [if_pos c1] at e3
      by_cases c2 : wr (s 0 + x) ≤ 999
      · rw [if_pos c2] at e3
        obtain ⟨h2, z1, z2, z3⟩ := c_weeks sr w1 c1 c2
        rw [wr_id (by omega) (by omega)] at c2
        obtain ⟨y1, y2, y3⟩ := Vd_wks x.toNat s w1 w2 w3.1 (by omega)
        refine good _ _ _ _ _ (by rw [z1, bd_s]) (by rw [e3, bd_s]) z3 z2 ⟨y1, y2.mono (by omega), ?_⟩ ?_
        · rw [y3]
          omega
        · rw [wks_10 _ _ w1 w2]
          exact i10
      · rw [if_neg c2] at e3
        exact bad (-1000003) _ _ (by rw [c_weeks_full sr c1 (by omega), bd_s]) (by rw [e3, bd_s]) (by omega)
    · rw [if_neg c1] at e3
      exact bad (-1000001) _ _ (by rw [c_weeks_bad c1, bd_s]) (by rw [e3, bd_s]) (by omega)
end Do1

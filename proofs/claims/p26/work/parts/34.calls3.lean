/-! the pure part: find, claim, tell, weeks, as calls -/
section Calls3
theorem k_find {N a b c d : Int} {hC hM : Hp} (R : Rel N hC hM) : Call N N hC hM (f_X4_find a b c d hC) (f_X5_find a b c d hM) := by
  obtain ⟨n, n1, n2, ⟨h1, k1, k2, k3, k4, k5⟩, v1, v2⟩ := rel_v R
  obtain ⟨w1, w2, w3⟩ := v1
  have e3 := p_finds (e := 950) (a := a) (b := b) (c := c) (d := d) (h := hM) (s := tr0 hM) (by omega) v2 w1
  have go : ∀ r h2 s, f_X1_takeUmbrella 1 a b c d h1 = some (r, h2) → ((r < 0 ∧ h2 = h1 ∧ s = tr0 hM) ∨ (0 ≤ r ∧ SR h2 1 s ∧ FrO 1 h1 h2 ∧ Vg N s)) → f_X5_finds 950 a b c d (mst (Int.toNat 950) hM (tr0 hM)) = some (r, mst (Int.toNat 950) hM s) → Call N N hC hM (f_X4_find a b c d hC) (f_X5_find a b c d hM) := by
    intro r h2 s q1 q2 q3
    unfold f_X4_find f_X5_find
    rw [k1, bd_s, q1, bd_s]
    exact call_way (op := fun r h => f_X5_finds r a b c d h) R (by omega) n2 n1 k1 k2 k4 q2 q3
  by_cases c1 : ok4 0 a b c d
  · rw [if_pos c1] at e3
    by_cases c2 : tr0 hM 15 = 12
    · rw [if_pos c2] at e3
      exact go _ _ _ (c_find_full k3 c1 c2) (Or.inl ⟨by omega, rfl, rfl⟩) e3
    · rw [if_neg c2] at e3
      have v := w1.1
      obtain ⟨h2, z1, z2, z3⟩ := c_find k3 w1 c1 (by omega)
      have g1 := gup_V (i := 8) (x := wr (tr0 hM 8 + 1)) w1 (by omega)
      have g2 := Vd_gup (i := 8) (x := wr (tr0 hM 8 + 1)) w2 w1 (by omega)
      have g15 : gup (tr0 hM) 8 (wr (tr0 hM 8 + 1)) 15 ≤ 11 := by
        rw [gup_far (by omega)]
        omega
      refine go _ _ _ z1 (Or.inr ⟨v.1, z2, z3, Vn_sapU g1 g15, Vd_sapU g1 g2 g15 c1, ?_⟩) e3
      rw [sapU_far g15 (by omega) (by omega), gup_far (by omega)]
      exact w3
  · rw [if_neg c1] at e3
    exact go _ _ _ (c_find_bad c1) (Or.inl ⟨by omega, rfl, rfl⟩) e3
theorem k_claim {N a b c d : Int} {hC hM : Hp} (hN : 0 ≤ N) (R : Rel N hC hM) : Call N N hC hM (f_X4_claim a b c d hC) (f_X5_claim a b c d hM) := by
  obtain ⟨n, n1, n2, ⟨h1, k1, k2, k3, k4, k5⟩, v1, v2⟩ := rel_v R
  obtain ⟨w1, w2, w3⟩ := v1
  have e3 := p_claims (e := 950) (a := a) (b := b) (c := c) (d := d) (h := hM) (s := tr0 hM) (by omega) v2 w1
  have go : ∀ r h2 s, f_X1_takeClaim 1 a b c d h1 = some (r, h2) → ((r < 0 ∧ h2 = h1 ∧ s = tr0 hM) ∨ (0 ≤ r ∧ SR h2 1 s ∧ FrO 1 h1 h2 ∧ Vg N s)) → f_X5_claims 950 a b c d (mst (Int.toNat 950) hM (tr0 hM)) = some (r, mst (Int.toNat 950) hM s) → Call N N hC hM (f_X4_claim a b c d hC) (f_X5_claim a b c d hM) := by
    intro r h2 s q1 q2 q3
    unfold f_X4_claim f_X5_claim
    rw [k1, bd_s, q1, bd_s]
    exact call_way (op := fun r h => f_X5_claims r a b c d h) R (by omega) n2 n1 k1 k2 k4 q2 q3
  by_cases c1 : ok4 (-1) a b c d
  · rw [if_pos c1] at e3
    by_cases c0 : a = -1 ∧ b = -1 ∧ c = -1 ∧ d = -1
    · rw [if_pos c0] at e3
      exact go _ _ _ (by rw [c_claim_ok c1, if_pos c0]) (Or.inl ⟨by omega, rfl, rfl⟩) e3
    rw [if_neg c0] at e3
    by_cases c2 : tr0 hM 16 = 12
    · rw [if_pos c2] at e3
      exact go _ _ _ (c_claim_full k3 c1 c0 c2) (Or.inl ⟨by omega, rfl, rfl⟩) e3
    · rw [if_neg c2] at e3
      have v := w1.2.1
      obtain ⟨h2, z1, z2, z3⟩ := c_claim k3 w1 c1 c0 (by omega)
      have g1 := gup_V (i := 9) (x := wr (tr0 hM 9 + 1)) w1 (by omega)
      have g2 := Vd_gup (i := 9) (x := wr (tr0 hM 9 + 1)) w2 w1 (by omega)
      have g16 : gup (tr0 hM) 9 (wr (tr0 hM 9 + 1)) 16 ≤ 11 := by
        rw [gup_far (by omega)]
        omega
      refine go _ _ _ z1 (Or.inr ⟨v.1, z2, z3, Vn_sapC g1 g16, Vd_sapC hN g1 g2 g16 c1, ?_⟩) e3
      rw [sapC_far g16 (by omega) (by omega), gup_far (by omega)]
      exact w3
  · rw [if_neg c1] at e3
    exact go _ _ _ (c_claim_bad c1) (Or.inl ⟨by omega, rfl, rfl⟩) e3
theorem k_tell {N i j v : Int} {hC hM : Hp} (hN : 0 ≤ N ∧ N ≤ 1000000) (R : Rel N hC hM) : Call N (N + 1) hC hM (f_X4_tell i j v hC) (f_X5_tell i j v hM) := by
  obtain ⟨n, n1, n2, ⟨h1, k1, k2, k3, k4, k5⟩, v1, v2⟩ := rel_v R
  obtain ⟨w1, w2, w3⟩ := v1
  have go : ∀ r h2 s, f_X1_noteDetail 1 i j v h1 = some (r, h2) → ((r < 0 ∧ h2 = h1 ∧ s = tr0 hM) ∨ (0 ≤ r ∧ SR h2 1 s ∧ FrO 1 h1 h2 ∧ Vg (N + 1) s)) → f_X5_tells 950 i j v (mst (Int.toNat 950) hM (tr0 hM)) = some (r, mst (Int.toNat 950) hM s) → Call N (N + 1) hC hM (f_X4_tell i j v hC) (f_X5_tell i j v hM) := by
    intro r h2 s q1 q2 q3
    unfold f_X4_tell f_X5_tell
    rw [k1, bd_s, q1, bd_s]
    exact call_way (op := fun r h => f_X5_tells r i j v h) R (by omega) n2 n1 k1 k2 k4 q2 q3
  by_cases c1 : okT (tr0 hM) i j v
  · obtain ⟨h2, z1, z2, z3⟩ := c_tell k3 w1 c1
    have cc := c1
    obtain ⟨⟨q1, q2⟩, q3, q4⟩ := cc
    have vv := w1.2.1
    have b := (w2.2.1 i.toNat (by omega)).2
    have t : 0 ≤ tlD (tr0 hM) i.toNat j.toNat v := by
      unfold tlD
      split
      · exact b.1
      · rw [wr_id (by omega) (by omega)]
        omega
    refine go _ _ _ z1 (Or.inr ⟨t, z2, z3, ?_, Vd_tlS w1 w2 hN.2 c1, ?_⟩) (p_tells (e := 950) (by omega) v2 w1 (by omega) c1)
    · unfold tlS
      exact gup_V (gup_V w1 (by omega)) (by omega)
    · unfold tlS
      rw [gup_far (by omega), gup_far (by omega)]
      exact w3
  · exact go _ _ _ (c_tell_bad k3 c1) (Or.inl ⟨by omega, rfl, rfl⟩) (p_tells_bad (e := 950) (by omega) v2 w1 c1)
end Calls3

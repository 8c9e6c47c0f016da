/-! the entry: what the tables and the statement give -/
section Entry1
theorem eq_int {args : Array Value} {s : State} {t : Term} {z : Int32} (h : (Cond.eq t (.int z)).before args s = true) : t.eval args s none [] s = some (.int z) := by
  cases hv : t.eval args s none [] s with
  | none => simp [Cond.before, Cond.holds, Cond.value, hv] at h
  | some w =>
    have hz : (Term.int z).eval args s none [] s = some (.int z) := rfl
    simp only [Cond.before, Cond.holds, Cond.value, hv, hz] at h
    cases w <;> simp_all
theorem arr_of {args : Array Value} {s : State} {t : FieldType} (h : (Cond.arrayClass t).before args s = true) : ∃ cA, ArrOfT s cA t ∧ s.vm.findClass ("[" ++ t.toString) = some cA := by
  obtain ⟨c, k, comp, h1, h2, h3⟩ := Cond.arrayClass_spec (first := s) (o := none) (idx := []) h
  exact ⟨c, fun n z => ⟨fun k h => (by cases h), k, h2, comp, h3⟩, h1⟩
abbrev cG : Cond := Jvm.Cond.and given_1 narrow_1
theorem entry_K {args : Array Value} {s : State} (hts : ∀ w ∈ lw_tbl, w.before args s = true) : ∃ (D : va_G) (ca : Nat → ClassId), va_K D vwCl (tysOf ca) s := by
  have htw : ∀ w ∈ lwT, w.before args s = true := fun w hw => hts w (List.mem_filter.mp hw).1
  obtain ⟨c0, i0, K0⟩ := u_known hts inX0 (htw _ nl_X4_19.2.1)
  obtain ⟨c1, i1, K1⟩ := u_known hts inX1 (htw _ nl_X4_7.2.1)
  obtain ⟨c2, i2, K2⟩ := u_known hts inX2 (htw _ nl_X1_9.2.1)
  obtain ⟨c3, i3, K3⟩ := u_known hts inX3 (htw _ nl_X4_34.2.1)
  obtain ⟨c4, i4, K4⟩ := u_known hts inX4 (htw _ nl_L_17.2.1)
  obtain ⟨a0, A0, B0⟩ := arr_of (htw _ ar_int)
  obtain ⟨a1, A1, B1⟩ := arr_of (htw _ ar_boolean)
  obtain ⟨a2, A2, B2⟩ := arr_of (htw _ ar_char)
  obtain ⟨comp, a3, k3, g1, g2, g3, g4, g5⟩ := Cond.arrayOver_spec (first := s) (o := none) (idx := []) (hts _ ar_over)
  refine ⟨(fun c => [c0, c1, c2, c3, c4].getD c c0, fun c => [i0, i1, i2, i3, i4].getD c i0), fun c => [a0, a1, a2, a3].getD c a0, fun c q hq => ?_, fun k q hq => ?_⟩
  · match c, hq with
    | 0, hq => cases hq; exact K0
    | 1, hq => cases hq; exact K1
    | 2, hq => cases hq; exact K2
    | 3, hq => cases hq; exact K3
    | 4, hq => cases hq; exact K4
  · match k, hq with
    | 0, hq => cases hq; exact ⟨A0, B0⟩
    | 1, hq => cases hq; exact ⟨A1, B1⟩
    | 2, hq => cases hq; exact ⟨A2, B2⟩
    | 3, hq => cases hq; exact ⟨fun n z => ⟨fun k h => (by cases h), k3, g3, comp, g4⟩, k3, comp, g3, g4, g1, g5⟩
abbrev tRo (i : Nat) : Term := .static "OddUmbrellas" (sN i) "[I"
theorem m_row : ∀ i, i < 87 → 84 ≤ i → Cond.arrayOf (tRo i) .int ∈ flatC cG ∧ Cond.eq (.length (tRo i)) (.int 7) ∈ flatC cG := by decide +kernel
theorem m_el : ∀ i, i < 87 → 84 ≤ i → ∀ j, j < 7 → Cond.eq (.elem (tRo i) (.int (Int32.ofNat j))) (.int (Int32.ofInt (sA i j))) ∈ flatC cG := by decide +kernel
theorem lay_row : ∀ i, i < 87 → 84 ≤ i → Cond.laysStatic "OddUmbrellas" (sN i) "[I" ∈ lw_tbl := fun i h1 h2 => by
  rcases (show i = 84 ∨ i = 85 ∨ i = 86 by omega) with rfl | rfl | rfl
  · exact lwN_k1 40 rfl
  · exact lwN_k2 161 rfl
  · exact lwN_k2 164 rfl
end Entry1

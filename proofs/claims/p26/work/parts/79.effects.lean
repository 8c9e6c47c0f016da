/-! what weeks and handing out do to the sums -/
section Effects26
/-- a umbrellas sold, b claims lapsed -/
def Eff (s s' : Rw) (a b : Int) : Prop := (0 ≤ a ∧ 0 ≤ b) ∧ (s' 15 = s 15 - a ∧ s' 11 = s 11 + a) ∧ (s' 16 = s 16 - b ∧ s' 12 = s 12 + b) ∧ (∀ k, 1 ≤ k → k < 15 → k ≠ 11 → k ≠ 12 → k ≠ 13 → s' k = s k) ∧ s' 17 = (if s 17 + a + b < 10 then s 17 + a + b else 10) ∧ (s' 13 - (s 13 + a * s 7)) % 4294967296 = 0 ∧ iR (s' 13)
theorem wr_mod (z : Int) : (wr z - z) % 4294967296 = 0 := by
  rw [wr_def]
  omega
theorem wr_cong {z y : Int} (hz : iR z) (h : (z - y) % 4294967296 = 0) : z = wr y := by
  rw [wr_def]
  unfold iR at hz
  omega
theorem Eff.iv {B a b : Int} {s s' : Rw} (i : Iv B s) (e : Eff s s' a b) : Iv B s' := by
  obtain ⟨⟨i1, i2, i3, i4⟩, i5, i6, ⟨i7, i8⟩, i9, -⟩ := i
  obtain ⟨⟨e1, e2⟩, ⟨e3, e4⟩, ⟨e5, e6⟩, e7, e8, -, e9⟩ := e
  refine ⟨⟨?_, by omega, by omega, ?_⟩, ?_, ?_, ⟨?_, ?_⟩, ?_, e9⟩
  · rw [e7 10 (by omega) (by omega) (by omega) (by omega) (by omega)]; exact i1
  · rw [e7 14 (by omega) (by omega) (by omega) (by omega) (by omega)]; exact i4
  · rw [e7 8 (by omega) (by omega) (by omega) (by omega) (by omega), e7 10 (by omega) (by omega) (by omega) (by omega) (by omega)]; omega
  · rw [e7 9 (by omega) (by omega) (by omega) (by omega) (by omega), e7 10 (by omega) (by omega) (by omega) (by omega) (by omega), e7 14 (by omega) (by omega) (by omega) (by omega) (by omega)]; omega
  · rw [e7 8 (by omega) (by omega) (by omega) (by omega) (by omega)]; exact i7
  · rw [e7 9 (by omega) (by omega) (by omega) (by omega) (by omega)]; exact i8
  · rw [e7 10 (by omega) (by omega) (by omega) (by omega) (by omega), e8, i9]
    by_cases c : s 10 + s 11 + s 12 < 10
    · rw [if_pos c]
      by_cases c2 : s 10 + s 11 + s 12 + a + b < 10
      · rw [if_pos c2, if_pos (by omega)]; omega
      · rw [if_neg c2, if_neg (by omega)]
    · rw [if_neg c, if_neg (by omega), if_neg (by omega)]
theorem Eff.tr {s s1 s2 : Rw} {a b a' b' : Int} (x : Eff s s1 a b) (y : Eff s1 s2 a' b') : Eff s s2 (a + a') (b + b') := by
  obtain ⟨⟨e1, e2⟩, ⟨e3, e4⟩, ⟨e5, e6⟩, e7, e8, e9, e10⟩ := x
  obtain ⟨⟨f1, f2⟩, ⟨f3, f4⟩, ⟨f5, f6⟩, f7, f8, f9, f10⟩ := y
  have s7 := e7 7 (by omega) (by omega) (by omega) (by omega) (by omega)
  refine ⟨⟨by omega, by omega⟩, ⟨by omega, by omega⟩, ⟨by omega, by omega⟩, fun k k1 k2 k3 k4 k5 => (f7 k k1 k2 k3 k4 k5).trans (e7 k k1 k2 k3 k4 k5), ?_, ?_, f10⟩
  · rw [f8, e8]
    by_cases c : s 17 + a + b < 10
    · rw [if_pos c]
      by_cases c2 : s 17 + a + b + a' + b' < 10
      · rw [if_pos c2, if_pos (by omega)]; omega
      · rw [if_neg c2, if_neg (by omega)]
    · rw [if_neg c, if_neg (by omega), if_neg (by omega)]
  · rw [s7] at f9
    rw [Int.add_mul]
    generalize a * s 7 = p at *
    generalize a' * s 7 = q at *
    omega
theorem Eff.rf {s s' : Rw} (hV : Vn s) (h13 : iR (s 13)) (e : ∀ k, 1 ≤ k → k < 18 → s' k = s k) : Eff s s' 0 0 := by
  have v := hV.2.2
  refine ⟨⟨by omega, by omega⟩, ⟨by rw [e 15 (by omega) (by omega)]; omega, by rw [e 11 (by omega) (by omega)]; omega⟩, ⟨by rw [e 16 (by omega) (by omega)]; omega, by rw [e 12 (by omega) (by omega)]; omega⟩, fun k k1 k2 _ _ _ => e k k1 (by omega), ?_, ?_, ?_⟩
  · rw [e 17 (by omega) (by omega)]
    split <;> omega
  · rw [e 13 (by omega) (by omega), Int.zero_mul]
    omega
  · rw [e 13 (by omega) (by omega)]
    exact h13
theorem wri_13 (s : Rw) (x y z : Int) : wri s x y z 13 = wr (s 13 + z) := by
  unfold wri wr1
  rw [if_pos rfl]
  split
  · show wr (wsh s 13 + z) = _
    unfold wsh
    rw [if_neg (by omega), if_neg (by omega)]
  · rfl
theorem wri_17 (s : Rw) (x y z : Int) : wri s x y z 17 = if s 17 = 10 then 10 else s 17 + 1 := by
  unfold wri wr1
  rw [if_neg (by omega), if_pos rfl]
  by_cases c : s 17 = 10
  · rw [if_pos c, if_pos c, wsh_17]
    omega
  · rw [if_neg c, if_neg c]
theorem sel_one {B : Int} {s : Rw} {u : Nat} {y : Int} (hB : B ≤ 100000) (hV : Vn s) (i : Iv B s) (h1 : 1 ≤ s 15) : Eff s (ugo (gup (wri s 1 y (s 7)) 11 (wr (s 11 + 1))) u) 1 0 ∧ Vn (ugo (gup (wri s 1 y (s 7)) 11 (wr (s 11 + 1))) u) := by
  obtain ⟨⟨i1, i2, i3, i4⟩, i5, i6, ⟨i7, i8⟩, i9, i10⟩ := i
  have v3 := hV.2.2
  have v1 := hV.1
  have w1 := wri_V (x := 1) (y := y) (z := s 7) hV
  have w2 := gup_V (i := 11) (x := wr (s 11 + 1)) w1 (by omega)
  have lo : ∀ k, k < 150 → k ≠ 13 → k ≠ 17 → k ≠ 11 → gup (wri s 1 y (s 7)) 11 (wr (s 11 + 1)) k = s k := fun k q1 q2 q3 q4 => by
    rw [gup_far q4, wri_lo v3.1 q1 q2 q3]
  have f15 := lo 15 (by omega) (by omega) (by omega) (by omega)
  have fr : ∀ k, k ≠ 15 → k < 18 → ugo (gup (wri s 1 y (s 7)) 11 (wr (s 11 + 1))) u k = gup (wri s 1 y (s 7)) 11 (wr (s 11 + 1)) k := fun k q1 q2 => ugo_far w2.1.2 q1 (Or.inl q2)
  have w := wr_id (z := s 11 + 1) (by omega) (by omega)
  refine ⟨⟨⟨by omega, by omega⟩, ⟨?_, ?_⟩, ⟨?_, ?_⟩, fun k k1 k2 k3 k4 k5 => ?_, ?_, ?_, ?_⟩, ugo_V w2 (by rw [f15]; omega)⟩
  · rw [u15, f15]
  · rw [fr 11 (by omega) (by omega), gup_same, w]
  · rw [fr 16 (by omega) (by omega), lo 16 (by omega) (by omega) (by omega) (by omega)]
    omega
  · rw [fr 12 (by omega) (by omega), lo 12 (by omega) (by omega) (by omega) (by omega)]
    omega
  · rw [fr k (by omega) (by omega), lo k (by omega) (by omega) (by omega) (by omega)]
  · rw [fr 17 (by omega) (by omega), gup_far (by omega), wri_17]
    by_cases c : s 17 = 10
    · rw [if_pos c, if_neg (by omega)]
    · rw [if_neg c]
      split <;> omega
  · rw [fr 13 (by omega) (by omega), gup_far (by omega), wri_13, Int.one_mul]
    exact wr_mod _
  · rw [fr 13 (by omega) (by omega), gup_far (by omega), wri_13]
    exact wr_R _
theorem lap_one {B : Int} {s : Rw} {u : Nat} {y : Int} (hB : B ≤ 100000) (hV : Vn s) (i : Iv B s) (h1 : 1 ≤ s 16) : Eff s (cgo (gup (wri s 2 y 0) 12 (wr (s 12 + 1))) u) 0 1 ∧ Vn (cgo (gup (wri s 2 y 0) 12 (wr (s 12 + 1))) u) := by
  obtain ⟨⟨i1, i2, i3, i4⟩, i5, i6, ⟨i7, i8⟩, i9, i10⟩ := i
  have v3 := hV.2.2
  have v1 := hV.2.1
  have w1 := wri_V (x := 2) (y := y) (z := 0) hV
  have w2 := gup_V (i := 12) (x := wr (s 12 + 1)) w1 (by omega)
  have lo : ∀ k, k < 150 → k ≠ 13 → k ≠ 17 → k ≠ 12 → gup (wri s 2 y 0) 12 (wr (s 12 + 1)) k = s k := fun k q1 q2 q3 q4 => by
    rw [gup_far q4, wri_lo v3.1 q1 q2 q3]
  have f16 := lo 16 (by omega) (by omega) (by omega) (by omega)
  have fr : ∀ k, k ≠ 16 → k < 18 → cgo (gup (wri s 2 y 0) 12 (wr (s 12 + 1))) u k = gup (wri s 2 y 0) 12 (wr (s 12 + 1)) k := fun k q1 q2 => cgo_far w2.2.1.2 q1 (Or.inl (by omega))
  have w := wr_id (z := s 12 + 1) (by omega) (by omega)
  refine ⟨⟨⟨by omega, by omega⟩, ⟨?_, ?_⟩, ⟨?_, ?_⟩, fun k k1 k2 k3 k4 k5 => ?_, ?_, ?_, ?_⟩, cgo_V w2 (by rw [f16]; omega)⟩
  · rw [fr 15 (by omega) (by omega), lo 15 (by omega) (by omega) (by omega) (by omega)]
    omega
  · rw [fr 11 (by omega) (by omega), lo 11 (by omega) (by omega) (by omega) (by omega)]
    omega
  · rw [c16, f16]
  · rw [fr 12 (by omega) (by omega), gup_same, w]
  · rw [fr k (by omega) (by omega), lo k (by omega) (by omega) (by omega) (by omega)]
  · rw [fr 17 (by omega) (by omega), gup_far (by omega), wri_17]
    by_cases c : s 17 = 10
    · rw [if_pos c, if_neg (by omega)]
    · rw [if_neg c]
      split <;> omega
  · rw [fr 13 (by omega) (by omega), gup_far (by omega), wri_13, Int.zero_mul, Int.add_zero]
    exact wr_mod _
  · rw [fr 13 (by omega) (by omega), gup_far (by omega), wri_13]
    exact wr_R _
theorem sel_eff {B : Int} (hB : B ≤ 100000) : ∀ (n u : Nat) (s : Rw), Vn s → (u : Int) + n = s 15 → Iv B s → ∃ a, Eff s (sel n u s) a 0 ∧ Vn (sel n u s) := by
  intro n
  induction n with
  | zero =>
    intro u s hV hn i
    exact ⟨0, Eff.rf hV i.2.2.2.2.2 (fun _ _ _ => rfl), hV⟩
  | succ n ih =>
    intro u s hV hn i
    rw [sel_step]
    by_cases c : s (18 + 5 * u + 4) < s 6
    · rw [if_pos c]
      exact ih (u + 1) s hV (by omega) i
    · rw [if_neg c]
      obtain ⟨e, V⟩ := sel_one (u := u) (y := s (18 + 5 * u + 4)) hB hV i (by omega)
      obtain ⟨a, e2, V2⟩ := ih u _ V (by rw [e.2.1.1]; omega) (e.iv i)
      exact ⟨1 + a, e.tr e2, V2⟩
theorem lap_eff {B : Int} (hB : B ≤ 100000) : ∀ (n u : Nat) (s : Rw), Vn s → (u : Int) + n = s 16 → Iv B s → ∃ b, Eff s (lap n u s) 0 b ∧ Vn (lap n u s) := by
  intro n
  induction n with
  | zero =>
    intro u s hV hn i
    exact ⟨0, Eff.rf hV i.2.2.2.2.2 (fun _ _ _ => rfl), hV⟩
  | succ n ih =>
    intro u s hV hn i
    rw [lap_step]
    by_cases c : s (78 + 6 * u + 4) < s 6
    · rw [if_pos c]
      exact ih (u + 1) s hV (by omega) i
    · rw [if_neg c]
      obtain ⟨e, V⟩ := lap_one (u := u) (y := s (78 + 6 * u + 4)) hB hV i (by omega)
      obtain ⟨a, e2, V2⟩ := ih u _ V (by rw [e.2.2.1.1]; omega) (e.iv i)
      exact ⟨1 + a, e.tr e2, V2⟩
theorem wk1_eff {B : Int} {s : Rw} (hB : B ≤ 100000) (hV : Vn s) (i : Iv B s) : ∃ a b, Eff s (wk1 s) a b ∧ Vn (wk1 s) := by
  have c : ∀ k, 1 ≤ k → k < 18 → agp (gup s 0 (wr (s 0 + 1))) 12 k = s k := fun k k1 k2 => by
    rw [agp_c _ _ _ k2, gup_far (by omega)]
  have v1 : Vn (agp (gup s 0 (wr (s 0 + 1))) 12) := by
    unfold Vn at hV ⊢
    rw [c 15 (by omega) (by omega), c 16 (by omega) (by omega), c 17 (by omega) (by omega)]
    exact hV
  have e0 : Eff s (agp (gup s 0 (wr (s 0 + 1))) 12) 0 0 := Eff.rf hV i.2.2.2.2.2 c
  have v := hV.1
  obtain ⟨a, e1, V1⟩ := sel_eff hB (s 15).toNat 0 _ v1 (by rw [c 15 (by omega) (by omega)]; omega) (e0.iv i)
  obtain ⟨b, e2, V2⟩ := lap_eff hB ((sel (s 15).toNat 0 (agp (gup s 0 (wr (s 0 + 1))) 12)) 16).toNat 0 _ V1 (by have := V1.2.1; omega) (e1.iv (e0.iv i))
  exact ⟨_, _, (e0.tr e1).tr e2, V2⟩
theorem wks_eff {B : Int} (hB : B ≤ 100000) : ∀ (n : Nat) (s : Rw), Vn s → Iv B s → ∃ a b, Eff s (wks n s) a b := by
  intro n
  induction n with
  | zero =>
    intro s hV i
    exact ⟨0, 0, Eff.rf hV i.2.2.2.2.2 (fun _ _ _ => rfl)⟩
  | succ n ih =>
    intro s hV i
    obtain ⟨a, b, e, V⟩ := wk1_eff hB hV i
    obtain ⟨a', b', e'⟩ := ih _ V (e.iv i)
    rw [wks_step]
    exact ⟨_, _, e.tr e'⟩
/-! handing out -/
/-- the coins that the law counts of the first n umbrellas -/
noncomputable def hco (s U : Rw) : Nat → Int
  | 0 => 0
  | n + 1 => if U n = -1 then hco s U n else wr (hco s U n + wr (s (18 + 5 * n + 4) * s 5))
theorem hco_R (s U : Rw) : ∀ n : Nat, iR (hco s U n) := by
  intro n
  induction n with
  | zero => exact iR_0
  | succ n ih =>
    unfold hco
    split
    · exact ih
    · exact wr_R _
/-- the last entry of the book: of this week, an umbrella handed out -/
def Ent (w : Int) (s : Rw) : Prop := 1 ≤ s 17 ∧ s (150 + 4 * (s 17 - 1).toNat) = w ∧ s (150 + 4 * (s 17 - 1).toNat + 1) = 0
theorem wri_ent {s : Rw} {y z : Int} (hV : Vn s) : Ent (s 0) (wri s 0 y z) := by
  have v := hV.2.2
  have key : ∀ g : Rw, 0 ≤ g 17 → g 0 = s 0 → Ent (s 0) (wr1 g 0 y z) := fun g g0 e0 => by
    have e17 : wr1 g 0 y z 17 = g 17 + 1 := by
      unfold wr1
      rw [if_neg (by omega), if_pos rfl]
    unfold Ent
    rw [e17, show (g 17 + 1 - 1).toNat = (g 17).toNat by omega]
    refine ⟨by omega, ?_, ?_⟩
    · unfold wr1
      rw [if_neg (by omega), if_neg (by omega), if_pos rfl]
      exact e0
    · unfold wr1
      rw [if_neg (by omega), if_neg (by omega), if_neg (by omega), if_pos rfl]
  unfold wri
  by_cases c : s 17 = 10
  · rw [if_pos c]
    refine key _ (by rw [wsh_17]; omega) ?_
    unfold wsh
    rw [if_neg (by omega), if_neg (by omega)]
  · rw [if_neg c]
    exact key _ v.1 rfl
theorem hdW_eff {s0 U : Rw} : ∀ (m u : Nat) (s : Rw), u + m ≤ 12 → Vn s → (∀ j, j < 150 → j ≠ 13 → j ≠ 17 → s j = s0 j) → iR (s 13) →
    Vn (hdW U m u s) ∧ (∀ j, j < 150 → j ≠ 13 → j ≠ 17 → hdW U m u s j = s0 j) ∧ iR (hdW U m u s 13) ∧ (hdW U m u s 13 - s 13 - (hco s0 U (u + m) - hco s0 U u)) % 4294967296 = 0 ∧ hdW U m u s 17 = (if s 17 + (cnt U m u : Int) < 10 then s 17 + (cnt U m u : Int) else 10) ∧ ((0 < cnt U m u ∨ Ent (s0 0) s) → Ent (s0 0) (hdW U m u s)) := by
  intro m
  induction m with
  | zero =>
    intro u s _ hV q h13
    have v := hV.2.2
    refine ⟨hV, q, h13, ?_, ?_, fun z => ?_⟩
    · show (s 13 - s 13 - (hco s0 U u - hco s0 U u)) % 4294967296 = 0
      omega
    · show s 17 = if s 17 + ((0 : Nat) : Int) < 10 then s 17 + ((0 : Nat) : Int) else 10
      split <;> omega
    · rcases z with z | z
      · exact absurd z (by show ¬ 0 < 0; omega)
      · exact z
  | succ m ih =>
    intro u s hm hV q h13
    have v := hV.2.2
    have u12 : 18 + 5 * u + 4 < 150 := by omega
    rw [hdW_s, cnt_s, show u + (m + 1) = (u + 1) + m by omega]
    by_cases c : U u = -1
    · rw [if_pos c, if_pos c, Nat.zero_add]
      have e : hco s0 U (u + 1) = hco s0 U u := by
        show (if U u = -1 then hco s0 U u else _) = _
        rw [if_pos c]
      obtain ⟨a1, a2, a3, a4, a5, a6⟩ := ih (u + 1) s (by omega) hV q h13
      rw [e] at a4
      exact ⟨a1, a2, a3, a4, a5, a6⟩
    · rw [if_neg c, if_neg c]
      have e : hco s0 U (u + 1) = wr (hco s0 U u + wr (s0 (18 + 5 * u + 4) * s0 5)) := by
        show (if U u = -1 then hco s0 U u else _) = _
        rw [if_neg c]
      obtain ⟨a1, a2, a3, a4, a5, a6⟩ := ih (u + 1) (wri s 0 (s (18 + 5 * u + 4)) (wr (s (18 + 5 * u + 4) * s 5))) (by omega) (wri_V hV) (fun j j1 j2 j3 => by
        rw [wri_lo v.1 j1 j2 j3]
        exact q j j1 j2 j3) (by rw [wri_13]; exact wr_R _)
      refine ⟨a1, a2, a3, ?_, ?_, fun _ => a6 (Or.inr ?_)⟩
      · have e13 : wri s 0 (s (18 + 5 * u + 4)) (wr (s (18 + 5 * u + 4) * s 5)) 13 = wr (s 13 + wr (s0 (18 + 5 * u + 4) * s0 5)) := by
          rw [wri_13, q (18 + 5 * u + 4) u12 (by omega) (by omega), q 5 (by omega) (by omega) (by omega)]
        rw [e13] at a4
        have m1 := wr_mod (s 13 + wr (s0 (18 + 5 * u + 4) * s0 5))
        have m2 := wr_mod (hco s0 U u + wr (s0 (18 + 5 * u + 4) * s0 5))
        rw [← e] at m2
        omega
      · rw [a5, wri_17]
        by_cases d : s 17 = 10
        · rw [if_pos d, if_neg (by omega), if_neg (by omega)]
        · rw [if_neg d]
          by_cases d2 : s 17 + 1 + (cnt U m (u + 1) : Int) < 10
          · rw [if_pos d2, if_pos (by omega)]
            omega
          · rw [if_neg d2, if_neg (by omega)]
      · have en := wri_ent (y := s (18 + 5 * u + 4)) (z := wr (s (18 + 5 * u + 4) * s 5)) hV
        rw [q 0 (by omega) (by omega) (by omega)] at en
        exact en
end Effects26
section Effects27
theorem gU_eff {U : Rw} : ∀ (k : Nat) (s : Rw), Vn s → (∀ j, j < k → U j ≠ -1 → (j : Int) < s 15) → gU U k s 15 = s 15 - sm (cF U) k ∧ Vn (gU U k s) ∧ ∀ j, (j < 18 ∧ j ≠ 15) ∨ 78 ≤ j → gU U k s j = s j := by
  intro k
  induction k with
  | zero =>
    intro s hV _
    refine ⟨?_, hV, fun _ _ => rfl⟩
    show s 15 = s 15 - 0
    omega
  | succ k ih =>
    intro s hV q
    rw [gU_s, sm_s]
    have v := hV.1
    by_cases c : U k = -1
    · rw [if_pos c]
      obtain ⟨a, b, d⟩ := ih s hV (fun j hj => q j (by omega))
      refine ⟨?_, b, d⟩
      rw [a]
      unfold cF
      rw [if_pos c]
      omega
    · rw [if_neg c]
      have qk := q k (by omega) c
      obtain ⟨a, b, d⟩ := ih (ugo s k) (ugo_V hV (by omega)) (fun j hj z => by
        rw [u15]
        omega)
      refine ⟨?_, b, fun j hj => ?_⟩
      · rw [a, u15]
        have e : cF U k = 1 := by
          unfold cF
          rw [if_neg c]
        rw [e]
        omega
      · rw [d j hj, ugo_far v.2 (by omega) (by omega)]
theorem gC_eff {C : Rw} : ∀ (k : Nat) (s : Rw), Vn s → (∀ j, j < k → C j ≠ -1 → (j : Int) < s 16) → gC C k s 16 = s 16 - sm (cF C) k ∧ Vn (gC C k s) ∧ ∀ j, (j < 78 ∧ j ≠ 16) ∨ 150 ≤ j → gC C k s j = s j := by
  intro k
  induction k with
  | zero =>
    intro s hV _
    refine ⟨?_, hV, fun _ _ => rfl⟩
    show s 16 = s 16 - 0
    omega
  | succ k ih =>
    intro s hV q
    rw [gC_s, sm_s]
    have v := hV.2.1
    by_cases c : C k = -1
    · rw [if_pos c]
      obtain ⟨a, b, d⟩ := ih s hV (fun j hj => q j (by omega))
      refine ⟨?_, b, d⟩
      rw [a]
      unfold cF
      rw [if_pos c]
      omega
    · rw [if_neg c]
      have qk := q k (by omega) c
      obtain ⟨a, b, d⟩ := ih (cgo s k) (cgo_V hV (by omega)) (fun j hj z => by
        rw [c16]
        omega)
      refine ⟨?_, b, fun j hj => ?_⟩
      · rw [a, c16]
        have e : cF C k = 1 := by
          unfold cF
          rw [if_neg c]
        rw [e]
        omega
      · rw [d j hj, cgo_far v.2 (by omega) (by omega)]
/-- handing out -/
theorem hdF_eff {B : Int} {s : Rw} (hB : B ≤ 100000) (hV : Vn s) (i : Iv B s) :
    hdF s 10 = s 10 + (mtA s).2.2 ∧ hdF s 15 = s 15 - (mtA s).2.2 ∧ hdF s 16 = s 16 - (mtA s).2.2 ∧ (∀ k, k < 15 → k ≠ 10 → k ≠ 13 → hdF s k = s k) ∧ hdF s 13 = wr (s 13 + hco s (mtA s).1 (s 15).toNat) ∧ ((mtA s).2.2 ≠ 0 → Ent (s 0) (hdF s)) ∧ Iv B (hdF s) := by
  obtain ⟨⟨i1, i2, i3, i4⟩, i5, i6, ⟨i7, i8⟩, i9, i10⟩ := i
  have v1 := hV.1
  have v2 := hV.2.1
  have v3 := hV.2.2
  obtain ⟨q1, q2⟩ := mt_cut (s := s)
  obtain ⟨m1, m2, m3, m4⟩ := mt_num hV
  obtain ⟨w1, w2, w3, w4, w5, w6⟩ := hdW_eff (s0 := s) (U := (mtA s).1) (s 15).toNat 0 s (by omega) hV (fun _ _ _ _ => rfl) i10
  have c12 : sm (cF (mtA s).1) 12 = (mtA s).2.2 := (mtc_n hV 12 mt0 rfl : (mtA s).2.2 = cU (mtA s).1).symm
  have d12 : sm (cF (mtA s).2.1) 12 = (mtA s).2.2 := (mtc_nC hV 12 mt0 rfl : (mtA s).2.2 = cU (mtA s).2.1).symm
  have ct : ((cnt (mtA s).1 (s 15).toNat 0 : Nat) : Int) = (mtA s).2.2 := by
    have e := cnt_sm (mtA s).1 (s 15).toNat 0
    rw [Nat.zero_add, m1, show sm (cF (mtA s).1) 0 = 0 from rfl] at e
    omega
  obtain ⟨y1, y2, y3⟩ := gU_eff (U := (mtA s).1) 12 _ w1 (fun j _ q => by rw [w2 15 (by omega) (by omega) (by omega)]; exact q1 j q)
  obtain ⟨z1, z2, z3⟩ := gC_eff (C := (mtA s).2.1) 12 _ y2 (fun j _ q => by rw [y3 16 (by omega), w2 16 (by omega) (by omega) (by omega)]; exact q2 j q)
  have far : ∀ k, k ≠ 10 → hdF s k = gC (mtA s).2.1 12 (gU (mtA s).1 12 (hdW (mtA s).1 (s 15).toNat 0 s)) k := fun k hk => by
    unfold hdF
    rw [gup_far hk, gB_is 12 _ w1.1.2 w1.2.1.2]
  have f10 : hdF s 10 = s 10 + (mtA s).2.2 := by
    unfold hdF
    rw [gup_same, wr_id (by omega) (by omega)]
  have f15 : hdF s 15 = s 15 - (mtA s).2.2 := by
    rw [far 15 (by omega), z3 15 (by omega), y1, w2 15 (by omega) (by omega) (by omega), c12]
  have f16 : hdF s 16 = s 16 - (mtA s).2.2 := by
    rw [far 16 (by omega), z1, y3 16 (by omega), w2 16 (by omega) (by omega) (by omega), d12]
  have lo : ∀ k, k < 15 → k ≠ 10 → k ≠ 13 → hdF s k = s k := fun k k1 k2 k3 => by
    rw [far k k2, z3 k (by omega), y3 k (by omega), w2 k (by omega) k3 (by omega)]
  have hi : ∀ k, (k = 13 ∨ k = 17 ∨ 150 ≤ k) → hdF s k = hdW (mtA s).1 (s 15).toNat 0 s k := fun k hk => by
    rw [far k (by omega), z3 k (by omega), y3 k (by omega)]
  have f17 := hi 17 (by omega)
  rw [w5, ct] at f17
  refine ⟨f10, f15, f16, lo, ?_, fun hm => ?_, ⟨?_, ?_, ?_, ?_⟩, ?_, ?_, ?_, ?_, ?_⟩
  · rw [hi 13 (by omega)]
    refine wr_cong w3 ?_
    rw [Nat.zero_add, show hco s (mtA s).1 0 = 0 from rfl] at w4
    omega
  · obtain ⟨e1, e2, e3⟩ := w6 (Or.inl (by omega))
    unfold Ent
    rw [hi 17 (by omega)]
    refine ⟨e1, ?_, ?_⟩
    · rw [hi _ (by omega)]
      exact e2
    · rw [hi _ (by omega)]
      exact e3
  · omega
  · rw [lo 11 (by omega) (by omega) (by omega)]; exact i2
  · rw [lo 12 (by omega) (by omega) (by omega)]; exact i3
  · rw [lo 14 (by omega) (by omega) (by omega)]; exact i4
  · rw [lo 8 (by omega) (by omega) (by omega), lo 11 (by omega) (by omega) (by omega)]; omega
  · rw [lo 9 (by omega) (by omega) (by omega), lo 12 (by omega) (by omega) (by omega), lo 14 (by omega) (by omega) (by omega)]; omega
  · rw [lo 8 (by omega) (by omega) (by omega), lo 9 (by omega) (by omega) (by omega)]; exact ⟨i7, i8⟩
  · rw [f17, f10, lo 11 (by omega) (by omega) (by omega), lo 12 (by omega) (by omega) (by omega), i9]
    by_cases c : s 10 + s 11 + s 12 < 10
    · rw [if_pos c]
      by_cases c2 : s 10 + s 11 + s 12 + (mtA s).2.2 < 10
      · rw [if_pos c2, if_pos (by omega)]; omega
      · rw [if_neg c2, if_neg (by omega)]
    · rw [if_neg c, if_neg (by omega), if_neg (by omega)]
  · rw [hi 13 (by omega)]
    exact w3
end Effects27

/-! the pure part: find, claim, tell, drop, set, weeks where they succeed -/
section Ops2
theorem c_find {h : Hp} {o : Nat} {s : Rw} {a b c d : Int} (R : SR h o s) (hV : Vn s) (q : ok4 0 a b c d) (hn : s 15 < 12) : ∃ h', f_X1_takeUmbrella o a b c d h = some (s 15, h') ∧ SR h' o (sapU (gup s 8 (wr (s 8 + 1))) a b c d) ∧ FrO o h h' := by
  rw [c_find_ok q, if_pos (by rw [R.1.1]; exact hn)]
  obtain ⟨h1, a1, a2, a3⟩ := c_add (k := 5) (x := 1) R hV (by omega) (by omega)
  rw [show (5 : Int).toNat + 3 = 8 from rfl] at a2
  have e15 : gup s 8 (wr (s 8 + 1)) 15 = s 15 := gup_far (by decide)
  obtain ⟨h2, b1, b2, b3⟩ := c_apU (a := a) (b := b) (c := c) (d := d) a2 (gup_V hV (by omega)) (by rw [e15]; omega)
  rw [a1, bd_s, b1, bd_s, e15]
  exact ⟨h2, rfl, b2, a3.tr b3⟩
theorem c_find_full {h : Hp} {o : Nat} {s : Rw} {a b c d : Int} (R : SR h o s) (q : ok4 0 a b c d) (hn : s 15 = 12) : f_X1_takeUmbrella o a b c d h = some (-1000003, h) := by
  rw [c_find_ok q, if_neg (by rw [R.1.1]; omega)]
theorem c_claim {h : Hp} {o : Nat} {s : Rw} {a b c d : Int} (R : SR h o s) (hV : Vn s) (q : ok4 (-1) a b c d) (q2 : ¬ (a = -1 ∧ b = -1 ∧ c = -1 ∧ d = -1)) (hn : s 16 < 12) : ∃ h', f_X1_takeClaim o a b c d h = some (s 16, h') ∧ SR h' o (sapC (gup s 9 (wr (s 9 + 1))) a b c d) ∧ FrO o h h' := by
  rw [c_claim_ok q, if_neg q2, if_pos (by rw [R.2.1.1]; exact hn)]
  obtain ⟨h1, a1, a2, a3⟩ := c_add (k := 6) (x := 1) R hV (by omega) (by omega)
  rw [show (6 : Int).toNat + 3 = 9 from rfl] at a2
  have e16 : gup s 9 (wr (s 9 + 1)) 16 = s 16 := gup_far (by decide)
  obtain ⟨h2, b1, b2, b3⟩ := c_apC (a := a) (b := b) (c := c) (d := d) a2 (gup_V hV (by omega)) (by rw [e16]; omega)
  rw [a1, bd_s, b1, bd_s, e16]
  exact ⟨h2, rfl, b2, a3.tr b3⟩
theorem c_claim_full {h : Hp} {o : Nat} {s : Rw} {a b c d : Int} (R : SR h o s) (q : ok4 (-1) a b c d) (q2 : ¬ (a = -1 ∧ b = -1 ∧ c = -1 ∧ d = -1)) (hn : s 16 = 12) : f_X1_takeClaim o a b c d h = some (-1000003, h) := by
  rw [c_claim_ok q, if_neg q2, if_neg (by rw [R.2.1.1]; omega)]
/-- a cell of a claim is written -/
theorem c_putC {h : Hp} {o : Nat} {s : Rw} {i j x : Int} (R : SR h o s) (hV : Vn s) (h0 : 0 ≤ i) (h1 : i < s 16) (h2 : 0 ≤ j) (h3 : j < 6) : ∃ h', f_X2_put (o + 3) i j x h = some (0, h') ∧ SR h' o (gup s (78 + 6 * i.toNat + j.toNat) x) ∧ FrO o h h' := by
  obtain ⟨r1, r2, r3, r4, r5⟩ := R
  obtain ⟨v1, v2, v3⟩ := hV
  refine ⟨_, p_put (by rw [r2.1]; exact v2.2) h0 (by rw [r2.1]; exact h1) h2 h3, ⟨?_, ?_, ?_, ?_, ?_⟩, ?_⟩
  · exact r1.congr (by rw [row_hup (by omega)]) (row_hup (by omega)) (gup_far (by omega)) v1.2 (fun k q1 q2 => gup_far (by omega))
  · refine ⟨by rw [row_hup (by omega), gup_far (by omega)]; exact r2.1, fun a b ha hb => ?_⟩
    rw [gup_far (by omega)] at ha
    by_cases c : a = i.toNat ∧ b = j.toNat
    · rw [hup_eq ⟨rfl, by omega⟩, gup_eq (by omega)]
    · rw [hup_far (by omega), gup_far (by omega)]
      exact r2.2 a b ha hb
  · exact r3.congr (by rw [row_hup (by omega)]) (row_hup (by omega)) (gup_far (by omega)) v3.2 (fun k q1 q2 => gup_far (by omega))
  · exact r4.congr (row_hup (by omega)) (fun k q1 q2 => gup_far (by omega))
  · exact r5.congr (row_hup (by omega)) (fun k q1 => gup_far (by omega))
  · intro a ha
    exact row_hup (by omega)
/-- a claim tells a detail -/
noncomputable def tlD (s : Rw) (i j : Nat) (v : Int) : Int := if s (78 + 6 * i + j) = -1 ∨ s (78 + 6 * i + j) = v then s (78 + 6 * i + 5) else wr (s (78 + 6 * i + 5) + 1)
noncomputable def tlS (s : Rw) (i j : Nat) (v : Int) : Rw := gup (gup s (78 + 6 * i + j) v) (78 + 6 * i + 5) (tlD s i j v)
abbrev okT (s : Rw) (i j v : Int) : Prop := (0 ≤ i ∧ i < s 16) ∧ (0 ≤ j ∧ j ≤ 3) ∧ okv 0 v
theorem c_tell_bad {h : Hp} {o : Nat} {s : Rw} {i j v : Int} (R : SR h o s) (q : ¬ okT s i j v) : f_X1_noteDetail o i j v h = some (-1000001, h) := by
  unfold f_X1_noteDetail
  rw [p_has, bd_s, R.2.1.1]
  by_cases c1 : 0 ≤ i ∧ i < s 16
  · rw [if_pos c1, if_neg (by decide), p_isD, bd_s]
    by_cases c2 : 0 ≤ j ∧ j ≤ 3
    · rw [if_pos c2, if_neg (by decide), p_isV, bd_s, if_neg (fun c3 => q ⟨c1, c2, c3⟩), if_neg (by decide)]
    · rw [if_neg c2, if_pos rfl]
  · rw [if_neg c1, if_pos rfl]
theorem c_tell {h : Hp} {o : Nat} {s : Rw} {i j v : Int} (R : SR h o s) (hV : Vn s) (q : okT s i j v) : ∃ h', f_X1_noteDetail o i j v h = some (tlD s i.toNat j.toNat v, h') ∧ SR h' o (tlS s i.toNat j.toNat v) ∧ FrO o h h' := by
  obtain ⟨c1, c2, c3⟩ := q
  have hv := hV.2.1
  have eC : h (o + 3 + 1) (i * 6 + j).toNat = s (78 + 6 * i.toNat + j.toNat) := by
    rw [show (i * 6 + j).toNat = 6 * i.toNat + j.toNat by omega]
    exact R.2.1.2 _ _ (by omega) (by omega)
  have eD : h (o + 3 + 1) (i * 6 + 5).toNat = s (78 + 6 * i.toNat + 5) := by
    rw [show (i * 6 + 5).toNat = 6 * i.toNat + 5 by omega]
    exact R.2.1.2 _ _ (by omega) (by omega)
  have key : ∀ x : Int, ∃ h', f_X1_noteDetail_J32 o i j v x h = some (x, h') ∧ SR h' o (gup (gup s (78 + 6 * i.toNat + j.toNat) v) (78 + 6 * i.toNat + 5) x) ∧ FrO o h h' := by
    intro x
    obtain ⟨h1, a1, a2, a3⟩ := c_putC (x := v) R hV c1.1 c1.2 c2.1 (show j < 6 by omega)
    obtain ⟨h2, b1, b2, b3⟩ := c_putC (i := i) (j := 5) (x := x) a2 (gup_V hV (by omega)) c1.1 (by rw [gup_far (by omega)]; exact c1.2) (by omega) (by omega)
    unfold f_X1_noteDetail_J32
    rw [a1, bd_s, b1, bd_s]
    exact ⟨h2, rfl, b2, a3.tr b3⟩
  unfold f_X1_noteDetail
  have e4 : f_X2_cell (o + 3) i j h = some (s (78 + 6 * i.toNat + j.toNat), h) := by
    rw [p_cell (by rw [R.2.1.1]; exact hv.2), R.2.1.1, if_pos (by omega), eC]
  have e5 : f_X2_cell (o + 3) i 5 h = some (s (78 + 6 * i.toNat + 5), h) := by
    rw [p_cell (by rw [R.2.1.1]; exact hv.2), R.2.1.1, if_pos (by omega), eD]
  rw [p_has, bd_s, R.2.1.1, if_pos c1, if_neg (by decide), p_isD, bd_s, if_pos c2, if_neg (by decide), p_isV, bd_s, if_pos c3, if_pos (by decide), e4, bd_s, e5, bd_s]
  unfold tlS tlD
  by_cases d1 : s (78 + 6 * i.toNat + j.toNat) = -1
  · rw [if_pos d1, if_pos (Or.inl d1)]
    exact key _
  · rw [if_neg d1]
    by_cases d2 : s (78 + 6 * i.toNat + j.toNat) = v
    · rw [if_pos d2, if_pos (Or.inr d2)]
      exact key _
    · rw [if_neg d2, if_neg (by omega)]
      exact key _
theorem c_drop_bad {h : Hp} {o : Nat} {s : Rw} {i : Int} (R : SR h o s) (q : ¬ (0 ≤ i ∧ i < s 16)) : f_X1_dropClaim o i h = some (-1000001, h) := by
  unfold f_X1_dropClaim
  rw [p_has, bd_s, R.2.1.1, if_neg q, if_neg (by decide)]
theorem c_drop {h : Hp} {o : Nat} {s : Rw} {i : Int} (R : SR h o s) (hV : Vn s) (q : 0 ≤ i ∧ i < s 16) : ∃ h', f_X1_dropClaim o i h = some (s 16 - 1, h') ∧ SR h' o (gup (cgo s i.toNat) 14 (wr (s 14 + 1))) ∧ FrO o h h' := by
  unfold f_X1_dropClaim
  rw [p_has, bd_s, R.2.1.1, if_pos q, if_pos (by decide)]
  have hv := hV.2.1
  obtain ⟨h1, a1, a2, a3⟩ := c_remC R hV q.1 q.2
  obtain ⟨h2, b1, b2, b3⟩ := c_add (k := 11) (x := 1) a2 (cgo_V hV (by omega)) (by omega) (by omega)
  rw [show (11 : Int).toNat + 3 = 14 from rfl, cgo_far hv.2 (by decide) (by decide)] at b2
  rw [a1, bd_s, b1, bd_s]
  have e16 : h2 (o + 3) 1 = s 16 - 1 := by
    rw [b2.2.1.1, gup_far (by decide)]
    unfold cgo
    rw [if_pos rfl]
  rw [e16]
  exact ⟨h2, rfl, b2, a3.tr b3⟩
/-- the bounds of a setting -/
abbrev okS (k v : Int) : Prop := (0 ≤ k ∧ k < 7) ∧ sA 85 k.toNat ≤ v ∧ v ≤ sA 86 k.toNat
/-- the two rows that bound the settings -/
def L2 (h : Hp) : Prop := ∀ a k, 84 ≤ a → a < 87 → h a k = sA a k
theorem p_numS {a : Nat} {k : Int} {h : Hp} (hL : L2 h) (ha : a = 85 ∨ a = 86) (h0 : 0 ≤ k) (h1 : k < 7) : f_X4_numberAt a 7 k h = some (sA a k.toNat, h) := by
  unfold f_X4_numberAt
  rw [if_neg (by omega), if_neg (by omega), if_pos (by omega), hL a k.toNat (by omega) (by omega)]
theorem c_set_bad {h : Hp} {o : Nat} {k v : Int} (hL : L2 h) (q : ¬ okS k v) : f_X1_changeSetting o k v h = some (-1000001, h) := by
  unfold f_X1_changeSetting
  by_cases c1 : k < 0
  · rw [if_pos c1]
  by_cases c2 : ((7 : Nat) : Int) ≤ k
  · rw [if_neg c1, if_pos c2]
  rw [if_neg c1, if_neg c2, p_numS hL (Or.inl rfl) (by omega) (by omega), bd_s]
  by_cases c3 : v < sA 85 k.toNat
  · rw [if_pos c3]
  rw [if_neg c3, p_numS hL (Or.inr rfl) (by omega) (by omega), bd_s, if_neg (fun c4 => q ⟨⟨by omega, by omega⟩, by omega, c4⟩)]
theorem c_set {h : Hp} {o : Nat} {s : Rw} {k v : Int} (hL : L2 h) (R : SR h o s) (hV : Vn s) (q : okS k v) : ∃ h', f_X1_changeSetting o k v h = some (s (1 + k.toNat), h') ∧ SR h' o (gup s (1 + k.toNat) v) ∧ FrO o h h' := by
  obtain ⟨⟨q1, q2⟩, q3, q4⟩ := q
  have e : h (o + 7) k.toNat = s (1 + k.toNat) := R.2.2.2.1 _ (by omega)
  unfold f_X1_changeSetting
  rw [if_neg (by omega), if_neg (by omega), p_numS hL (Or.inl rfl) q1 q2, bd_s, if_neg (by omega), p_numS hL (Or.inr rfl) q1 q2, bd_s, if_pos q4, if_pos (by omega)]
  unfold lv lt
  dsimp only
  rw [if_pos (by omega), e]
  obtain ⟨r1, r2, r3, r4, r5⟩ := R
  obtain ⟨v1, v2, v3⟩ := hV
  refine ⟨_, rfl, ⟨?_, ?_, ?_, ?_, ?_⟩, ?_⟩
  · exact r1.congr (by rw [row_hup (by omega)]) (row_hup (by omega)) (gup_far (by omega)) v1.2 (fun k q1 q2 => gup_far (by omega))
  · exact r2.congr (by rw [row_hup (by omega)]) (row_hup (by omega)) (gup_far (by omega)) v2.2 (fun k q1 q2 => gup_far (by omega))
  · exact r3.congr (by rw [row_hup (by omega)]) (row_hup (by omega)) (gup_far (by omega)) v3.2 (fun k q1 q2 => gup_far (by omega))
  · intro j hj
    by_cases c : j = k.toNat
    · rw [hup_eq ⟨rfl, c⟩, gup_eq (by omega)]
    · rw [hup_far (by omega), gup_far (by omega)]
      exact r4 j hj
  · exact r5.congr (row_hup (by omega)) (fun k q1 => gup_far (by omega))
  · intro a ha
    exact row_hup (by omega)
theorem c_weeks_bad {h : Hp} {o : Nat} {x m : Int} (q : ¬ (1 ≤ x ∧ x ≤ 20)) : f_X1_passWeeks o x m h = some (-1000001, h) := by
  unfold f_X1_passWeeks
  rw [p_isW, bd_s, if_neg q, if_neg (by decide)]
theorem c_weeks_full {h : Hp} {o : Nat} {s : Rw} {x m : Int} (R : SR h o s) (q : 1 ≤ x ∧ x ≤ 20) (hn : m < wr (s 0 + x)) : f_X1_passWeeks o x m h = some (-1000003, h) := by
  unfold f_X1_passWeeks
  have e0 : h (o + 8) (Int.toNat 0) = s 0 := R.2.2.2.2.1
  rw [p_isW, bd_s, if_pos q, if_pos (by decide), p_sum (by omega) (by omega), bd_s, e0, if_neg (by omega)]
theorem c_weeks {h : Hp} {o : Nat} {s : Rw} {x m : Int} (R : SR h o s) (hV : Vn s) (q : 1 ≤ x ∧ x ≤ 20) (hn : wr (s 0 + x) ≤ m) : ∃ h', f_X1_passWeeks o x m h = some (wr (wks x.toNat s 11 - s 11), h') ∧ SR h' o (wks x.toNat s) ∧ FrO o h h' := by
  unfold f_X1_passWeeks
  have e0 : h (o + 8) (Int.toNat 0) = s 0 := R.2.2.2.2.1
  have e8 : h (o + 8) (Int.toNat 8) = s 11 := R.2.2.2.2.2 3 (by omega)
  rw [p_isW, bd_s, if_pos q, if_pos (by decide), p_sum (by omega) (by omega), bd_s, e0, if_pos hn, p_sum (by omega) (by omega), bd_s, e8]
  exact c_weeks_L q.2 x.toNat fu h s 0 (by have := fu_gt; omega) (by omega) (by omega) R hV
end Ops2

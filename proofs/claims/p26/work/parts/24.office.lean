/-! the pure part: an office of the class holds a state; its steps -/
section Office1
def RU (h : Hp) (o : Nat) (s : Rw) : Prop := h (o + 1) 1 = s 15 ∧ ∀ i c : Nat, (i : Int) < s 15 → c < 5 → h (o + 1 + 1) (6 * i + c) = s (18 + 5 * i + c)
def RC (h : Hp) (o : Nat) (s : Rw) : Prop := h (o + 3) 1 = s 16 ∧ ∀ i c : Nat, (i : Int) < s 16 → c < 6 → h (o + 3 + 1) (6 * i + c) = s (78 + 6 * i + c)
def RE (h : Hp) (o : Nat) (s : Rw) : Prop := h (o + 5) 1 = s 17 ∧ ∀ i c : Nat, (i : Int) < s 17 → c < 4 → h (o + 5 + 1) (6 * i + c) = s (150 + 4 * i + c)
def RT (h : Hp) (o : Nat) (s : Rw) : Prop := ∀ k : Nat, k < 7 → h (o + 7) k = s (1 + k)
def RM (h : Hp) (o : Nat) (s : Rw) : Prop := h (o + 8) 0 = s 0 ∧ ∀ k : Nat, k < 7 → h (o + 8) (5 + k) = s (8 + k)
def SR (h : Hp) (o : Nat) (s : Rw) : Prop := RU h o s ∧ RC h o s ∧ RE h o s ∧ RT h o s ∧ RM h o s
theorem RU.congr {h h' : Hp} {o : Nat} {s s' : Rw} (R : RU h o s) (h1 : h' (o + 1) 1 = h (o + 1) 1) (h2 : h' (o + 1 + 1) = h (o + 1 + 1)) (n : s' 15 = s 15) (hn : s 15 ≤ 12) (q : ∀ k, 18 ≤ k → k < 78 → s' k = s k) : RU h' o s' := by
  refine ⟨by rw [h1, n]; exact R.1, fun i c hi hc => ?_⟩
  rw [h2, q _ (by omega) (by omega)]
  exact R.2 i c (by omega) hc
theorem RC.congr {h h' : Hp} {o : Nat} {s s' : Rw} (R : RC h o s) (h1 : h' (o + 3) 1 = h (o + 3) 1) (h2 : h' (o + 3 + 1) = h (o + 3 + 1)) (n : s' 16 = s 16) (hn : s 16 ≤ 12) (q : ∀ k, 78 ≤ k → k < 150 → s' k = s k) : RC h' o s' := by
  refine ⟨by rw [h1, n]; exact R.1, fun i c hi hc => ?_⟩
  rw [h2, q _ (by omega) (by omega)]
  exact R.2 i c (by omega) hc
theorem RE.congr {h h' : Hp} {o : Nat} {s s' : Rw} (R : RE h o s) (h1 : h' (o + 5) 1 = h (o + 5) 1) (h2 : h' (o + 5 + 1) = h (o + 5 + 1)) (n : s' 17 = s 17) (hn : s 17 ≤ 10) (q : ∀ k, 150 ≤ k → k < 190 → s' k = s k) : RE h' o s' := by
  refine ⟨by rw [h1, n]; exact R.1, fun i c hi hc => ?_⟩
  rw [h2, q _ (by omega) (by omega)]
  exact R.2 i c (by omega) hc
theorem RT.congr {h h' : Hp} {o : Nat} {s s' : Rw} (R : RT h o s) (h1 : h' (o + 7) = h (o + 7)) (q : ∀ k, 1 ≤ k → k < 8 → s' k = s k) : RT h' o s' := by
  intro k hk
  rw [h1, q _ (by omega) (by omega)]
  exact R k hk
theorem RM.congr {h h' : Hp} {o : Nat} {s s' : Rw} (R : RM h o s) (h1 : h' (o + 8) = h (o + 8)) (q : ∀ k, k = 0 ∨ (8 ≤ k ∧ k < 15) → s' k = s k) : RM h' o s' := by
  refine ⟨by rw [h1, q 0 (by omega)]; exact R.1, fun k hk => ?_⟩
  rw [h1, q _ (by omega)]
  exact R.2 k hk
def FrO (o : Nat) (h h' : Hp) : Prop := ∀ a, ¬ (o + 1 ≤ a ∧ a ≤ o + 8) → h' a = h a
theorem FrO.rf {o : Nat} {h : Hp} : FrO o h h := fun _ _ => rfl
theorem FrO.tr {o : Nat} {h h1 h2 : Hp} (a : FrO o h h1) (b : FrO o h1 h2) : FrO o h h2 := fun x hx => (b x hx).trans (a x hx)
theorem row_hup {h : Hp} {i k : Nat} {x : Int} {a : Nat} (q : ¬ a = i) : hup h i k x a = h a := by
  funext b
  exact hup_far (by omega)
theorem row_hsh {h : Hp} {i lo hi d a : Nat} (q : ¬ a = i) : hshift h i lo hi d a = h a := by
  funext b
  unfold hshift
  rw [if_neg (by omega)]
theorem row_rem {h : Hp} {r i a : Nat} (q1 : ¬ a = r) (q2 : ¬ a = r + 1) : hrem h r i a = h a := by
  unfold hrem
  rw [row_hup q1, row_hsh q2]
theorem rem_n {h : Hp} {r i : Nat} : hrem h r i r 1 = h r 1 - 1 := by
  unfold hrem
  rw [hup_same]
theorem rem_c {h : Hp} {r i k : Nat} : hrem h r i (r + 1) k = if 6 * i ≤ k ∧ k < 66 then h (r + 1) (k + 6) else h (r + 1) k := by
  unfold hrem
  rw [hup_far (by omega)]
  unfold hshift
  by_cases c : 6 * i ≤ k ∧ k < 66
  · rw [if_pos ⟨rfl, c⟩, if_pos c]
  · rw [if_neg (fun q => c q.2), if_neg c]
theorem ugo_far {s : Rw} {u k : Nat} (hn : s 15 ≤ 12) (k1 : k ≠ 15) (k2 : k < 18 ∨ 78 ≤ k) : ugo s u k = s k := by
  unfold ugo
  rw [if_neg (by omega), if_neg (by omega)]
theorem ugo_c {s : Rw} {u k : Nat} (q : k ≠ 15) : ugo s u k = if 18 + 5 * u ≤ k ∧ k < 18 + 5 * (s 15 - 1).toNat then s (k + 5) else s k := by
  unfold ugo
  rw [if_neg q]
theorem cgo_c {s : Rw} {u k : Nat} (q : k ≠ 16) : cgo s u k = if 78 + 6 * u ≤ k ∧ k < 78 + 6 * (s 16 - 1).toNat then s (k + 6) else s k := by
  unfold cgo
  rw [if_neg q]
theorem cgo_far {s : Rw} {u k : Nat} (hn : s 16 ≤ 12) (k1 : k ≠ 16) (k2 : k < 78 ∨ 150 ≤ k) : cgo s u k = s k := by
  unfold cgo
  rw [if_neg (by omega), if_neg (by omega)]
theorem c_remU {h : Hp} {o : Nat} {s : Rw} {u : Int} (R : SR h o s) (hV : Vn s) (h0 : 0 ≤ u) (h1 : u < s 15) : ∃ h', f_X2_remove (o + 1) u h = some (0, h') ∧ SR h' o (ugo s u.toNat) ∧ FrO o h h' := by
  obtain ⟨r1, r2, r3, r4, r5⟩ := R
  obtain ⟨v1, v2, v3⟩ := hV
  refine ⟨_, p_remove (by rw [r1.1]; exact v1.2) h0 (by rw [r1.1]; exact h1), ⟨?_, ?_, ?_, ?_, ?_⟩, ?_⟩
  · refine ⟨by rw [rem_n, r1.1]; unfold ugo; rw [if_pos rfl], fun i c hi hc => ?_⟩
    have e15 : ugo s u.toNat 15 = s 15 - 1 := by unfold ugo; rw [if_pos rfl]
    rw [e15] at hi
    rw [rem_c, ugo_c (by omega)]
    by_cases c1 : u.toNat ≤ i
    · rw [if_pos (by omega), if_pos (by omega), show 6 * i + c + 6 = 6 * (i + 1) + c by omega, show 18 + 5 * i + c + 5 = 18 + 5 * (i + 1) + c by omega]
      exact r1.2 (i + 1) c (by omega) hc
    · rw [if_neg (by omega), if_neg (by omega)]
      exact r1.2 i c (by omega) hc
  · exact r2.congr (by rw [row_rem (by omega) (by omega)]) (row_rem (by omega) (by omega)) (ugo_far v1.2 (by decide) (by omega)) v2.2 (fun k q1 q2 => ugo_far v1.2 (by omega) (by omega))
  · exact r3.congr (by rw [row_rem (by omega) (by omega)]) (row_rem (by omega) (by omega)) (ugo_far v1.2 (by decide) (by omega)) v3.2 (fun k q1 q2 => ugo_far v1.2 (by omega) (by omega))
  · exact r4.congr (row_rem (by omega) (by omega)) (fun k q1 q2 => ugo_far v1.2 (by omega) (by omega))
  · exact r5.congr (row_rem (by omega) (by omega)) (fun k q1 => ugo_far v1.2 (by omega) (by omega))
  · intro a ha
    exact row_rem (by omega) (by omega)
theorem c_remC {h : Hp} {o : Nat} {s : Rw} {u : Int} (R : SR h o s) (hV : Vn s) (h0 : 0 ≤ u) (h1 : u < s 16) : ∃ h', f_X2_remove (o + 3) u h = some (0, h') ∧ SR h' o (cgo s u.toNat) ∧ FrO o h h' := by
  obtain ⟨r1, r2, r3, r4, r5⟩ := R
  obtain ⟨v1, v2, v3⟩ := hV
  refine ⟨_, p_remove (by rw [r2.1]; exact v2.2) h0 (by rw [r2.1]; exact h1), ⟨?_, ?_, ?_, ?_, ?_⟩, ?_⟩
  · exact r1.congr (by rw [row_rem (by omega) (by omega)]) (row_rem (by omega) (by omega)) (cgo_far v2.2 (by decide) (by omega)) v1.2 (fun k q1 q2 => cgo_far v2.2 (by omega) (by omega))
  · refine ⟨by rw [rem_n, r2.1]; unfold cgo; rw [if_pos rfl], fun i c hi hc => ?_⟩
    have e16 : cgo s u.toNat 16 = s 16 - 1 := by unfold cgo; rw [if_pos rfl]
    rw [e16] at hi
    rw [rem_c, cgo_c (by omega)]
    by_cases c1 : u.toNat ≤ i
    · rw [if_pos (by omega), if_pos (by omega), show 6 * i + c + 6 = 6 * (i + 1) + c by omega, show 78 + 6 * i + c + 6 = 78 + 6 * (i + 1) + c by omega]
      exact r2.2 (i + 1) c (by omega) hc
    · rw [if_neg (by omega), if_neg (by omega)]
      exact r2.2 i c (by omega) hc
  · exact r3.congr (by rw [row_rem (by omega) (by omega)]) (row_rem (by omega) (by omega)) (cgo_far v2.2 (by decide) (by omega)) v3.2 (fun k q1 q2 => cgo_far v2.2 (by omega) (by omega))
  · exact r4.congr (row_rem (by omega) (by omega)) (fun k q1 q2 => cgo_far v2.2 (by omega) (by omega))
  · exact r5.congr (row_rem (by omega) (by omega)) (fun k q1 => cgo_far v2.2 (by omega) (by omega))
  · intro a ha
    exact row_rem (by omega) (by omega)
/-- a sum grows: those that count() tells under 0 and 5 to 11 -/
theorem c_add0 {h : Hp} {o : Nat} {s : Rw} {x : Int} (R : SR h o s) (hV : Vn s) : ∃ h', f_X1_addTo o 0 x h = some (0, h') ∧ SR h' o (gup s 0 (wr (s 0 + x))) ∧ FrO o h h' := by
  obtain ⟨r1, r2, r3, r4, r5⟩ := R
  obtain ⟨v1, v2, v3⟩ := hV
  refine ⟨_, p_addTo (by omega) (by omega), ⟨?_, ?_, ?_, ?_, ?_⟩, ?_⟩
  · exact r1.congr (by rw [row_hup (by omega)]) (row_hup (by omega)) (gup_far (by omega)) v1.2 (fun k q1 q2 => gup_far (by omega))
  · exact r2.congr (by rw [row_hup (by omega)]) (row_hup (by omega)) (gup_far (by omega)) v2.2 (fun k q1 q2 => gup_far (by omega))
  · exact r3.congr (by rw [row_hup (by omega)]) (row_hup (by omega)) (gup_far (by omega)) v3.2 (fun k q1 q2 => gup_far (by omega))
  · exact r4.congr (row_hup (by omega)) (fun k q1 q2 => gup_far (by omega))
  · refine ⟨?_, fun k hk => ?_⟩
    · rw [show Int.toNat 0 = 0 from rfl, hup_same, gup_same, r5.1]
    · rw [hup_far (by simp only [Int.reduceToNat]; omega), gup_far (by omega)]
      exact r5.2 k hk
  · intro a ha
    exact row_hup (by omega)
theorem c_add {h : Hp} {o : Nat} {s : Rw} {k x : Int} (R : SR h o s) (hV : Vn s) (h0 : 5 ≤ k) (h1 : k < 12) : ∃ h', f_X1_addTo o k x h = some (0, h') ∧ SR h' o (gup s (k.toNat + 3) (wr (s (k.toNat + 3) + x))) ∧ FrO o h h' := by
  obtain ⟨r1, r2, r3, r4, r5⟩ := R
  obtain ⟨v1, v2, v3⟩ := hV
  refine ⟨_, p_addTo (by omega) (by omega), ⟨?_, ?_, ?_, ?_, ?_⟩, ?_⟩
  · exact r1.congr (by rw [row_hup (by omega)]) (row_hup (by omega)) (gup_far (by omega)) v1.2 (fun k q1 q2 => gup_far (by omega))
  · exact r2.congr (by rw [row_hup (by omega)]) (row_hup (by omega)) (gup_far (by omega)) v2.2 (fun k q1 q2 => gup_far (by omega))
  · exact r3.congr (by rw [row_hup (by omega)]) (row_hup (by omega)) (gup_far (by omega)) v3.2 (fun k q1 q2 => gup_far (by omega))
  · exact r4.congr (row_hup (by omega)) (fun k q1 q2 => gup_far (by omega))
  · refine ⟨?_, fun j hj => ?_⟩
    · rw [hup_far (by omega), gup_far (by omega)]
      exact r5.1
    · by_cases c : 5 + j = k.toNat
      · rw [hup_eq ⟨rfl, c⟩, gup_eq (by omega)]
        have := r5.2 j hj
        rw [← c, this, show 5 + j + 3 = 8 + j by omega]
      · rw [hup_far (by omega), gup_far (by omega)]
        exact r5.2 j hj
  · intro a ha
    exact row_hup (by omega)
end Office1

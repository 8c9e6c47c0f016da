/-! the pure part: the class's book and its weeks -/
section Office2
theorem wr1_far {s : Rw} {x y z : Int} {k : Nat} (h0 : 0 ≤ s 17) (k1 : k ≠ 13) (k2 : k ≠ 17) (k3 : k < 150) : wr1 s x y z k = s k := by
  unfold wr1
  simp (disch := omega) only [if_neg]
theorem wsh_far {s : Rw} {k : Nat} (k1 : k ≠ 17) (k2 : k < 150) : wsh s k = s k := by
  unfold wsh
  rw [if_neg k1, if_neg (by omega)]
theorem c_wr1 {h : Hp} {o : Nat} {s : Rw} {x y z : Int} (R : SR h o s) (hV : Vn s) (h9 : s 17 ≤ 9) : ∃ h', f_X1_enter_J9 o x y z h = some (0, h') ∧ SR h' o (wr1 s x y z) ∧ FrO o h h' := by
  obtain ⟨r1, r2, r3, r4, r5⟩ := R
  obtain ⟨v1, v2, v3⟩ := hV
  unfold f_X1_enter_J9
  rw [p_sum (by omega) (by omega), bd_s, p_append (by rw [r3.1]; exact v3.1) (by rw [r3.1]; omega), bd_s, p_addTo (by omega) (by omega), bd_s]
  have e8 : ∀ (g : Hp), (hup (hup (hup (hup (hup (hup (hup g (o + 5 + 1) (h (o + 5) 1 * 6).toNat (h (o + 8) (Int.toNat 0))) (o + 5 + 1) (h (o + 5) 1 * 6 + 1).toNat x) (o + 5 + 1) (h (o + 5) 1 * 6 + 2).toNat y) (o + 5 + 1) (h (o + 5) 1 * 6 + 3).toNat z) (o + 5 + 1) (h (o + 5) 1 * 6 + 4).toNat 0) (o + 5 + 1) (h (o + 5) 1 * 6 + 5).toNat 0) (o + 5) 1 (h (o + 5) 1 + 1)) (o + 8) = g (o + 8) := fun g => by
    rw [row_hup (by omega), row_hup (by omega), row_hup (by omega), row_hup (by omega), row_hup (by omega), row_hup (by omega), row_hup (by omega)]
  have far : ∀ a, ¬ a = o + 8 → ¬ a = o + 5 → ¬ a = o + 5 + 1 → (hup (hup (hup (hup (hup (hup (hup (hup h (o + 5 + 1) (h (o + 5) 1 * 6).toNat (h (o + 8) (Int.toNat 0))) (o + 5 + 1) (h (o + 5) 1 * 6 + 1).toNat x) (o + 5 + 1) (h (o + 5) 1 * 6 + 2).toNat y) (o + 5 + 1) (h (o + 5) 1 * 6 + 3).toNat z) (o + 5 + 1) (h (o + 5) 1 * 6 + 4).toNat 0) (o + 5 + 1) (h (o + 5) 1 * 6 + 5).toNat 0) (o + 5) 1 (h (o + 5) 1 + 1)) (o + 8) (Int.toNat 10) (wr (h (o + 8) (Int.toNat 10) + z))) a = h a := fun a q1 q2 q3 => by
    rw [row_hup q1, row_hup q2, row_hup q3, row_hup q3, row_hup q3, row_hup q3, row_hup q3, row_hup q3]
  rw [e8]
  refine ⟨_, rfl, ⟨?_, ?_, ?_, ?_, ?_⟩, ?_⟩
  · exact r1.congr (by rw [far _ (by omega) (by omega) (by omega)]) (far _ (by omega) (by omega) (by omega)) (wr1_far v3.1 (by decide) (by decide) (by decide)) v1.2 (fun k q1 q2 => wr1_far v3.1 (by omega) (by omega) (by omega))
  · exact r2.congr (by rw [far _ (by omega) (by omega) (by omega)]) (far _ (by omega) (by omega) (by omega)) (wr1_far v3.1 (by decide) (by decide) (by decide)) v2.2 (fun k q1 q2 => wr1_far v3.1 (by omega) (by omega) (by omega))
  · have e17 : wr1 s x y z 17 = s 17 + 1 := by
      unfold wr1
      rw [if_neg (by decide), if_pos rfl]
    refine ⟨?_, fun i c hi hc => ?_⟩
    · rw [row_hup (by omega), hup_same, e17, r3.1]
    · rw [e17] at hi
      rw [row_hup (by omega), row_hup (by omega), r3.1]
      by_cases ci : (i : Int) = s 17
      · have hs0 : h (o + 8) (Int.toNat 0) = s 0 := r5.1
        rcases (show c = 0 ∨ c = 1 ∨ c = 2 ∨ c = 3 by omega) with rfl | rfl | rfl | rfl
        · rw [hup_far (by omega), hup_far (by omega), hup_far (by omega), hup_far (by omega), hup_far (by omega), hup_eq ⟨rfl, by omega⟩, hs0]
          unfold wr1
          rw [if_neg (by omega), if_neg (by omega), if_pos (by omega)]
        · rw [hup_far (by omega), hup_far (by omega), hup_far (by omega), hup_far (by omega), hup_eq ⟨rfl, by omega⟩]
          unfold wr1
          rw [if_neg (by omega), if_neg (by omega), if_neg (by omega), if_pos (by omega)]
        · rw [hup_far (by omega), hup_far (by omega), hup_far (by omega), hup_eq ⟨rfl, by omega⟩]
          unfold wr1
          rw [if_neg (by omega), if_neg (by omega), if_neg (by omega), if_neg (by omega), if_pos (by omega)]
        · rw [hup_far (by omega), hup_far (by omega), hup_eq ⟨rfl, by omega⟩]
          unfold wr1
          rw [if_neg (by omega), if_neg (by omega), if_neg (by omega), if_neg (by omega), if_neg (by omega), if_pos (by omega)]
      · rw [hup_far (by omega), hup_far (by omega), hup_far (by omega), hup_far (by omega), hup_far (by omega), hup_far (by omega)]
        unfold wr1
        rw [if_neg (by omega), if_neg (by omega), if_neg (by omega), if_neg (by omega), if_neg (by omega), if_neg (by omega)]
        exact r3.2 i c (by omega) hc
  · exact r4.congr (far _ (by omega) (by omega) (by omega)) (fun k q1 q2 => wr1_far v3.1 (by omega) (by omega) (by omega))
  · have f8 : ∀ k, ¬ k = 10 → hup (hup (hup (hup (hup (hup (hup (hup h (o + 5 + 1) (h (o + 5) 1 * 6).toNat (h (o + 8) (Int.toNat 0))) (o + 5 + 1) (h (o + 5) 1 * 6 + 1).toNat x) (o + 5 + 1) (h (o + 5) 1 * 6 + 2).toNat y) (o + 5 + 1) (h (o + 5) 1 * 6 + 3).toNat z) (o + 5 + 1) (h (o + 5) 1 * 6 + 4).toNat 0) (o + 5 + 1) (h (o + 5) 1 * 6 + 5).toNat 0) (o + 5) 1 (h (o + 5) 1 + 1)) (o + 8) (Int.toNat 10) (wr (h (o + 8) (Int.toNat 10) + z)) (o + 8) k = h (o + 8) k := fun k hk => by
      rw [hup_far (by simp only [Int.reduceToNat]; omega), e8]
    refine ⟨?_, fun k hk => ?_⟩
    · rw [f8 0 (by omega), wr1_far v3.1 (by decide) (by decide) (by decide)]
      exact r5.1
    · by_cases c5 : k = 5
      · subst c5
        rw [show (5 + 5 : Nat) = Int.toNat 10 from rfl, hup_same]
        unfold wr1
        rw [if_pos rfl, show Int.toNat 10 = 5 + 5 from rfl, r5.2 5 (by omega)]
      · rw [f8 _ (by omega), wr1_far v3.1 (by omega) (by omega) (by omega)]
        exact r5.2 k hk
  · intro a ha
    exact far a (by omega) (by omega) (by omega)
theorem c_wsh {h : Hp} {o : Nat} {s : Rw} (R : SR h o s) (hV : Vn s) (h10 : s 17 = 10) : ∃ h', f_X2_remove (o + 5) 0 h = some (0, h') ∧ SR h' o (wsh s) ∧ FrO o h h' := by
  obtain ⟨r1, r2, r3, r4, r5⟩ := R
  obtain ⟨v1, v2, v3⟩ := hV
  refine ⟨_, p_remove (by rw [r3.1]; omega) (by omega) (by rw [r3.1]; omega), ⟨?_, ?_, ?_, ?_, ?_⟩, ?_⟩
  · exact r1.congr (by rw [row_rem (by omega) (by omega)]) (row_rem (by omega) (by omega)) (wsh_far (by decide) (by decide)) v1.2 (fun k q1 q2 => wsh_far (by omega) (by omega))
  · exact r2.congr (by rw [row_rem (by omega) (by omega)]) (row_rem (by omega) (by omega)) (wsh_far (by decide) (by decide)) v2.2 (fun k q1 q2 => wsh_far (by omega) (by omega))
  · refine ⟨by rw [rem_n, r3.1, wsh_17], fun i c hi hc => ?_⟩
    rw [wsh_17] at hi
    rw [rem_c, if_pos (by simp only [Int.reduceToNat]; omega)]
    unfold wsh
    rw [if_neg (by omega), if_pos (by omega), show 6 * i + c + 6 = 6 * (i + 1) + c by omega, show 150 + 4 * i + c + 4 = 150 + 4 * (i + 1) + c by omega]
    exact r3.2 (i + 1) c (by omega) hc
  · exact r4.congr (row_rem (by omega) (by omega)) (fun k q1 q2 => wsh_far (by omega) (by omega))
  · exact r5.congr (row_rem (by omega) (by omega)) (fun k q1 => wsh_far (by omega) (by omega))
  · intro a ha
    exact row_rem (by omega) (by omega)
theorem wsh_V {s : Rw} (hV : Vn s) (h10 : s 17 = 10) : Vn (wsh s) := by
  obtain ⟨v1, v2, v3⟩ := hV
  unfold Vn
  rw [wsh_far (k := 15) (by decide) (by decide), wsh_far (k := 16) (by decide) (by decide), wsh_17]
  exact ⟨v1, v2, by omega, by omega⟩
theorem c_enter {h : Hp} {o : Nat} {s : Rw} {x y z : Int} (R : SR h o s) (hV : Vn s) : ∃ h', f_X1_enter o x y z h = some (0, h') ∧ SR h' o (wri s x y z) ∧ FrO o h h' := by
  unfold f_X1_enter wri
  have e := R.2.2.1.1
  by_cases c : s 17 = 10
  · rw [if_neg (by omega), if_pos c]
    obtain ⟨h1, q1, q2, q3⟩ := c_wsh R hV c
    obtain ⟨h2, w1, w2, w3⟩ := c_wr1 (x := x) (y := y) (z := z) q2 (wsh_V hV c) (by rw [wsh_17]; omega)
    refine ⟨h2, ?_, w2, q3.tr w3⟩
    rw [q1, bd_s, w1]
  · have := hV.2.2
    rw [if_pos (by omega), if_neg c]
    exact c_wr1 R hV (by omega)
/-- a week older -/
noncomputable def hgr (h : Hp) (r p : Nat) : Hp := fun a k => if a = r + 1 ∧ k < 6 * p ∧ k % 6 = 4 then wr (h (r + 1) k + 1) else h a k
theorem p_grow_L {o r : Nat} : ∀ (m n : Nat) (h : Hp) (p : Int), m < n → 0 ≤ p → h r 1 ≤ 12 → p + m = h r 1 → f_X1_growOlder_L2 o r n p (hgr h r p.toNat) = some (0, hgr h r (h r 1).toNat) := by
  intro m
  induction m with
  | zero =>
    intro n h p hn hp0 h12 hp
    obtain ⟨n, rfl⟩ : ∃ n', n = n' + 1 := ⟨n - 1, by omega⟩
    rw [f_X1_growOlder_L2_s]
    have e1 : hgr h r p.toNat r 1 = h r 1 := by
      unfold hgr
      rw [if_neg (by omega)]
    rw [e1, if_pos (by omega), show p.toNat = (h r 1).toNat by omega]
  | succ m ih =>
    intro n h p hn hp0 h12 hp
    obtain ⟨n, rfl⟩ : ∃ n', n = n' + 1 := ⟨n - 1, by omega⟩
    rw [f_X1_growOlder_L2_s]
    have e1 : hgr h r p.toNat r 1 = h r 1 := by
      unfold hgr
      rw [if_neg (by omega)]
    have e2 : hgr h r p.toNat (r + 1) (p * 6 + 4).toNat = h (r + 1) (p * 6 + 4).toNat := by
      unfold hgr
      rw [if_neg (by omega)]
    rw [e1, if_neg (by omega), p_cell (by rw [e1]; exact h12), bd_s, e1, if_pos (by omega), e2, p_put (by rw [e1]; exact h12) hp0 (by rw [e1]; omega) (by omega) (by omega), bd_s, wr_id (by omega) (by omega)]
    have e3 : hup (hgr h r p.toNat) (r + 1) (p * 6 + 4).toNat (wr (h (r + 1) (p * 6 + 4).toNat + 1)) = hgr h r (p + 1).toNat := by
      funext a k
      unfold hup hgr
      by_cases c1 : a = r + 1 ∧ k = (p * 6 + 4).toNat
      · rw [if_pos c1, if_pos (by omega), c1.2]
      · rw [if_neg c1]
        by_cases c2 : a = r + 1 ∧ k < 6 * p.toNat ∧ k % 6 = 4
        · rw [if_pos c2, if_pos (by omega)]
        · rw [if_neg c2, if_neg (by omega)]
    rw [e3]
    exact ih n h (p + 1) (by omega) (by omega) h12 (by omega)
theorem hgr_0 (h : Hp) (r : Nat) : hgr h r 0 = h := by
  funext a k
  unfold hgr
  rw [if_neg (by omega)]
theorem p_grow {o r : Nat} {h : Hp} (h0 : 0 ≤ h r 1) (h12 : h r 1 ≤ 12) : f_X1_growOlder o r h = some (0, hgr h r (h r 1).toNat) := by
  unfold f_X1_growOlder
  have := p_grow_L (o := o) (r := r) (h r 1).toNat fu h 0 (by have := fu_gt; omega) (by omega) h12 (by omega)
  rw [show Int.toNat 0 = 0 from rfl, hgr_0] at this
  exact this
theorem row_hgr {h : Hp} {r p a : Nat} (q : ¬ a = r + 1) : hgr h r p a = h a := by
  funext k
  unfold hgr
  rw [if_neg (fun w => q w.1)]
/-- all are a week older -/
theorem c_grow {h : Hp} {o : Nat} {s : Rw} (R : SR h o s) (hV : Vn s) : ∃ h1 h2, f_X1_growOlder o (o + 1) h = some (0, h1) ∧ f_X1_growOlder o (o + 3) h1 = some (0, h2) ∧ SR h2 o (agp s 12) ∧ FrO o h h2 := by
  obtain ⟨r1, r2, r3, r4, r5⟩ := R
  obtain ⟨v1, v2, v3⟩ := hV
  have e3 : hgr h (o + 1) (h (o + 1) 1).toNat (o + 3) 1 = h (o + 3) 1 := by rw [row_hgr (by omega)]
  refine ⟨_, _, p_grow (by rw [r1.1]; exact v1.1) (by rw [r1.1]; exact v1.2), p_grow (by rw [e3, r2.1]; exact v2.1) (by rw [e3, r2.1]; exact v2.2), ⟨?_, ?_, ?_, ?_, ?_⟩, ?_⟩
  · refine ⟨?_, fun i c hi hc => ?_⟩
    · rw [row_hgr (by omega), row_hgr (by omega), agp_c _ _ _ (by omega)]
      exact r1.1
    · rw [agp_c _ _ _ (by omega)] at hi
      rw [row_hgr (by omega)]
      unfold hgr agp
      rw [r1.1]
      by_cases c4 : c = 4
      · rw [if_pos (by omega), if_pos (by omega), r1.2 i c hi hc]
      · rw [if_neg (by omega), if_neg (by omega), if_neg (by omega)]
        exact r1.2 i c hi hc
  · refine ⟨?_, fun i c hi hc => ?_⟩
    · rw [row_hgr (by omega), row_hgr (by omega), agp_c _ _ _ (by omega)]
      exact r2.1
    · rw [agp_c _ _ _ (by omega)] at hi
      rw [e3]
      unfold agp
      rw [hgr, r2.1]
      have e4 : hgr h (o + 1) (h (o + 1) 1).toNat (o + 3 + 1) = h (o + 3 + 1) := row_hgr (by omega)
      rw [e4]
      by_cases c4 : c = 4
      · rw [if_pos (by omega), if_neg (by omega), if_pos (by omega), r2.2 i c hi hc]
      · rw [if_neg (by omega), if_neg (by omega), if_neg (by omega)]
        exact r2.2 i c hi hc
  · exact r3.congr (by rw [row_hgr (by omega), row_hgr (by omega)]) (by rw [row_hgr (by omega), row_hgr (by omega)]) (agp_c _ _ _ (by omega)) v3.2 (fun k q1 q2 => by unfold agp; rw [if_neg (by omega), if_neg (by omega)])
  · exact r4.congr (by rw [row_hgr (by omega), row_hgr (by omega)]) (fun k q1 q2 => agp_c _ _ _ (by omega))
  · exact r5.congr (by rw [row_hgr (by omega), row_hgr (by omega)]) (fun k q1 => agp_c _ _ _ (by omega))
  · intro a ha
    rw [row_hgr (by omega), row_hgr (by omega)]
end Office2

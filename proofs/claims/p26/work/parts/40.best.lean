/-! the pure part: the best free pair -/
section Best1
/-- pair k = 12 u + c suits, and is free -/
abbrev inP (s : Rw) (k : Nat) : Prop := ((k / 12 : Nat) : Int) < s 15 ∧ ((k % 12 : Nat) : Int) < s 16
abbrev suP (s : Rw) (k : Nat) : Prop := inP s k ∧ sut s (k / 12) (k % 12)
abbrev elP (s U C : Rw) (k : Nat) : Prop := suP s k ∧ U (k / 12) = -1 ∧ C (k % 12) = -1
def ptP (s : Rw) (k : Nat) : Int := pts s (k / 12) (k % 12)
/-- the better of a pair and the one found before -/
def ahd (s : Rw) (k : Nat) (b : Int) : Int := if b = -1 then (k : Int) else if ptP s k ≤ ptP s b.toNat then b else (k : Int)
/-- the best of the first n pairs -/
def bes (s U C : Rw) : Nat → Int
  | 0 => -1
  | n + 1 => if elP s U C n then ahd s n (bes s U C n) else bes s U C n
theorem bes_b (s U C : Rw) : ∀ n : Nat, bes s U C n = -1 ∨ (0 ≤ bes s U C n ∧ bes s U C n < n ∧ elP s U C (bes s U C n).toNat) := by
  intro n
  induction n with
  | zero => exact Or.inl rfl
  | succ n ih =>
    unfold bes
    by_cases c : elP s U C n
    · rw [if_pos c]
      unfold ahd
      have key : (0 : Int) ≤ (n : Int) ∧ (n : Int) < ((n + 1 : Nat) : Int) ∧ elP s U C ((n : Int)).toNat := ⟨by omega, by omega, by rw [show ((n : Int)).toNat = n by omega]; exact c⟩
      by_cases c1 : bes s U C n = -1
      · rw [if_pos c1]
        exact Or.inr key
      · rw [if_neg c1]
        by_cases c2 : ptP s n ≤ ptP s (bes s U C n).toNat
        · rw [if_pos c2]
          rcases ih with ih | ih
          · exact absurd ih c1
          · exact Or.inr ⟨ih.1, by omega, ih.2.2⟩
        · rw [if_neg c2]
          exact Or.inr key
    · rw [if_neg c]
      rcases ih with ih | ih
      · exact Or.inl ih
      · exact Or.inr ⟨ih.1, by omega, ih.2.2⟩
theorem bes_skip {s U C : Rw} {a : Nat} : ∀ m : Nat, (∀ k, a ≤ k → k < a + m → ¬ elP s U C k) → bes s U C (a + m) = bes s U C a := by
  intro m
  induction m with
  | zero => intro _; rfl
  | succ m ih =>
    intro q
    rw [show a + (m + 1) = (a + m) + 1 by omega]
    show (if elP s U C (a + m) then ahd s (a + m) (bes s U C (a + m)) else bes s U C (a + m)) = _
    rw [if_neg (q _ (by omega) (by omega))]
    exact ih (fun k k1 k2 => q k k1 (by omega))
/-- the class holds a matching -/
def MC (h : Hp) (U C : Rw) : Prop := ∀ i : Nat, i < 12 → h 25 i = U i ∧ h 26 i = C i
theorem p_umM {x : Int} {h : Hp} (h0 : 0 ≤ x ∧ x < 12) : f_X0_umbrellaMatched x h = some (h 26 x.toNat, h) := by
  unfold f_X0_umbrellaMatched
  rw [if_neg (by omega), if_neg (by omega), if_pos (by unfold inb; omega)]
theorem p_clM {x : Int} {h : Hp} (h0 : 0 ≤ x ∧ x < 12) : f_X0_claimMatched x h = some (h 25 x.toNat, h) := by
  unfold f_X0_claimMatched
  rw [if_neg (by omega), if_neg (by omega), if_pos (by unfold inb; omega)]
theorem dv {u c : Nat} (hc : c < 12) : (12 * u + c) / 12 = u ∧ (12 * u + c) % 12 = c := by omega
theorem c_suits {s : Rw} {u c : Nat} {h : Hp} (hV : Vn s) (w : WA s h) (hu : (u : Int) < s 15) (hc : (c : Int) < s 16) : f_X0_suits (u : Int) (c : Int) h = some (if sut s u c then 1 else 0, h) := by
  obtain ⟨w7, w8, w⟩ := w
  have v1 := hV.1
  have v2 := hV.2.1
  unfold f_X0_suits
  rw [p_pair (by omega) (by omega) (by omega) (by omega), bd_s, if_neg (by omega), if_neg (by omega), if_pos (by unfold inb; omega), show (((12 * u + c : Nat) : Int)).toNat = 12 * u + c by omega, (w u c hu hc (by omega)).2.2]
  by_cases q : sut s u c
  · rw [if_pos q, if_neg (by omega)]
  · rw [if_neg q, if_pos rfl]
theorem c_ahead {s : Rw} {k : Nat} {b : Int} {h : Hp} (hV : Vn s) (w : WA s h) (hk : inP s k) (hb : b = -1 ∨ (0 ≤ b ∧ b < k ∧ inP s b.toNat)) : f_X0_aheadOf (k : Int) b h = some (ahd s k b, h) := by
  obtain ⟨w7, w8, w⟩ := w
  have v1 := hV.1
  have v2 := hV.2.1
  have ek : ∀ k, inP s k → h 21 k = ptP s k := fun k hk => by
    have := (w (k / 12) (k % 12) hk.1 hk.2 (by have := hk.1; omega)).2.1
    rw [show 12 * (k / 12) + k % 12 = k by omega] at this
    exact this
  have k144 : k < 144 := by
    have := hk.1
    omega
  unfold f_X0_aheadOf ahd
  rw [if_neg (by omega), if_pos (by omega)]
  rcases hb with rfl | ⟨b0, b1, b2⟩
  · rw [if_pos (by omega), if_pos rfl]
  · rw [if_neg (by omega), if_pos (by omega), if_neg (show ¬ b = -1 by omega), show ((k : Int)).toNat = k by omega, ek k hk, ek _ b2, if_pos (by unfold inb; omega), if_pos (by unfold inb; omega)]
    by_cases c1 : ptP s k = ptP s b.toNat
    · rw [if_pos c1, p_min, bd_s, if_neg (by omega), if_pos (by omega)]
    · rw [if_neg c1, if_pos (by unfold inb; omega), if_pos (by unfold inb; omega)]
      by_cases c2 : ptP s k ≤ ptP s b.toNat
      · rw [if_pos c2, if_pos c2]
      · rw [if_neg c2, if_neg c2]
theorem c_best1_L {s U C : Rw} {u : Nat} {h : Hp} {c40 : Int → Hp → Option (Int × Hp)} (hV : Vn s) (w : WA s h) (m : MC h U C) (hu : (u : Int) < s 15) (hU : U u = -1) : ∀ (m n : Nat) (c : Nat), m < n → (c : Int) + m = s 16 →
    f_X0_bestFreePair_L16 (u : Int) c40 n (bes s U C (12 * u + c)) (c : Int) h = c40 (bes s U C (12 * u + 12)) h := by
  intro q
  induction q with
  | zero =>
    intro n c hn hi
    obtain ⟨n, rfl⟩ : ∃ n', n = n' + 1 := ⟨n - 1, by omega⟩
    have v2 := hV.2.1
    rw [f_X0_bestFreePair_L16_s, w.2.1, if_pos (by omega)]
    congr 1
    rw [show 12 * u + 12 = (12 * u + c) + (12 - c) by omega]
    refine (bes_skip (12 - c) (fun k k1 k2 e => ?_)).symm
    have := e.1.1.2
    have : k % 12 = k - 12 * u := by omega
    omega
  | succ q ih =>
    intro n c hn hi
    obtain ⟨n, rfl⟩ : ∃ n', n = n' + 1 := ⟨n - 1, by omega⟩
    have v1 := hV.1
    have v2 := hV.2.1
    have d := dv (u := u) (c := c) (by omega)
    have k := ih n (c + 1) (by omega) (by omega)
    rw [show ((c + 1 : Nat) : Int) = (c : Int) + 1 by omega, show bes s U C (12 * u + (c + 1)) = if elP s U C (12 * u + c) then ahd s (12 * u + c) (bes s U C (12 * u + c)) else bes s U C (12 * u + c) from rfl] at k
    rw [f_X0_bestFreePair_L16_s, w.2.1, if_neg (by omega), p_umM (by omega), bd_s, show ((c : Int)).toNat = c by omega, (m c (by omega)).2, wr_id (z := (c : Int) + 1) (by omega) (by omega)]
    by_cases c1 : C c = -1
    · rw [if_neg (by omega), c_suits hV w hu (by omega), bd_s]
      by_cases c2 : sut s u c
      · have el : elP s U C (12 * u + c) := by
          refine ⟨⟨⟨?_, ?_⟩, ?_⟩, ?_, ?_⟩
          · rw [d.1]; exact hu
          · rw [d.2]; omega
          · rw [d.1, d.2]; exact c2
          · rw [d.1]; exact hU
          · rw [d.2]; exact c1
        rw [if_pos el] at k
        have w7 := w.1
        have w8 := w.2.1
        rw [if_pos c2, if_neg (by omega), p_pair (by omega) (by omega) (by omega) (by omega), bd_s, c_ahead hV w el.1.1 (by
          rcases bes_b s U C (12 * u + c) with b | b
          · exact Or.inl b
          · exact Or.inr ⟨b.1, b.2.1, b.2.2.1.1⟩), bd_s]
        exact k
      · rw [if_neg (fun e : elP s U C (12 * u + c) => c2 (by have := e.1.2; rw [d.1, d.2] at this; exact this))] at k
        rw [if_neg c2, if_pos rfl]
        exact k
    · rw [if_neg (fun e : elP s U C (12 * u + c) => c1 (by have := e.2.2; rw [d.2] at this; exact this))] at k
      rw [if_pos c1]
      exact k
theorem c_best2_L {s U C : Rw} {h : Hp} (hV : Vn s) (w : WA s h) (m : MC h U C) : ∀ (q n : Nat) (u : Nat), q < n → (u : Int) + q = s 15 →
    f_X0_bestFreePair_L4 n (bes s U C (12 * u)) (u : Int) h = some (bes s U C 144, h) := by
  intro q
  induction q with
  | zero =>
    intro n u hn hi
    obtain ⟨n, rfl⟩ : ∃ n', n = n' + 1 := ⟨n - 1, by omega⟩
    have v1 := hV.1
    rw [f_X0_bestFreePair_L4_s, w.1, if_pos (by omega)]
    congr 2
    rw [show 144 = 12 * u + (144 - 12 * u) by omega]
    refine (bes_skip (144 - 12 * u) (fun k k1 k2 e => ?_)).symm
    have := e.1.1.1
    omega
  | succ q ih =>
    intro n u hn hi
    obtain ⟨n, rfl⟩ : ∃ n', n = n' + 1 := ⟨n - 1, by omega⟩
    have v1 := hV.1
    have v2 := hV.2.1
    have := fu_gt
    have k := ih n (u + 1) (by omega) (by omega)
    rw [show ((u + 1 : Nat) : Int) = (u : Int) + 1 by omega, show 12 * (u + 1) = 12 * u + 12 by omega] at k
    rw [f_X0_bestFreePair_L4_s, w.1, if_neg (by omega), p_clM (by omega), bd_s, show ((u : Int)).toNat = u by omega, (m u (by omega)).1, wr_id (z := (u : Int) + 1) (by omega) (by omega)]
    by_cases c1 : U u = -1
    · rw [if_pos c1]
      have b := c_best1_L (c40 := fun y6 h7 => f_X0_bestFreePair_L4 n y6 ((u : Int) + 1) h7) hV w m (by omega) c1 (s 16).toNat fu 0 (by omega) (by omega)
      rw [show ((0 : Nat) : Int) = 0 from rfl, Nat.add_zero] at b
      rw [b]
      exact k
    · rw [if_neg c1]
      rw [bes_skip 12 (fun k k1 k2 e => c1 (by have := e.2.1; rw [show k / 12 = u by omega] at this; exact this))] at k
      exact k
theorem c_best {s U C : Rw} {h : Hp} (hV : Vn s) (w : WA s h) (m : MC h U C) : f_X0_bestFreePair h = some (bes s U C 144, h) := by
  have v1 := hV.1
  have := fu_gt
  exact c_best2_L hV w m (s 15).toNat fu 0 (by omega) (by omega)
end Best1

/-! the pure part: points, misses, what suits: the numbers and the model -/
section Points1
/-- how many of the first n umbrellas tell so -/
def cn (s : Rw) (x : Nat) (v : Int) : Nat → Int
  | 0 => 0
  | n + 1 => cn s x v n + if s (18 + 5 * n + x) = v then 1 else 0
/-- how many of the first n details of a claim miss -/
def ms (s : Rw) (u c : Nat) : Nat → Int
  | 0 => 0
  | n + 1 => ms s u c n + if s (78 + 6 * c + n) = -1 ∨ s (78 + 6 * c + n) = s (18 + 5 * u + n) then 0 else 1
/-- the points of the first n details that fit -/
def ps (s : Rw) (u c : Nat) : Nat → Int
  | 0 => 0
  | n + 1 => ps s u c n + if s (78 + 6 * c + n) = s (18 + 5 * u + n) then 13 - cn s n (s (18 + 5 * u + n)) (s 15).toNat else 0
def mis (s : Rw) (u c : Nat) : Int := ms s u c 4
def pts (s : Rw) (u c : Nat) : Int := ps s u c 4 - s 2 * mis s u c - s 3 * s (78 + 6 * c + 5)
abbrev sut (s : Rw) (u c : Nat) : Prop := mis s u c ≤ s 1 ∧ s 4 ≤ pts s u c
theorem cn_b (s : Rw) (x : Nat) (v : Int) : ∀ n : Nat, 0 ≤ cn s x v n ∧ cn s x v n ≤ n := by
  intro n
  induction n with
  | zero => exact ⟨Int.le_refl 0, Int.le_refl 0⟩
  | succ n ih =>
    unfold cn
    split <;> omega
theorem ms_b (s : Rw) (u c : Nat) : ∀ n : Nat, 0 ≤ ms s u c n ∧ ms s u c n ≤ n := by
  intro n
  induction n with
  | zero => exact ⟨Int.le_refl 0, Int.le_refl 0⟩
  | succ n ih =>
    unfold ms
    split <;> omega
theorem ps_b {s : Rw} (u c : Nat) (hV : Vn s) : ∀ n : Nat, 0 ≤ ps s u c n ∧ ps s u c n ≤ 13 * n := by
  intro n
  induction n with
  | zero => exact ⟨Int.le_refl 0, Int.le_refl 0⟩
  | succ n ih =>
    have := cn_b s n (s (18 + 5 * u + n)) (s 15).toNat
    have v := hV.1
    unfold ps
    split <;> omega
theorem mul_b {a b m : Int} (a0 : 0 ≤ a) (a1 : a ≤ 20) (b0 : 0 ≤ b) (b1 : b ≤ m) : 0 ≤ a * b ∧ a * b ≤ 20 * m := by
  refine ⟨Int.mul_nonneg a0 b0, ?_⟩
  have h1 : a * b ≤ 20 * b := Int.mul_le_mul_of_nonneg_right a1 b0
  have h2 : 20 * b ≤ 20 * m := by omega
  omega
theorem p_many_L {b x v : Int} {h : Hp} (hb : 0 ≤ b ∧ b ≤ 1140) (hx : 0 ≤ x ∧ x ≤ 4) (hn : 0 ≤ gsl (h 77) b.toNat 15 ∧ gsl (h 77) b.toNat 15 ≤ 12) : ∀ (m n : Nat) (i : Nat), m < n → (i : Int) + m = gsl (h 77) b.toNat 15 →
    f_X5_many_L4 b x v n (cn (gsl (h 77) b.toNat) x.toNat v i) (i : Int) h = some (cn (gsl (h 77) b.toNat) x.toNat v (gsl (h 77) b.toNat 15).toNat, h) := by
  intro m
  induction m with
  | zero =>
    intro n i hn0 hi
    obtain ⟨n, rfl⟩ : ∃ n', n = n' + 1 := ⟨n - 1, by omega⟩
    rw [f_X5_many_L4_s, wr_id (z := b + 15) (by omega) (by omega), if_pos (by unfold inb; omega), rd_sl (h := h) hb.1 (by omega), show Int.toNat 15 = 15 from rfl, if_pos (by omega), show (gsl (h 77) b.toNat 15).toNat = i by omega]
  | succ m ih =>
    intro n i hn0 hi
    obtain ⟨n, rfl⟩ : ∃ n', n = n' + 1 := ⟨n - 1, by omega⟩
    have bd := cn_b (gsl (h 77) b.toNat) x.toNat v i
    rw [f_X5_many_L4_s, wr_id (z := b + 15) (by omega) (by omega), if_pos (by unfold inb; omega), rd_sl (h := h) hb.1 (by omega), show Int.toNat 15 = 15 from rfl, if_neg (by omega), p_uAt hb.1 hb.2 (by omega) (by omega), bd_s]
    rw [wr_id (z := b + 18 + 5 * (i : Int) + x) (by omega) (by omega), if_pos (by unfold inb; omega), show b + 18 + 5 * (i : Int) + x = b + (18 + 5 * (i : Int) + x) by omega, rd_sl (h := h) hb.1 (by omega), show (18 + 5 * (i : Int) + x).toNat = 18 + 5 * i + x.toNat by omega]
    unfold lv
    rw [wr_id (z := (i : Int) + 1) (by omega) (by omega), wr_id (z := cn (gsl (h 77) b.toNat) x.toNat v i + 0) (by omega) (by omega), wr_id (z := cn (gsl (h 77) b.toNat) x.toNat v i + 1) (by omega) (by omega)]
    have k := ih n (i + 1) (by omega) (by omega)
    rw [show ((i + 1 : Nat) : Int) = (i : Int) + 1 by omega] at k
    rw [show cn (gsl (h 77) b.toNat) x.toNat v (i + 1) = cn (gsl (h 77) b.toNat) x.toNat v i + if gsl (h 77) b.toNat (18 + 5 * i + x.toNat) = v then 1 else 0 from rfl] at k
    by_cases c : gsl (h 77) b.toNat (18 + 5 * i + x.toNat) = v
    · rw [if_pos c] at k
      rw [if_neg (by omega)]
      exact k
    · rw [if_neg c] at k
      rw [if_pos c]
      exact k
theorem p_many {b x v : Int} {h : Hp} (hb : 0 ≤ b ∧ b ≤ 1140) (hx : 0 ≤ x ∧ x ≤ 4) (hV : Vn (gsl (h 77) b.toNat)) : f_X5_many b x v h = some (cn (gsl (h 77) b.toNat) x.toNat v (gsl (h 77) b.toNat 15).toNat, h) := by
  have v1 := hV.1
  exact p_many_L hb hx v1 (gsl (h 77) b.toNat 15).toNat fu 0 (by have := fu_gt; omega) (by omega)
theorem p_misses_L {b u c : Int} {h : Hp} (hb : 0 ≤ b ∧ b ≤ 1140) (hu : 0 ≤ u ∧ u ≤ 11) (hc : 0 ≤ c ∧ c ≤ 11) : ∀ (m n : Nat) (i : Nat), m < n → i + m = 4 →
    f_X5_misses_L4 b u c n (ms (gsl (h 77) b.toNat) u.toNat c.toNat i) (i : Int) h = some (mis (gsl (h 77) b.toNat) u.toNat c.toNat, h) := by
  intro m
  induction m with
  | zero =>
    intro n i hn0 hi
    obtain ⟨n, rfl⟩ : ∃ n', n = n' + 1 := ⟨n - 1, by omega⟩
    obtain rfl : i = 4 := by omega
    rw [f_X5_misses_L4_s, if_pos (by omega)]
    rfl
  | succ m ih =>
    intro n i hn0 hi
    obtain ⟨n, rfl⟩ : ∃ n', n = n' + 1 := ⟨n - 1, by omega⟩
    have bd := ms_b (gsl (h 77) b.toNat) u.toNat c.toNat i
    rw [f_X5_misses_L4_s, if_neg (by omega), p_cAt hb.1 hb.2 (by omega) (by omega), bd_s]
    rw [wr_id (z := b + 78 + 6 * c + (i : Int)) (by omega) (by omega), if_pos (by unfold inb; omega), show b + 78 + 6 * c + (i : Int) = b + (78 + 6 * c + (i : Int)) by omega, rd_sl (h := h) hb.1 (by omega), show (78 + 6 * c + (i : Int)).toNat = 78 + 6 * c.toNat + i by omega]
    unfold lv
    dsimp only
    rw [wr_id (z := (i : Int) + 1) (by omega) (by omega), wr_id (z := ms (gsl (h 77) b.toNat) u.toNat c.toNat i + 0) (by omega) (by omega), wr_id (z := ms (gsl (h 77) b.toNat) u.toNat c.toNat i + 1) (by omega) (by omega)]
    have k := ih n (i + 1) (by omega) (by omega)
    rw [show ((i + 1 : Nat) : Int) = (i : Int) + 1 by omega] at k
    rw [show ms (gsl (h 77) b.toNat) u.toNat c.toNat (i + 1) = ms (gsl (h 77) b.toNat) u.toNat c.toNat i + if gsl (h 77) b.toNat (78 + 6 * c.toNat + i) = -1 ∨ gsl (h 77) b.toNat (78 + 6 * c.toNat + i) = gsl (h 77) b.toNat (18 + 5 * u.toNat + i) then 0 else 1 from rfl] at k
    by_cases c1 : gsl (h 77) b.toNat (78 + 6 * c.toNat + i) = -1
    · rw [if_pos (Or.inl c1)] at k
      rw [if_pos c1]
      exact k
    · rw [if_neg c1, p_uAt hb.1 hb.2 (by omega) (by omega), bd_s]
      rw [wr_id (z := b + 18 + 5 * u + (i : Int)) (by omega) (by omega), if_pos (by unfold inb; omega), show b + 18 + 5 * u + (i : Int) = b + (18 + 5 * u + (i : Int)) by omega, rd_sl (h := h) hb.1 (by omega), show (18 + 5 * u + (i : Int)).toNat = 18 + 5 * u.toNat + i by omega]
      by_cases c2 : gsl (h 77) b.toNat (78 + 6 * c.toNat + i) = gsl (h 77) b.toNat (18 + 5 * u.toNat + i)
      · rw [if_pos (Or.inr c2)] at k
        rw [if_pos c2]
        exact k
      · rw [if_neg (by omega)] at k
        rw [if_neg c2]
        exact k
theorem p_misses {b u c : Int} {h : Hp} (hb : 0 ≤ b ∧ b ≤ 1140) (hu : 0 ≤ u ∧ u ≤ 11) (hc : 0 ≤ c ∧ c ≤ 11) : f_X5_misses b u c h = some (mis (gsl (h 77) b.toNat) u.toNat c.toNat, h) :=
  p_misses_L hb hu hc 4 fu 0 (by have := fu_gt; omega) (by omega)
theorem p_pts_L {b u c y : Int} {h : Hp} (hb : 0 ≤ b ∧ b ≤ 1140) (hu : 0 ≤ u ∧ u ≤ 11) (hc : 0 ≤ c ∧ c ≤ 11) (hV : Vn (gsl (h 77) b.toNat)) (hy : -1000000000 ≤ y ∧ y ≤ 1000000000) : ∀ (m n : Nat) (i : Nat), m < n → i + m = 4 →
    f_X5_pointsOf_L32 b u c n (y + ps (gsl (h 77) b.toNat) u.toNat c.toNat i) (i : Int) h = some (y + ps (gsl (h 77) b.toNat) u.toNat c.toNat 4, h) := by
  intro m
  induction m with
  | zero =>
    intro n i hn0 hi
    obtain ⟨n, rfl⟩ : ∃ n', n = n' + 1 := ⟨n - 1, by omega⟩
    obtain rfl : i = 4 := by omega
    rw [f_X5_pointsOf_L32_s, if_pos (by omega)]
  | succ m ih =>
    intro n i hn0 hi
    obtain ⟨n, rfl⟩ : ∃ n', n = n' + 1 := ⟨n - 1, by omega⟩
    have bd := ps_b (s := gsl (h 77) b.toNat) u.toNat c.toNat hV i
    rw [f_X5_pointsOf_L32_s, if_neg (by omega), p_uAt hb.1 hb.2 (by omega) (by omega), bd_s]
    rw [wr_id (z := b + 18 + 5 * u + (i : Int)) (by omega) (by omega), if_pos (by unfold inb; omega), show b + 18 + 5 * u + (i : Int) = b + (18 + 5 * u + (i : Int)) by omega, rd_sl (h := h) hb.1 (by omega), show (18 + 5 * u + (i : Int)).toNat = 18 + 5 * u.toNat + i by omega]
    unfold lv
    dsimp only
    rw [p_cAt hb.1 hb.2 (by omega) (by omega), bd_s]
    rw [wr_id (z := b + 78 + 6 * c + (i : Int)) (by omega) (by omega), if_pos (by unfold inb; omega), show b + 78 + 6 * c + (i : Int) = b + (78 + 6 * c + (i : Int)) by omega, rd_sl (h := h) hb.1 (by omega), show (78 + 6 * c + (i : Int)).toNat = 78 + 6 * c.toNat + i by omega]
    rw [wr_id (z := (i : Int) + 1) (by omega) (by omega), wr_id (z := y + ps (gsl (h 77) b.toNat) u.toNat c.toNat i + 0) (by omega) (by omega)]
    have k := ih n (i + 1) (by omega) (by omega)
    rw [show ((i + 1 : Nat) : Int) = (i : Int) + 1 by omega] at k
    rw [show ps (gsl (h 77) b.toNat) u.toNat c.toNat (i + 1) = ps (gsl (h 77) b.toNat) u.toNat c.toNat i + if gsl (h 77) b.toNat (78 + 6 * c.toNat + i) = gsl (h 77) b.toNat (18 + 5 * u.toNat + i) then 13 - cn (gsl (h 77) b.toNat) i (gsl (h 77) b.toNat (18 + 5 * u.toNat + i)) (gsl (h 77) b.toNat 15).toNat else 0 from rfl] at k
    by_cases c1 : gsl (h 77) b.toNat (78 + 6 * c.toNat + i) = gsl (h 77) b.toNat (18 + 5 * u.toNat + i)
    · rw [if_pos c1] at k
      rw [if_neg (by omega), p_many hb (by omega) hV, bd_s, show ((i : Int)).toNat = i by omega]
      have cb := cn_b (gsl (h 77) b.toNat) i (gsl (h 77) b.toNat (18 + 5 * u.toNat + i)) (gsl (h 77) b.toNat 15).toNat
      have v := hV.1
      rw [wr_id (z := 13 - cn (gsl (h 77) b.toNat) i (gsl (h 77) b.toNat (18 + 5 * u.toNat + i)) (gsl (h 77) b.toNat 15).toNat) (by omega) (by omega), wr_id (by omega) (by omega)]
      rw [← Int.add_assoc] at k
      exact k
    · rw [if_neg c1] at k
      rw [if_pos c1]
      rw [← Int.add_assoc] at k
      exact k
theorem p_pts {b u c N : Int} {h : Hp} (hb : 0 ≤ b ∧ b ≤ 1140) (hV : Vn (gsl (h 77) b.toNat)) (hD : Vd N (gsl (h 77) b.toNat)) (hN : N ≤ 1000000) (hu : 0 ≤ u ∧ u < gsl (h 77) b.toNat 15) (hc : 0 ≤ c ∧ c < gsl (h 77) b.toNat 16) : f_X5_pointsOf b u c h = some (pts (gsl (h 77) b.toNat) u.toNat c.toNat, h) := by
  have v1 := hV.1
  have v2 := hV.2.1
  have s2 := hD.2.2 1 (by omega)
  have s3 := hD.2.2 2 (by omega)
  have dd := (hD.2.1 c.toNat (by omega)).2
  rw [show sA 85 1 = 0 from rfl, show sA 86 1 = 20 from rfl, show 1 + 1 = 2 from rfl] at s2
  rw [show sA 85 2 = 0 from rfl, show sA 86 2 = 20 from rfl, show 1 + 2 = 3 from rfl] at s3
  have mb := ms_b (gsl (h 77) b.toNat) u.toNat c.toNat 4
  have m1 : 0 ≤ gsl (h 77) b.toNat 2 * mis (gsl (h 77) b.toNat) u.toNat c.toNat ∧ _ := mul_b s2.1 s2.2 mb.1 mb.2
  have m2 := mul_b s3.1 s3.2 dd.1 (show _ ≤ (1000000 : Int) by omega)
  unfold f_X5_pointsOf
  rw [wr_id (z := b + 2) (by omega) (by omega), wr_id (z := b + 3) (by omega) (by omega), if_pos (by unfold inb; omega), p_misses hb (by omega) (by omega), bd_s, if_pos (by unfold inb; omega), p_cAt hb.1 hb.2 (by omega) (by omega), bd_s]
  rw [wr_id (z := b + 78 + 6 * c + 5) (by omega) (by omega), if_pos (by unfold inb; omega), show b + 78 + 6 * c + 5 = b + (78 + 6 * c + 5) by omega, rd_sl (h := h) hb.1 (by omega), rd_sl (h := h) hb.1 (by omega), rd_sl (h := h) hb.1 (by omega), show (78 + 6 * c + 5).toNat = 78 + 6 * c.toNat + 5 by omega, show Int.toNat 2 = 2 from rfl, show Int.toNat 3 = 3 from rfl]
  unfold lv
  rw [wr_id (z := -gsl (h 77) b.toNat 2) (by omega) (by omega), Int.neg_mul, wr_id (z := -(gsl (h 77) b.toNat 2 * mis (gsl (h 77) b.toNat) u.toNat c.toNat)) (by omega) (by omega), wr_id (z := gsl (h 77) b.toNat 3 * gsl (h 77) b.toNat (78 + 6 * c.toNat + 5)) (by omega) (by omega), wr_id (by omega) (by omega)]
  have k := p_pts_L (b := b) (u := u) (c := c) (y := -(gsl (h 77) b.toNat 2 * mis (gsl (h 77) b.toNat) u.toNat c.toNat) - gsl (h 77) b.toNat 3 * gsl (h 77) b.toNat (78 + 6 * c.toNat + 5)) (h := h) hb (by omega) (by omega) hV (by omega) 4 fu 0 (by have := fu_gt; omega) (by omega)
  rw [show ps (gsl (h 77) b.toNat) u.toNat c.toNat 0 = 0 from rfl, Int.add_zero] at k
  refine k.trans ?_
  unfold pts
  congr 2
  omega
theorem p_suits {b u c N : Int} {h : Hp} (hb : 0 ≤ b ∧ b ≤ 1140) (hV : Vn (gsl (h 77) b.toNat)) (hD : Vd N (gsl (h 77) b.toNat)) (hN : N ≤ 1000000) (hu : 0 ≤ u ∧ u < gsl (h 77) b.toNat 15) (hc : 0 ≤ c ∧ c < gsl (h 77) b.toNat 16) : f_X5_suits b u c h = some (if sut (gsl (h 77) b.toNat) u.toNat c.toNat then 1 else 0, h) := by
  have v1 := hV.1
  have v2 := hV.2.1
  unfold f_X5_suits
  rw [p_misses hb (by omega) (by omega), bd_s, wr_id (z := b + 1) (by omega) (by omega), wr_id (z := b + 4) (by omega) (by omega), if_pos (by unfold inb; omega), rd_sl (h := h) hb.1 (by omega), show Int.toNat 1 = 1 from rfl]
  by_cases c1 : gsl (h 77) b.toNat 1 < mis (gsl (h 77) b.toNat) u.toNat c.toNat
  · rw [if_pos c1, if_neg (fun q => by have := q.1; omega)]
  · rw [if_neg c1, p_pts hb hV hD hN hu hc, bd_s, if_pos (by unfold inb; omega)]
    by_cases c2 : pts (gsl (h 77) b.toNat) u.toNat c.toNat < gsl (h 77) b.toNat 4
    · rw [rd_sl (h := h) hb.1 (by omega), show Int.toNat 4 = 4 from rfl, if_pos c2, if_neg (fun q => by have := q.2; omega)]
    · rw [rd_sl (h := h) hb.1 (by omega), show Int.toNat 4 = 4 from rfl, if_neg c2, if_pos ⟨by omega, by omega⟩]
end Points1

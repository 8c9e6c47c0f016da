/-! the pure part: the class weighs all pairs -/
section Weigh1
def FrS (h h' : Hp) : Prop := ∀ a, a < 19 ∨ 27 ≤ a → h' a = h a
theorem FrS.rf {h : Hp} : FrS h h := fun _ _ => rfl
theorem FrS.tr {h h1 h2 : Hp} (a : FrS h h1) (b : FrS h1 h2) : FrS h h2 := fun x hx => (b x hx).trans (a x hx)
theorem FrS.up {h : Hp} {a k : Nat} {x : Int} (q : 19 ≤ a ∧ a < 27) : FrS h (hup h a k x) := fun b hb => row_hup (by omega)
theorem SR.scr {h h' : Hp} {o : Nat} {s : Rw} (R : SR h o s) (f : FrS h h') (q : o ≤ 10 ∨ 27 ≤ o) : SR h' o s := R.rows (fun a _ _ => f a (by omega))
theorem p_min {a b : Int} {h : Hp} : f_J_min a b h = some (if a ≤ b then a else b, h) := by
  unfold f_J_min
  by_cases c : a ≤ b
  · rw [if_pos c, if_neg (by omega)]
  · rw [if_neg c, if_pos (by omega)]
theorem p_num {a n : Nat} {k : Int} {h : Hp} (h0 : 0 ≤ k) (h1 : k < n) : f_X4_numberAt a n k h = some (h a k.toNat, h) := by
  unfold f_X4_numberAt
  rw [if_neg (by omega), if_neg (by omega), if_pos (by unfold inb; omega)]
theorem c_cellU {h : Hp} {o : Nat} {s : Rw} {u j : Int} (R : SR h o s) (hV : Vn s) (hu : 0 ≤ u ∧ u < s 15) (hj : 0 ≤ j ∧ j < 5) : f_X2_cell (o + 1) u j h = some (s (18 + 5 * u.toNat + j.toNat), h) := by
  have v := hV.1
  rw [p_cell (by rw [R.1.1]; exact v.2), R.1.1, if_pos (by omega), show (u * 6 + j).toNat = 6 * u.toNat + j.toNat by omega, R.1.2 _ _ (by omega) (by omega)]
theorem c_cellC {h : Hp} {o : Nat} {s : Rw} {c j : Int} (R : SR h o s) (hV : Vn s) (hc : 0 ≤ c ∧ c < s 16) (hj : 0 ≤ j ∧ j < 6) : f_X2_cell (o + 3) c j h = some (s (78 + 6 * c.toNat + j.toNat), h) := by
  have v := hV.2.1
  rw [p_cell (by rw [R.2.1.1]; exact v.2), R.2.1.1, if_pos (by omega), show (c * 6 + j).toNat = 6 * c.toNat + j.toNat by omega, R.2.1.2 _ _ (by omega) (by omega)]
theorem c_odd0_L {o : Nat} {c14 : Hp → Option (Int × Hp)} : ∀ (m n : Nat) (i : Nat) (h0 h : Hp), m < n → i + m = 40 → (∀ k, k < i → h 24 k = 13) → (∀ a, a ≠ 24 → h a = h0 a) →
    ∃ h', f_X0_noteOddness_L2 o c14 n (i : Int) h = c14 h' ∧ (∀ k, k < 40 → h' 24 k = 13) ∧ ∀ a, a ≠ 24 → h' a = h0 a := by
  intro m
  induction m with
  | zero =>
    intro n i h0 h hn hi e f
    obtain ⟨n, rfl⟩ : ∃ n', n = n' + 1 := ⟨n - 1, by omega⟩
    rw [f_X0_noteOddness_L2_s, if_pos (by omega)]
    exact ⟨h, rfl, fun k hk => e k (by omega), f⟩
  | succ m ih =>
    intro n i h0 h hn hi e f
    obtain ⟨n, rfl⟩ : ∃ n', n = n' + 1 := ⟨n - 1, by omega⟩
    rw [f_X0_noteOddness_L2_s, if_neg (by omega), if_pos (by unfold inb; omega), wr_id (by omega) (by omega)]
    unfold lt
    rw [show (i : Int) + 1 = ((i + 1 : Nat) : Int) by omega]
    refine ih n (i + 1) h0 _ (by omega) (by omega) (fun k hk => ?_) (fun a ha => ?_)
    · by_cases c : k = i
      · rw [hup_eq ⟨rfl, by omega⟩]
      · rw [hup_far (by omega)]
        exact e k (by omega)
    · rw [row_hup ha]
      exact f a ha
/-- as far as umbrella u, and its detail j -/
def odd (s : Rw) (u j : Nat) (h : Hp) : Prop := ∀ x v : Nat, x < 4 → v < 10 → h 24 (10 * x + v) = 13 - cn s x (v : Int) (if x < j then u + 1 else u)
theorem c_odd1_L {o : Nat} {s : Rw} {u : Nat} {c52 : Hp → Option (Int × Hp)} (ho : o ≤ 10) (hV : Vn s) (hD : uok s) (hu : (u : Int) < s 15) : ∀ (m n : Nat) (i : Nat) (h0 h : Hp), m < n → i + m = 4 → SR h o s → odd s u i h → (∀ a, a ≠ 24 → h a = h0 a) →
    ∃ h', f_X0_noteOddness_L22 o (u : Int) c52 n (i : Int) h = c52 h' ∧ odd s (u + 1) 0 h' ∧ ∀ a, a ≠ 24 → h' a = h0 a := by
  intro m
  induction m with
  | zero =>
    intro n i h0 h hn hi R e f
    obtain ⟨n, rfl⟩ : ∃ n', n = n' + 1 := ⟨n - 1, by omega⟩
    rw [f_X0_noteOddness_L22_s, if_pos (by omega)]
    refine ⟨h, rfl, fun x v hx hv => ?_, f⟩
    rw [e x v hx hv, if_pos (by omega), if_neg (by omega)]
  | succ m ih =>
    intro n i h0 h hn hi R e f
    obtain ⟨n, rfl⟩ : ∃ n', n = n' + 1 := ⟨n - 1, by omega⟩
    have uo := hD u i hu (by omega)
    have v1 := hV.1
    rw [f_X0_noteOddness_L22_s, if_neg (by omega), c_cellU R hV (by omega) (by omega), bd_s, show ((u : Int)).toNat = u by omega, show ((i : Int)).toNat = i by omega]
    unfold lv
    dsimp only
    rw [wr_id (z := (i : Int) * 10) (by omega) (by omega), wr_id (z := (i : Int) * 10 + s (18 + 5 * u + i)) (by omega) (by omega), if_neg (by omega), if_neg (by omega), if_pos (by unfold inb; omega), if_pos (by unfold inb; omega), wr_id (z := (i : Int) + 1) (by omega) (by omega)]
    unfold lt
    rw [show (i : Int) + 1 = ((i + 1 : Nat) : Int) by omega]
    have et : ((i : Int) * 10 + s (18 + 5 * u + i)).toNat = 10 * i + (s (18 + 5 * u + i)).toNat := by omega
    rw [et]
    have ev := e i (s (18 + 5 * u + i)).toNat (by omega) (by omega)
    rw [if_neg (by omega), show ((s (18 + 5 * u + i)).toNat : Int) = s (18 + 5 * u + i) by omega] at ev
    have cb := cn_b s i (s (18 + 5 * u + i)) u
    rw [ev, wr_id (by omega) (by omega)]
    refine ih n (i + 1) h0 _ (by omega) (by omega) (R.rows (fun a _ _ => row_hup (by omega))) (fun x v hx hv => ?_) (fun a ha => ?_)
    · by_cases c : x = i ∧ (v : Int) = s (18 + 5 * u + i)
      · obtain ⟨rfl, c2⟩ := c
        rw [hup_eq ⟨rfl, by omega⟩, if_pos (by omega)]
        show _ = 13 - (cn s x (v : Int) u + if s (18 + 5 * u + x) = (v : Int) then 1 else 0)
        rw [if_pos c2.symm, c2]
        omega
      · rw [hup_far (by omega), e x v hx hv]
        by_cases c1 : x = i
        · subst c1
          rw [if_neg (by omega), if_pos (by omega)]
          show _ = 13 - (cn s x (v : Int) u + if s (18 + 5 * u + x) = (v : Int) then 1 else 0)
          rw [if_neg (fun q => c ⟨rfl, q.symm⟩)]
          omega
        · by_cases c3 : x < i
          · rw [if_pos c3, if_pos (by omega)]
          · rw [if_neg c3, if_neg (by omega)]
    · rw [row_hup ha]
      exact f a ha
theorem c_odd2_L {o : Nat} {s : Rw} (ho : o ≤ 10) (hV : Vn s) (hD : uok s) : ∀ (m n : Nat) (u : Nat) (h0 h : Hp), m < n → (u : Int) + m = s 15 → SR h o s → h 19 7 = s 15 → odd s u 0 h → (∀ a, a ≠ 24 → h a = h0 a) →
    ∃ h', f_X0_noteOddness_L16 o n (u : Int) h = some (0, h') ∧ odd s (s 15).toNat 0 h' ∧ ∀ a, a ≠ 24 → h' a = h0 a := by
  intro m
  induction m with
  | zero =>
    intro n u h0 h hn hi R h7 e f
    obtain ⟨n, rfl⟩ : ∃ n', n = n' + 1 := ⟨n - 1, by omega⟩
    rw [f_X0_noteOddness_L16_s, h7, if_pos (by omega), show (s 15).toNat = u by omega]
    exact ⟨h, rfl, e, f⟩
  | succ m ih =>
    intro n u h0 h hn hi R h7 e f
    obtain ⟨n, rfl⟩ : ∃ n', n = n' + 1 := ⟨n - 1, by omega⟩
    have v1 := hV.1
    rw [f_X0_noteOddness_L16_s, h7, if_neg (by omega), wr_id (by omega) (by omega)]
    obtain ⟨h', a1, a2, a3⟩ := c_odd1_L (o := o) (s := s) (u := u) (c52 := fun h6 => f_X0_noteOddness_L16 o n ((u : Int) + 1) h6) ho hV hD (by omega) 4 fu 0 h h (by have := fu_gt; omega) (by omega) R e (fun _ _ => rfl)
    rw [show (0 : Int) = ((0 : Nat) : Int) from rfl, a1, show (u : Int) + 1 = ((u + 1 : Nat) : Int) by omega]
    exact ih n (u + 1) h0 h' (by omega) (by omega) (R.rows (fun a _ _ => a3 a (by omega))) (by rw [a3 19 (by omega)]; exact h7) a2 (fun a ha => by rw [a3 a ha, f a ha])
theorem c_odd {o : Nat} {s : Rw} {h : Hp} (ho : o ≤ 10) (hV : Vn s) (hD : uok s) (R : SR h o s) (h7 : h 19 7 = s 15) : ∃ h', f_X0_noteOddness o h = some (0, h') ∧ odd s (s 15).toNat 0 h' ∧ ∀ a, a ≠ 24 → h' a = h a := by
  unfold f_X0_noteOddness
  have v1 := hV.1
  obtain ⟨g, a1, a2, a3⟩ := c_odd0_L (o := o) (c14 := fun h2 => f_X0_noteOddness_L16 o fu 0 h2) 40 fu 0 h h (by have := fu_gt; omega) (by omega) (fun k hk => by omega) (fun _ _ => rfl)
  rw [show ((0 : Nat) : Int) = 0 from rfl] at a1
  rw [a1]
  have := fu_gt
  exact c_odd2_L ho hV hD (s 15).toNat fu 0 h g (by omega) (by omega) (R.rows (fun a _ _ => a3 a (by omega))) (by rw [a3 19 (by omega)]; exact h7) (fun x v hx hv => by
    rw [a2 _ (by omega), if_neg (by omega)]
    rfl) a3
end Weigh1

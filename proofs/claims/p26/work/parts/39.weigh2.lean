/-! the pure part: the class weighs all pairs, on -/
section Weigh2
theorem p_pair {u c : Nat} {h : Hp} (hu : (u : Int) < h 19 7) (hc : (c : Int) < h 19 8) (h7 : h 19 7 ≤ 12) (h8 : h 19 8 ≤ 12) : f_X0_pairOf (u : Int) (c : Int) h = some (((12 * u + c : Nat) : Int), h) := by
  unfold f_X0_pairOf
  unfold lv
  dsimp only
  rw [if_neg (by omega), if_neg (by omega), if_neg (by omega), if_pos hc, wr_id (z := (u : Int) * 12) (by omega) (by omega), wr_id (by omega) (by omega), if_neg (by omega), if_neg (by omega)]
  congr 2
  omega
theorem c_weigh_L {o : Nat} {s : Rw} {u c : Nat} {h : Hp} {c40 : Int → Int → Hp → Option (Int × Hp)} (hV : Vn s) (hD : uok s) (R : SR h o s) (e : odd s (s 15).toNat 0 h) (hu : (u : Int) < s 15) (hc : (c : Int) < s 16) : ∀ (m n : Nat) (i : Nat), m < n → i + m = 4 →
    f_X0_weigh_L6 o (u : Int) (c : Int) c40 n (ms s u c i) (ps s u c i) (i : Int) h = c40 (mis s u c) (ps s u c 4) h := by
  intro m
  induction m with
  | zero =>
    intro n i hn hi
    obtain ⟨n, rfl⟩ : ∃ n', n = n' + 1 := ⟨n - 1, by omega⟩
    obtain rfl : i = 4 := by omega
    rw [f_X0_weigh_L6_s, if_pos (by omega)]
    rfl
  | succ m ih =>
    intro n i hn hi
    obtain ⟨n, rfl⟩ : ∃ n', n = n' + 1 := ⟨n - 1, by omega⟩
    have uo := hD u i hu (by omega)
    have mb := ms_b s u c i
    have pb := ps_b u c hV i
    rw [f_X0_weigh_L6_s, if_neg (by omega), c_cellC R hV (by omega) (by omega), bd_s, c_cellU R hV (by omega) (by omega), bd_s, show ((u : Int)).toNat = u by omega, show ((c : Int)).toNat = c by omega, show ((i : Int)).toNat = i by omega, wr_id (z := (i : Int) + 1) (by omega) (by omega), wr_id (z := ms s u c i + 1) (by omega) (by omega)]
    have k := ih n (i + 1) (by omega) (by omega)
    rw [show ((i + 1 : Nat) : Int) = (i : Int) + 1 by omega] at k
    rw [show ms s u c (i + 1) = ms s u c i + if s (78 + 6 * c + i) = -1 ∨ s (78 + 6 * c + i) = s (18 + 5 * u + i) then 0 else 1 from rfl, show ps s u c (i + 1) = ps s u c i + if s (78 + 6 * c + i) = s (18 + 5 * u + i) then 13 - cn s i (s (18 + 5 * u + i)) (s 15).toNat else 0 from rfl] at k
    by_cases c1 : s (78 + 6 * c + i) = s (18 + 5 * u + i)
    · rw [if_pos (Or.inr c1), if_pos c1, Int.add_zero] at k
      rw [if_neg (by omega), c1, wr_id (z := (i : Int) * 10) (by omega) (by omega), wr_id (z := (i : Int) * 10 + s (18 + 5 * u + i)) (by omega) (by omega), p_num (by omega) (by omega), bd_s, show ((i : Int) * 10 + s (18 + 5 * u + i)).toNat = 10 * i + (s (18 + 5 * u + i)).toNat by omega]
      have ev := e i (s (18 + 5 * u + i)).toNat (by omega) (by omega)
      rw [if_neg (by omega), show ((s (18 + 5 * u + i)).toNat : Int) = s (18 + 5 * u + i) by omega] at ev
      have cb := cn_b s i (s (18 + 5 * u + i)) (s 15).toNat
      have v1 := hV.1
      unfold lv
      rw [ev, wr_id (by omega) (by omega)]
      exact k
    · rw [if_neg c1, Int.add_zero] at k
      rw [if_pos c1]
      by_cases c2 : s (78 + 6 * c + i) = -1
      · rw [if_pos (Or.inl c2), Int.add_zero] at k
        rw [if_pos c2]
        exact k
      · rw [if_neg (by omega)] at k
        rw [if_neg c2]
        exact k
theorem c_weigh {o : Nat} {s : Rw} {u c : Nat} {N : Int} {h : Hp} (ho : o ≤ 10) (hV : Vn s) (hD : Vd N s) (hN : N ≤ 1000000) (R : SR h o s) (e : odd s (s 15).toNat 0 h) (h7 : h 19 7 = s 15) (h8 : h 19 8 = s 16) (hu : (u : Int) < s 15) (hc : (c : Int) < s 16) :
    ∃ h', f_X0_weigh (u : Int) (c : Int) o h = some (0, h') ∧ h' 20 (12 * u + c) = mis s u c ∧ h' 21 (12 * u + c) = pts s u c ∧ h' 22 (12 * u + c) = (if sut s u c then 1 else 0) ∧ ∀ a k, ¬ ((a = 20 ∨ a = 21 ∨ a = 22) ∧ k = 12 * u + c) → h' a k = h a k := by
  have v1 := hV.1
  have v2 := hV.2.1
  have s2 := hD.2.2 1 (by omega)
  have s3 := hD.2.2 2 (by omega)
  have dd := (hD.2.1 c (by omega)).2
  rw [show sA 85 1 = 0 from rfl, show sA 86 1 = 20 from rfl, show 1 + 1 = 2 from rfl] at s2
  rw [show sA 85 2 = 0 from rfl, show sA 86 2 = 20 from rfl, show 1 + 2 = 3 from rfl] at s3
  have mb : 0 ≤ mis s u c ∧ mis s u c ≤ 4 := ms_b s u c 4
  have m1 := mul_b s2.1 s2.2 mb.1 mb.2
  have m2 := mul_b s3.1 s3.2 dd.1 (show _ ≤ (1000000 : Int) by omega)
  have pb := ps_b u c hV 4
  have st : ∀ (k : Nat) (g : Hp), g (o + 7) = h (o + 7) → k < 7 → f_X1_setting o (k : Int) g = some (s (1 + k), g) := fun k g hg hk => by
    rw [p_setting (by omega) (by omega), hg, show ((k : Int)).toNat = k by omega, R.2.2.2.1 k hk]
  unfold f_X0_weigh
  have lp := fun c40 => c_weigh_L (o := o) (s := s) (u := u) (c := c) (h := h) (c40 := c40) hV hD.1 R e hu hc 4 fu 0 (by have := fu_gt; omega) (by omega)
  rw [show ms s u c 0 = 0 from rfl, show ps s u c 0 = 0 from rfl, show ((0 : Nat) : Int) = 0 from rfl] at lp
  rw [lp]
  rw [show f_X1_setting o 1 h = some (s 2, h) from st 1 h rfl (by omega), bd_s, c_cellC R hV (by omega) (by omega), bd_s, show f_X1_setting o 2 h = some (s 3, h) from st 2 h rfl (by omega), bd_s, show ((c : Int)).toNat = c by omega, show Int.toNat 5 = 5 from rfl]
  unfold lv
  rw [Int.mul_comm (mis s u c) (s 2), Int.mul_comm (s (78 + 6 * c + 5)) (s 3), wr_id (z := s 2 * mis s u c) (by omega) (by omega), wr_id (z := s 3 * s (78 + 6 * c + 5)) (by omega) (by omega), wr_id (z := ps s u c 4 - s 2 * mis s u c) (by omega) (by omega), wr_id (by omega) (by omega)]
  rw [show ps s u c 4 - s 2 * mis s u c - s 3 * s (78 + 6 * c + 5) = pts s u c from rfl]
  dsimp only
  rw [p_pair (by omega) (by omega) (by omega) (by omega), bd_s, if_neg (by omega), if_neg (by omega)]
  have ib : inb ((12 * u + c : Nat) : Int) 144 := by unfold inb; omega
  unfold lt
  dsimp only
  rw [if_pos ib, if_pos ib, show (((12 * u + c : Nat) : Int)).toNat = 12 * u + c by omega]
  have fr : hup (hup h 20 (12 * u + c) (mis s u c)) 21 (12 * u + c) (pts s u c) (o + 7) = h (o + 7) := by
    rw [row_hup (by omega), row_hup (by omega)]
  rw [show f_X1_setting o 0 (hup (hup h 20 (12 * u + c) (mis s u c)) 21 (12 * u + c) (pts s u c)) = some (s 1, _) from st 0 _ fr (by omega), bd_s]
  have fin : ∀ x : Int, (hup (hup (hup h 20 (12 * u + c) (mis s u c)) 21 (12 * u + c) (pts s u c)) 22 (12 * u + c) x) 20 (12 * u + c) = mis s u c ∧ (hup (hup (hup h 20 (12 * u + c) (mis s u c)) 21 (12 * u + c) (pts s u c)) 22 (12 * u + c) x) 21 (12 * u + c) = pts s u c ∧ (hup (hup (hup h 20 (12 * u + c) (mis s u c)) 21 (12 * u + c) (pts s u c)) 22 (12 * u + c) x) 22 (12 * u + c) = x ∧ ∀ a k, ¬ ((a = 20 ∨ a = 21 ∨ a = 22) ∧ k = 12 * u + c) → (hup (hup (hup h 20 (12 * u + c) (mis s u c)) 21 (12 * u + c) (pts s u c)) 22 (12 * u + c) x) a k = h a k := by
    intro x
    refine ⟨?_, ?_, ?_, fun a k q => ?_⟩
    · rw [hup_far (i := 22) (by omega), hup_far (i := 21) (by omega), hup_same]
    · rw [hup_far (i := 22) (by omega), hup_same]
    · rw [hup_same]
    · rw [hup_far (i := 22) (by omega), hup_far (i := 21) (by omega), hup_far (i := 20) (by omega)]
  by_cases c1 : s 1 < mis s u c
  · rw [if_pos c1, if_pos ⟨ib, Or.inl rfl⟩, if_neg (show ¬ sut s u c from fun q => by have := q.1; omega)]
    obtain ⟨f1, f2, f3, f4⟩ := fin 0
    exact ⟨_, rfl, f1, f2, f3, f4⟩
  · rw [if_neg c1, show f_X1_setting o 3 (hup (hup h 20 (12 * u + c) (mis s u c)) 21 (12 * u + c) (pts s u c)) = some (s 4, _) from st 3 _ fr (by omega), bd_s]
    by_cases c2 : pts s u c < s 4
    · rw [if_pos c2, if_pos ⟨ib, Or.inl rfl⟩, if_neg (show ¬ sut s u c from fun q => by have := q.2; omega)]
      obtain ⟨f1, f2, f3, f4⟩ := fin 0
      exact ⟨_, rfl, f1, f2, f3, f4⟩
    · rw [if_neg c2, if_pos ⟨ib, Or.inr rfl⟩, if_pos (show sut s u c from ⟨by omega, by omega⟩)]
      obtain ⟨f1, f2, f3, f4⟩ := fin 1
      exact ⟨_, rfl, f1, f2, f3, f4⟩
/-- the pairs before (u, c) are weighed -/
def Wd (s : Rw) (u c : Nat) (h : Hp) : Prop := ∀ x y : Nat, (x : Int) < s 15 → (y : Int) < s 16 → (x < u ∨ (x = u ∧ y < c)) → h 20 (12 * x + y) = mis s x y ∧ h 21 (12 * x + y) = pts s x y ∧ h 22 (12 * x + y) = if sut s x y then 1 else 0
/-- what stays while pairs are weighed -/
def FrW (h h' : Hp) : Prop := ∀ a, a ≠ 20 → a ≠ 21 → a ≠ 22 → h' a = h a
theorem c_wa1_L {o : Nat} {s : Rw} {u : Nat} {N : Int} {c36 : Hp → Option (Int × Hp)} (ho : o ≤ 10) (hV : Vn s) (hD : Vd N s) (hN : N ≤ 1000000) (hu : (u : Int) < s 15) : ∀ (m n : Nat) (c : Nat) (h0 h : Hp), m < n → (c : Int) + m = s 16 → SR h o s → odd s (s 15).toNat 0 h → h 19 7 = s 15 → h 19 8 = s 16 → Wd s u c h → FrW h0 h →
    ∃ h', f_X0_weighAll_L25 o (u : Int) c36 n (c : Int) h = c36 h' ∧ Wd s (u + 1) 0 h' ∧ FrW h0 h' := by
  intro m
  induction m with
  | zero =>
    intro n c h0 h hn hi R e h7 h8 w f
    obtain ⟨n, rfl⟩ : ∃ n', n = n' + 1 := ⟨n - 1, by omega⟩
    rw [f_X0_weighAll_L25_s, h8, if_pos (by omega)]
    exact ⟨h, rfl, fun x y hx hy q => w x y hx hy (by omega), f⟩
  | succ m ih =>
    intro n c h0 h hn hi R e h7 h8 w f
    obtain ⟨n, rfl⟩ : ∃ n', n = n' + 1 := ⟨n - 1, by omega⟩
    have v2 := hV.2.1
    rw [f_X0_weighAll_L25_s, h8, if_neg (by omega), wr_id (by omega) (by omega)]
    obtain ⟨h', a1, a2, a3, a4, a5⟩ := c_weigh (u := u) (c := c) ho hV hD hN R e h7 h8 hu (by omega)
    rw [a1, bd_s, show (c : Int) + 1 = ((c + 1 : Nat) : Int) by omega]
    have fr : FrW h h' := fun a q1 q2 q3 => funext fun k => a5 a k (by omega)
    refine ih n (c + 1) h0 h' (by omega) (by omega) (R.rows (fun a _ _ => fr a (by omega) (by omega) (by omega))) (fun x v hx hv => ?_) ?_ ?_ (fun x y hx hy q => ?_) (fun a q1 q2 q3 => by rw [fr a q1 q2 q3, f a q1 q2 q3])
    · rw [fr 24 (by omega) (by omega) (by omega)]
      exact e x v hx hv
    · rw [fr 19 (by omega) (by omega) (by omega)]; exact h7
    · rw [fr 19 (by omega) (by omega) (by omega)]; exact h8
    · by_cases cc : x = u ∧ y = c
      · obtain ⟨rfl, rfl⟩ := cc
        exact ⟨a2, a3, a4⟩
      · have ne : 12 * x + y ≠ 12 * u + c := by
          have := hV.1
          omega
        rw [a5 20 _ (by omega), a5 21 _ (by omega), a5 22 _ (by omega)]
        exact w x y hx hy (by omega)
theorem c_wa2_L {o : Nat} {s : Rw} {N : Int} (ho : o ≤ 10) (hV : Vn s) (hD : Vd N s) (hN : N ≤ 1000000) : ∀ (m n : Nat) (u : Nat) (h0 h : Hp), m < n → (u : Int) + m = s 15 → SR h o s → odd s (s 15).toNat 0 h → h 19 7 = s 15 → h 19 8 = s 16 → Wd s u 0 h → FrW h0 h →
    ∃ h', f_X0_weighAll_L19 o n (u : Int) h = some (0, h') ∧ Wd s 12 0 h' ∧ FrW h0 h' := by
  intro m
  induction m with
  | zero =>
    intro n u h0 h hn hi R e h7 h8 w f
    obtain ⟨n, rfl⟩ : ∃ n', n = n' + 1 := ⟨n - 1, by omega⟩
    rw [f_X0_weighAll_L19_s, h7, if_pos (by omega)]
    exact ⟨h, rfl, fun x y hx hy q => w x y hx hy (by omega), f⟩
  | succ m ih =>
    intro n u h0 h hn hi R e h7 h8 w f
    obtain ⟨n, rfl⟩ : ∃ n', n = n' + 1 := ⟨n - 1, by omega⟩
    have v1 := hV.1
    have v2 := hV.2.1
    have := fu_gt
    rw [f_X0_weighAll_L19_s, h7, if_neg (by omega), wr_id (by omega) (by omega)]
    obtain ⟨h', a1, a2, a3⟩ := c_wa1_L (o := o) (s := s) (u := u) (c36 := fun h7 => f_X0_weighAll_L19 o n ((u : Int) + 1) h7) ho hV hD hN (by omega) (s 16).toNat fu 0 h h (by omega) (by omega) R e h7 h8 w (fun _ _ _ _ => rfl)
    rw [show ((0 : Nat) : Int) = 0 from rfl] at a1
    rw [a1, show (u : Int) + 1 = ((u + 1 : Nat) : Int) by omega]
    refine ih n (u + 1) h0 h' (by omega) (by omega) (R.rows (fun a _ _ => a3 a (by omega) (by omega) (by omega))) (fun x v hx hv => ?_) ?_ ?_ a2 (fun a q1 q2 q3 => by rw [a3 a q1 q2 q3, f a q1 q2 q3])
    · rw [a3 24 (by omega) (by omega) (by omega)]
      exact e x v hx hv
    · rw [a3 19 (by omega) (by omega) (by omega)]; exact h7
    · rw [a3 19 (by omega) (by omega) (by omega)]; exact h8
/-- all pairs weighed -/
def WA (s : Rw) (h : Hp) : Prop := h 19 7 = s 15 ∧ h 19 8 = s 16 ∧ Wd s 12 0 h
theorem c_weighAll {o : Nat} {s : Rw} {N : Int} {h : Hp} (ho : o ≤ 10) (hV : Vn s) (hD : Vd N s) (hN : N ≤ 1000000) (R : SR h o s) : ∃ h', f_X0_weighAll o h = some (0, h') ∧ WA s h' ∧ FrS h h' := by
  have v1 := hV.1
  have v2 := hV.2.1
  unfold f_X0_weighAll
  unfold lt
  rw [p_min, bd_s, R.1.1, if_pos (by omega)]
  dsimp only
  rw [row_hup (by omega), R.2.1.1, p_min, bd_s, if_pos (by omega)]
  have f1 : FrS h (hup (hup h 19 7 (s 15)) 19 8 (s 16)) := (FrS.up (by omega)).tr (FrS.up (by omega))
  have e7 : hup (hup h 19 7 (s 15)) 19 8 (s 16) 19 7 = s 15 := by rw [hup_far (by omega), hup_same]
  have e8 : hup (hup h 19 7 (s 15)) 19 8 (s 16) 19 8 = s 16 := by rw [hup_same]
  have R1 := R.scr f1 (Or.inl ho)
  obtain ⟨g, a1, a2, a3⟩ := c_odd ho hV hD.1 R1 e7
  rw [a1, bd_s]
  have := fu_gt
  obtain ⟨g', b1, b2, b3⟩ := c_wa2_L (o := o) (s := s) ho hV hD hN (s 15).toNat fu 0 g g (by omega) (by omega) (R1.rows (fun a _ _ => a3 a (by omega))) a2 (by rw [a3 19 (by omega)]; exact e7) (by rw [a3 19 (by omega)]; exact e8) (fun x y hx hy q => by omega) (fun _ _ _ _ => rfl)
  refine ⟨g', b1, ⟨?_, ?_, b2⟩, fun a ha => ?_⟩
  · rw [b3 19 (by omega) (by omega) (by omega), a3 19 (by omega)]; exact e7
  · rw [b3 19 (by omega) (by omega) (by omega), a3 19 (by omega)]; exact e8
  · rw [b3 a (by omega) (by omega) (by omega), a3 a (by omega), f1 a ha]
end Weigh2

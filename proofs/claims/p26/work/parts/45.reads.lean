/-! the pure part: calls that only read: frames, sums, oddness, what suits -/
section Reads1
def FrT (h h' : Hp) : Prop := ∀ a, a < 11 ∨ 27 ≤ a → h' a = h a
theorem FrT.rf {h : Hp} : FrT h h := fun _ _ => rfl
theorem FrS.t {h h' : Hp} (f : FrS h h') : FrT h h' := fun a ha => f a (by omega)
def FrY (h h' : Hp) : Prop := h' 76 1 = h 76 1 ∧ h' 76 3 = h 76 3 ∧ (∀ k, k < 950 → h' 77 k = h 77 k) ∧ h' 78 = h 78 ∧ ∀ a, a < 76 → h' a = h a
theorem FrY.rf {h : Hp} : FrY h h := ⟨rfl, rfl, fun _ _ => rfl, rfl, fun _ _ => rfl⟩
theorem FrX.y {h h' : Hp} (f : FrX h h') : FrY h h' := by
  refine ⟨?_, ?_, fun k hk => ?_, ?_, fun a ha => ?_⟩
  · rw [f 76 (by omega) (by omega) (by omega) (by omega)]
  · rw [f 76 (by omega) (by omega) (by omega) (by omega)]
  · rw [f 77 (by omega) (by omega) (by omega) (by omega)]
  · rw [f 78 (by omega) (by omega) (by omega) (by omega)]
  · rw [f a (by omega) (by omega) (by omega) (by omega)]
theorem rel_read {N : Int} {hC hC' hM hM' : Hp} (R : Rel N hC hM) (f : FrT hC hC') (g : FrY hM hM') : Rel N hC' hM' := by
  obtain ⟨n, r1, r2, r3, r4, r5, r6, r7, r8⟩ := R
  obtain ⟨g1, g3, g77, g78, g0⟩ := g
  have sg : ∀ j, j ≤ 4 → ag (gsl (hM 77) (190 * j)) (gsl (hM' 77) (190 * j)) := fun j hj k hk => g77 _ (by omega)
  refine ⟨n, r1, ?_, ?_, ?_, ?_, ?_, ?_, ?_⟩
  · rw [f 0 (by omega)]; exact r2
  · rw [g1]; exact r3
  · rw [f 27 (by omega)]; exact r4
  · exact (r5.ag r6.1 (sg 0 (by omega))).rows (fun a _ _ => f a (by omega))
  · exact r6.ag (sg 0 (by omega))
  · intro j j1 j2
    have io := r4.1 (j - 1) (by omega)
    rw [f 27 (by omega)]
    obtain ⟨q1, q2⟩ := r7 j j1 j2
    exact ⟨(q1.ag q2.1 (sg j (by omega))).rows (fun a _ _ => f a (by unfold IO at io; omega)), q2.ag (sg j (by omega))⟩
  · unfold Tx at *
    rw [f 28 (by omega), f 29 (by omega), g3, g78]
    exact r8
theorem call_read {N r : Int} {hC hC' hM hM' : Hp} {e e' : Option (Int × Hp)} (R : Rel N hC hM) (e1 : e = some (r, hC')) (f : FrT hC hC') (fc : FrC hC hC') (e2 : e' = some (r, hM')) (g : FrY hM hM') : Call N N hC hM e e' :=
  ⟨r, hC', hM', e1, e2, rel_read R f g, fc, g.2.2.2.2⟩
theorem FrT.c {h h' : Hp} (f : FrT h h') : FrC h h' := fun a ha => f a (by omega)
theorem rel_0 {N : Int} {hC hM : Hp} (R : Rel N hC hM) : SR hC 1 (gsl (hM 77) (Int.toNat 0)) ∧ Vg N (gsl (hM 77) (Int.toNat 0)) := by
  obtain ⟨n, r1, r2, r3, r4, r5, r6, r7, r8⟩ := R
  exact ⟨r5, r6⟩
/-- sums -/
def sm (f : Nat → Int) : Nat → Int
  | 0 => 0
  | n + 1 => sm f n + f n
theorem sm_s (f : Nat → Int) (n : Nat) : sm f (n + 1) = sm f n + f n := rfl
theorem sm_skip {f : Nat → Int} {a : Nat} : ∀ m : Nat, (∀ k, a ≤ k → k < a + m → f k = 0) → sm f (a + m) = sm f a := by
  intro m
  induction m with
  | zero => intro _; rfl
  | succ m ih =>
    intro q
    rw [show a + (m + 1) = (a + m) + 1 by omega, sm_s, q _ (by omega) (by omega), ih (fun k k1 k2 => q k k1 (by omega)), Int.add_zero]
theorem sm_b1 {f : Nat → Int} (q : ∀ k, 0 ≤ f k ∧ f k ≤ 1) : ∀ n : Nat, 0 ≤ sm f n ∧ sm f n ≤ n := by
  intro n
  induction n with
  | zero => exact ⟨Int.le_refl 0, Int.le_refl 0⟩
  | succ n ih =>
    have := q n
    rw [sm_s]
    omega
theorem sm_b52 {f : Nat → Int} (q : ∀ k, 0 ≤ f k ∧ f k ≤ 52) : ∀ n : Nat, 0 ≤ sm f n ∧ sm f n ≤ 52 * n := by
  intro n
  induction n with
  | zero => exact ⟨Int.le_refl 0, Int.le_refl 0⟩
  | succ n ih =>
    have := q n
    rw [sm_s]
    omega
/-- the oddness of the first n values of an umbrella -/
def odF (s : Rw) (u j : Nat) : Int := 13 - cn s j (s (18 + 5 * u + j)) (s 15).toNat
theorem odF_b {s : Rw} (hV : Vn s) (u j : Nat) : 0 ≤ odF s u j ∧ odF s u j ≤ 52 := by
  have := cn_b s j (s (18 + 5 * u + j)) (s 15).toNat
  have v := hV.1
  unfold odF
  omega
def odt (s : Rw) (u : Nat) : Int := sm (odF s u) 4
theorem c_with_L {o : Nat} {s : Rw} {x v : Int} {h : Hp} (R : SR h o s) (hV : Vn s) (hx : 0 ≤ x ∧ x < 5) : ∀ (m n i : Nat), m < n → (i : Int) + m = s 15 →
    f_X1_umbrellasWith_L4 o x v n (cn s x.toNat v i) (i : Int) h = some (cn s x.toNat v (s 15).toNat, h) := by
  intro m
  induction m with
  | zero =>
    intro n i hn hi
    obtain ⟨n, rfl⟩ : ∃ n', n = n' + 1 := ⟨n - 1, by omega⟩
    rw [f_X1_umbrellasWith_L4_s, R.1.1, if_pos (by omega), show (s 15).toNat = i by omega]
  | succ m ih =>
    intro n i hn hi
    obtain ⟨n, rfl⟩ : ∃ n', n = n' + 1 := ⟨n - 1, by omega⟩
    have v1 := hV.1
    have b := cn_b s x.toNat v i
    have k := ih n (i + 1) (by omega) (by omega)
    rw [show ((i + 1 : Nat) : Int) = (i : Int) + 1 by omega, show cn s x.toNat v (i + 1) = cn s x.toNat v i + if s (18 + 5 * i + x.toNat) = v then 1 else 0 from rfl] at k
    rw [f_X1_umbrellasWith_L4_s, R.1.1, if_neg (by omega), c_cellU R hV (by omega) hx, bd_s, show ((i : Int)).toNat = i by omega, wr_id (z := (i : Int) + 1) (by omega) (by omega), wr_id (z := cn s x.toNat v i + 1) (by omega) (by omega)]
    by_cases c : s (18 + 5 * i + x.toNat) = v
    · rw [if_pos c] at k
      rw [if_neg (by omega)]
      exact k
    · rw [if_neg c, Int.add_zero] at k
      rw [if_pos c]
      exact k
theorem c_with {o : Nat} {s : Rw} {x v : Int} {h : Hp} (R : SR h o s) (hV : Vn s) (hx : 0 ≤ x ∧ x < 5) : f_X1_umbrellasWith o x v h = some (cn s x.toNat v (s 15).toNat, h) := by
  have v1 := hV.1
  exact c_with_L R hV hx (s 15).toNat fu 0 (by have := fu_gt; omega) (by omega)
theorem c_odt_L {o : Nat} {s : Rw} {u : Nat} {h : Hp} (R : SR h o s) (hV : Vn s) (hu : (u : Int) < s 15) : ∀ (m n i : Nat), m < n → i + m = 4 →
    f_X1_oddnessTogether_L4 o (u : Int) n (sm (odF s u) i) (i : Int) h = some (odt s u, h) := by
  intro m
  induction m with
  | zero =>
    intro n i hn hi
    obtain ⟨n, rfl⟩ : ∃ n', n = n' + 1 := ⟨n - 1, by omega⟩
    rw [f_X1_oddnessTogether_L4_s, if_pos (by omega), show i = 4 by omega]
    rfl
  | succ m ih =>
    intro n i hn hi
    obtain ⟨n, rfl⟩ : ∃ n', n = n' + 1 := ⟨n - 1, by omega⟩
    have v1 := hV.1
    have b := sm_b52 (odF_b hV u) i
    have b2 := odF_b hV u i
    have k := ih n (i + 1) (by omega) (by omega)
    rw [show ((i + 1 : Nat) : Int) = (i : Int) + 1 by omega, sm_s] at k
    rw [f_X1_oddnessTogether_L4_s, if_neg (by omega), c_cellU R hV (by omega) (by omega), bd_s, show ((i : Int)).toNat = i by omega, show ((u : Int)).toNat = u by omega, c_with R hV (by omega), bd_s, show ((i : Int)).toNat = i by omega]
    unfold lv
    rw [show 13 - cn s i (s (18 + 5 * u + i)) (s 15).toNat = odF s u i from rfl, wr_id (z := odF s u i) (by omega) (by omega), wr_id (z := sm (odF s u) i + odF s u i) (by omega) (by omega), wr_id (z := (i : Int) + 1) (by omega) (by omega)]
    exact k
theorem c_odt {o : Nat} {s : Rw} {u : Int} {h : Hp} (R : SR h o s) (hV : Vn s) (h0 : 0 ≤ u) (hu : u < s 15) : f_X1_oddnessTogether o u h = some (odt s u.toNat, h) := by
  have k := c_odt_L (u := u.toNat) R hV (by omega) 4 fu 0 (by have := fu_gt; omega) (by omega)
  rw [show ((u.toNat : Nat) : Int) = u by omega] at k
  exact k
theorem p_odt_L {s : Rw} {u : Nat} {h : Hp} (eg : gsl (h 77) (Int.toNat 0) = s) (hV : Vn s) (hu : (u : Int) < s 15) : ∀ (m n i : Nat), m < n → i + m = 4 →
    f_X5_oddness_L4 (u : Int) n (sm (odF s u) i) (i : Int) h = some (odt s u, h) := by
  intro m
  induction m with
  | zero =>
    intro n i hn hi
    obtain ⟨n, rfl⟩ : ∃ n', n = n' + 1 := ⟨n - 1, by omega⟩
    rw [f_X5_oddness_L4_s, if_pos (by omega), show i = 4 by omega]
    rfl
  | succ m ih =>
    intro n i hn hi
    obtain ⟨n, rfl⟩ : ∃ n', n = n' + 1 := ⟨n - 1, by omega⟩
    have v1 := hV.1
    have b := sm_b52 (odF_b hV u) i
    have b2 := odF_b hV u i
    have k := ih n (i + 1) (by omega) (by omega)
    rw [show ((i + 1 : Nat) : Int) = (i : Int) + 1 by omega, sm_s] at k
    rw [f_X5_oddness_L4_s, if_neg (by omega), p_uAt (by omega) (by omega) (by omega) (by omega), bd_s, wr_id (z := 0 + 18 + 5 * (u : Int) + (i : Int)) (by omega) (by omega), if_pos (by unfold inb; omega), show 0 + 18 + 5 * (u : Int) + (i : Int) = 0 + (18 + 5 * (u : Int) + (i : Int)) by omega, rd_sl (h := h) (by omega) (by omega), eg, show (18 + 5 * (u : Int) + (i : Int)).toNat = 18 + 5 * u + i by omega]
    rw [p_many (by omega) (by omega) (by rw [eg]; exact hV), bd_s, eg, show ((i : Int)).toNat = i by omega]
    unfold lv
    rw [show 13 - cn s i (s (18 + 5 * u + i)) (s 15).toNat = odF s u i from rfl, wr_id (z := odF s u i) (by omega) (by omega), wr_id (z := sm (odF s u) i + odF s u i) (by omega) (by omega), wr_id (z := (i : Int) + 1) (by omega) (by omega)]
    exact k
theorem p_odt {s : Rw} {u : Int} {h : Hp} (eg : gsl (h 77) (Int.toNat 0) = s) (hV : Vn s) (h0 : 0 ≤ u) (hu : u < s 15) : f_X5_oddness u h = some (odt s u.toNat, h) := by
  have k := p_odt_L (u := u.toNat) eg hV (by omega) 4 fu 0 (by have := fu_gt; omega) (by omega)
  rw [show ((u.toNat : Nat) : Int) = u by omega] at k
  exact k
/-- pairs of an umbrella, or of a claim, that suit -/
def fS (s : Rw) (x y : Int) (k : Nat) : Int := if (if x = -1 then ((k % 12 : Nat) : Int) = y else ((k / 12 : Nat) : Int) = x) ∧ suP s k then 1 else 0
theorem fS_b (s : Rw) (x y : Int) (k : Nat) : 0 ≤ fS s x y k ∧ fS s x y k ≤ 1 := by
  unfold fS
  split <;> omega
theorem m_suit_L {s : Rw} {x y : Int} {h : Hp} (hS : sok s) (w : WM s h) : ∀ (m n i : Nat), m < n → i + m = 144 →
    f_X5_suiting_L7 x y n (sm (fS s x y) i) (i : Int) h = some (sm (fS s x y) 144, h) := by
  intro m
  induction m with
  | zero =>
    intro n i hn hi
    obtain ⟨n, rfl⟩ : ∃ n', n = n' + 1 := ⟨n - 1, by omega⟩
    rw [f_X5_suiting_L7_s, if_pos (by omega), show i = 144 by omega]
  | succ m ih =>
    intro n i hn hi
    obtain ⟨n, rfl⟩ : ∃ n', n = n' + 1 := ⟨n - 1, by omega⟩
    have t : Int.tdiv (i : Int) 12 = ((i / 12 : Nat) : Int) := by
      rw [Int.tdiv_eq_ediv_of_nonneg (by omega)]
      omega
    have b := sm_b1 (fS_b s x y) i
    have k := ih n (i + 1) (by omega) (by omega)
    rw [show ((i + 1 : Nat) : Int) = (i : Int) + 1 by omega, sm_s] at k
    have no : fS s x y i = 0 → f_X5_suiting_J30 (f_X5_suiting_L7 x y n) x y (sm (fS s x y) i) (i : Int) 0 h = some (sm (fS s x y) 144, h) := fun e => by
      rw [e] at k
      unfold f_X5_suiting_J30 lv
      dsimp only
      rw [if_pos rfl, wr_id (by omega) (by omega), wr_id (by omega) (by omega)]
      exact k
    have yes : (if x = -1 then ((i % 12 : Nat) : Int) = y else ((i / 12 : Nat) : Int) = x) → f_X5_suiting_J30 (f_X5_suiting_L7 x y n) x y (sm (fS s x y) i) (i : Int) 1 h = some (sm (fS s x y) 144, h) := fun e => by
      unfold f_X5_suiting_J30 lv
      dsimp only
      rw [if_neg (by omega), if_pos (by unfold inb; omega), show ((i : Int)).toNat = i by omega, w i (by omega), wr_id (z := (i : Int) + 1) (by omega) (by omega), wr_id (z := sm (fS s x y) i + 0) (by omega) (by omega), wr_id (z := sm (fS s x y) i + 1) (by omega) (by omega)]
      by_cases c : suP s i
      · rw [if_neg (by have := (r81_su hS c).1; omega)]
        rw [show fS s x y i = 1 by unfold fS; rw [if_pos ⟨e, c⟩]] at k
        exact k
      · rw [if_pos (r81_no c)]
        rw [show fS s x y i = 0 by unfold fS; rw [if_neg (fun q => c q.2)]] at k
        exact k
    rw [f_X5_suiting_L7_s, if_neg (by omega), t, wr_id (z := ((i / 12 : Nat) : Int)) (by omega) (by omega), show (i : Int) - ((i / 12 : Nat) : Int) * 12 = ((i % 12 : Nat) : Int) by omega, wr_id (z := ((i % 12 : Nat) : Int)) (by omega) (by omega)]
    by_cases c1 : x = -1
    · rw [if_neg (by omega)]
      by_cases c2 : ((i % 12 : Nat) : Int) = y
      · rw [if_neg (by omega)]
        exact yes (by rw [if_pos c1]; exact c2)
      · rw [if_pos c2]
        exact no (by unfold fS; rw [if_neg (fun q => by have := q.1; rw [if_pos c1] at this; exact c2 this)])
    · rw [if_pos c1]
      by_cases c2 : ((i / 12 : Nat) : Int) = x
      · rw [if_neg (by omega)]
        exact yes (by rw [if_neg c1]; exact c2)
      · rw [if_pos c2]
        exact no (by unfold fS; rw [if_neg (fun q => by have := q.1; rw [if_neg c1] at this; exact c2 this)])
theorem m_suit {N : Int} {s : Rw} {x y : Int} {h : Hp} (hV : Vn s) (hD : Vd N s) (hN : N ≤ 1000000) (eg : gsl (h 77) (Int.toNat 0) = s) : ∃ h', f_X5_suiting x y h = some (sm (fS s x y) 144, h') ∧ FrX h h' := by
  obtain ⟨h1, a1, a2, a3, a4, a5⟩ := m_clears (b := 0) (by omega) hV hD hN eg
  unfold f_X5_suiting
  rw [a1, bd_s]
  exact ⟨h1, m_suit_L hD.2.2 a4 144 fu 0 (by have := fu_gt; omega) (by omega), a5⟩
theorem c_cs_L {s : Rw} {u : Nat} {h : Hp} (hV : Vn s) (w : WA s h) (hu : (u : Int) < s 15) : ∀ (m n c : Nat), m < n → (c : Int) + m = s 16 →
    f_X0_claimsSuiting_L4 (u : Int) n (sm (fS s (u : Int) (-1)) (12 * u + c)) (c : Int) h = some (sm (fS s (u : Int) (-1)) 144, h) := by
  intro m
  induction m with
  | zero =>
    intro n c hn hi
    obtain ⟨n, rfl⟩ : ∃ n', n = n' + 1 := ⟨n - 1, by omega⟩
    have v1 := hV.1
    have v2 := hV.2.1
    rw [f_X0_claimsSuiting_L4_s, w.2.1, if_pos (by omega)]
    rw [show 144 = (12 * u + c) + (144 - (12 * u + c)) by omega, sm_skip (a := 12 * u + c) (144 - (12 * u + c)) (fun k k1 k2 => ?_)]
    unfold fS
    refine if_neg (fun q => ?_)
    have q1 := q.1
    have q2 := q.2.1.2
    rw [if_neg (by omega)] at q1
    omega
  | succ m ih =>
    intro n c hn hi
    obtain ⟨n, rfl⟩ : ∃ n', n = n' + 1 := ⟨n - 1, by omega⟩
    have v1 := hV.1
    have v2 := hV.2.1
    have d := dv (u := u) (c := c) (by omega)
    have b := sm_b1 (fS_b s (u : Int) (-1)) (12 * u + c)
    have k := ih n (c + 1) (by omega) (by omega)
    rw [show ((c + 1 : Nat) : Int) = (c : Int) + 1 by omega, show 12 * u + (c + 1) = (12 * u + c) + 1 by omega, sm_s] at k
    rw [f_X0_claimsSuiting_L4_s, w.2.1, if_neg (by omega), c_suits hV w hu (by omega), bd_s, wr_id (z := (c : Int) + 1) (by omega) (by omega), wr_id (z := sm (fS s (u : Int) (-1)) (12 * u + c) + 1) (by omega) (by omega)]
    by_cases q : sut s u c
    · rw [show fS s (u : Int) (-1) (12 * u + c) = 1 by
        unfold fS
        rw [if_pos ⟨by rw [if_neg (by omega), d.1], ⟨by rw [d.1]; exact hu, by rw [d.2]; omega⟩, by rw [d.1, d.2]; exact q⟩]] at k
      rw [if_pos q, if_neg (by omega)]
      exact k
    · rw [show fS s (u : Int) (-1) (12 * u + c) = 0 by
        unfold fS
        rw [if_neg (fun e => q (by have := e.2.2; rw [d.1, d.2] at this; exact this))], Int.add_zero] at k
      rw [if_neg q, if_pos rfl]
      exact k
theorem c_cs {s : Rw} {u : Int} {h : Hp} (hV : Vn s) (w : WA s h) (h0 : 0 ≤ u) (hu : u < s 15) : f_X0_claimsSuiting u h = some (sm (fS s u (-1)) 144, h) := by
  have v2 := hV.2.1
  have k := c_cs_L (u := u.toNat) hV w (by omega) (s 16).toNat fu 0 (by have := fu_gt; omega) (by omega)
  rw [show ((u.toNat : Nat) : Int) = u by omega, show 12 * u.toNat + 0 = 0 + 12 * u.toNat by omega, sm_skip (12 * u.toNat) (fun k k1 k2 => by
    unfold fS
    refine if_neg (fun q => ?_)
    have q1 := q.1
    rw [if_neg (by omega)] at q1
    omega)] at k
  exact k
theorem c_us_L {s : Rw} {c : Nat} {h : Hp} (hV : Vn s) (w : WA s h) (hc : (c : Int) < s 16) : ∀ (m n u : Nat), m < n → (u : Int) + m = s 15 →
    f_X0_umbrellasSuiting_L4 (c : Int) n (sm (fS s (-1) (c : Int)) (12 * u)) (u : Int) h = some (sm (fS s (-1) (c : Int)) 144, h) := by
  intro m
  induction m with
  | zero =>
    intro n u hn hi
    obtain ⟨n, rfl⟩ : ∃ n', n = n' + 1 := ⟨n - 1, by omega⟩
    have v1 := hV.1
    have v2 := hV.2.1
    rw [f_X0_umbrellasSuiting_L4_s, w.1, if_pos (by omega)]
    rw [show 144 = (12 * u) + (144 - (12 * u)) by omega, sm_skip (a := 12 * u) (144 - (12 * u)) (fun k k1 k2 => ?_)]
    unfold fS
    refine if_neg (fun q => ?_)
    have q2 := q.2.1.1
    omega
  | succ m ih =>
    intro n u hn hi
    obtain ⟨n, rfl⟩ : ∃ n', n = n' + 1 := ⟨n - 1, by omega⟩
    have v1 := hV.1
    have v2 := hV.2.1
    have d := dv (u := u) (c := c) (by omega)
    have b := sm_b1 (fS_b s (-1) (c : Int)) (12 * u)
    have k := ih n (u + 1) (by omega) (by omega)
    have z : ∀ k, k / 12 = u → k % 12 ≠ c → fS s (-1) (c : Int) k = 0 := fun k k1 k2 => by
      unfold fS
      refine if_neg (fun q => ?_)
      have q1 := q.1
      rw [if_pos rfl] at q1
      omega
    rw [show ((u + 1 : Nat) : Int) = (u : Int) + 1 by omega, show 12 * (u + 1) = (12 * u + c + 1) + (11 - c) by omega, sm_skip (11 - c) (fun k k1 k2 => z k (by omega) (by omega)), sm_s, sm_skip c (fun k k1 k2 => z k (by omega) (by omega))] at k
    rw [f_X0_umbrellasSuiting_L4_s, w.1, if_neg (by omega), c_suits hV w (by omega) hc, bd_s, wr_id (z := (u : Int) + 1) (by omega) (by omega), wr_id (z := sm (fS s (-1) (c : Int)) (12 * u) + 1) (by omega) (by omega)]
    by_cases q : sut s u c
    · rw [show fS s (-1) (c : Int) (12 * u + c) = 1 by
        unfold fS
        rw [if_pos ⟨by rw [if_pos rfl, d.2], ⟨by rw [d.1]; omega, by rw [d.2]; exact hc⟩, by rw [d.1, d.2]; exact q⟩]] at k
      rw [if_pos q, if_neg (by omega)]
      exact k
    · rw [show fS s (-1) (c : Int) (12 * u + c) = 0 by
        unfold fS
        rw [if_neg (fun e => q (by have := e.2.2; rw [d.1, d.2] at this; exact this))], Int.add_zero] at k
      rw [if_neg q, if_pos rfl]
      exact k
theorem c_us {s : Rw} {c : Int} {h : Hp} (hV : Vn s) (w : WA s h) (h0 : 0 ≤ c) (hc : c < s 16) : f_X0_umbrellasSuiting c h = some (sm (fS s (-1) c) 144, h) := by
  have v1 := hV.1
  have k := c_us_L (c := c.toNat) hV w (by omega) (s 15).toNat fu 0 (by have := fu_gt; omega) (by omega)
  rw [show ((c.toNat : Nat) : Int) = c by omega] at k
  exact k
theorem c_worth {s : Rw} {u c : Int} {h : Hp} (hV : Vn s) (w : WA s h) (h0 : 0 ≤ u) (hu : u < s 15) (h1 : 0 ≤ c) (hc : c < s 16) : f_X0_worthOf u c h = some (pts s u.toNat c.toNat, h) := by
  obtain ⟨w7, w8, w⟩ := w
  have v1 := hV.1
  have v2 := hV.2.1
  have k := p_pair (u := u.toNat) (c := c.toNat) (h := h) (by omega) (by omega) (by omega) (by omega)
  rw [show ((u.toNat : Nat) : Int) = u by omega, show ((c.toNat : Nat) : Int) = c by omega] at k
  unfold f_X0_worthOf
  rw [k, bd_s, p_num (by omega) (by omega), bd_s, show (((12 * u.toNat + c.toNat : Nat) : Int)).toNat = 12 * u.toNat + c.toNat by omega, (w u.toNat c.toNat (by omega) (by omega) (by omega)).2.1]
end Reads1

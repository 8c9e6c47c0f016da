/-! the pure part: handing out: class and model on a state -/
section Hand1
theorem comm_w {s : Rw} {x K A C : Int} (h0 : 0 ≤ s 17) : wri (gup s 10 x) K A C = gup (wri s K A C) 10 x := by
  have g17 : gup s 10 x 17 = s 17 := gup_far (by decide)
  funext k
  by_cases c : k = 13 ∨ k = 17 ∨ 150 ≤ k
  · rw [gup_far (by omega)]
    exact wri_hi (gup_far (by decide)) (gup_far (by decide)) g17 (fun j hj => gup_far (by omega)) k c
  · rw [wri_lo (by rw [g17]; exact h0) (by omega) (by omega) (by omega)]
    by_cases c10 : k = 10
    · rw [gup_eq c10, gup_eq c10]
    · rw [gup_far c10, gup_far c10, wri_lo h0 (by omega) (by omega) (by omega)]
theorem comm_ug {s : Rw} {u : Nat} {x : Int} : ugo (gup s 10 x) u = gup (ugo s u) 10 x := by
  have g15 : gup s 10 x 15 = s 15 := gup_far (by decide)
  funext k
  by_cases c : k = 15
  · subst c
    rw [gup_far (by decide)]
    unfold ugo
    rw [if_pos rfl, if_pos rfl, g15]
  · rw [ugo_c c, g15]
    by_cases c10 : k = 10
    · rw [if_neg (by omega), gup_eq c10, gup_eq c10]
    · by_cases d : 18 + 5 * u ≤ k ∧ k < 18 + 5 * (s 15 - 1).toNat
      · rw [if_pos d, gup_far (by omega), gup_far c10, ugo_c c, if_pos d]
      · rw [if_neg d, gup_far c10, gup_far c10, ugo_c c, if_neg d]
theorem comm_cg {s : Rw} {u : Nat} {x : Int} : cgo (gup s 10 x) u = gup (cgo s u) 10 x := by
  have g16 : gup s 10 x 16 = s 16 := gup_far (by decide)
  funext k
  by_cases c : k = 16
  · subst c
    rw [gup_far (by decide)]
    unfold cgo
    rw [if_pos rfl, if_pos rfl, g16]
  · rw [cgo_c c, g16]
    by_cases c10 : k = 10
    · rw [if_neg (by omega), gup_eq c10, gup_eq c10]
    · by_cases d : 78 + 6 * u ≤ k ∧ k < 78 + 6 * (s 16 - 1).toNat
      · rw [if_pos d, gup_far (by omega), gup_far c10, cgo_c c, if_pos d]
      · rw [if_neg d, gup_far c10, gup_far c10, cgo_c c, if_neg d]
theorem comm_uc {s : Rw} {u c : Nat} (h15 : s 15 ≤ 12) (h16 : s 16 ≤ 12) : ugo (cgo s c) u = cgo (ugo s u) c := by
  have e15 : cgo s c 15 = s 15 := cgo_far h16 (by decide) (by decide)
  have e16 : ugo s u 16 = s 16 := ugo_far h15 (by decide) (by decide)
  funext k
  by_cases k15 : k = 15
  · subst k15
    rw [cgo_far (by rw [e16]; exact h16) (by decide) (by decide)]
    unfold ugo
    rw [if_pos rfl, if_pos rfl, e15]
  by_cases k16 : k = 16
  · subst k16
    rw [ugo_far (by rw [e15]; exact h15) (by decide) (by decide)]
    unfold cgo
    rw [if_pos rfl, if_pos rfl, e16]
  by_cases k78 : k < 78
  · rw [cgo_far (by rw [e16]; exact h16) k16 (by omega), ugo_c k15, ugo_c k15, e15]
    by_cases d : 18 + 5 * u ≤ k ∧ k < 18 + 5 * (s 15 - 1).toNat
    · rw [if_pos d, if_pos d, cgo_far h16 (by omega) (by omega)]
    · rw [if_neg d, if_neg d, cgo_far h16 k16 (by omega)]
  · rw [ugo_far (by rw [e15]; exact h15) k15 (by omega), cgo_c k16, cgo_c k16, e16]
    by_cases d : 78 + 6 * c ≤ k ∧ k < 78 + 6 * (s 16 - 1).toNat
    · rw [if_pos d, if_pos d, ugo_far h15 (by omega) (by omega)]
    · rw [if_neg d, if_neg d, ugo_far h15 k15 (by omega)]
/-- the umbrellas handed out are written into the book -/
noncomputable def hdW (U : Rw) : Nat → Nat → Rw → Rw
  | 0, _, s => s
  | m + 1, u, s => if U u = -1 then hdW U m (u + 1) s else hdW U m (u + 1) (wri s 0 (s (18 + 5 * u + 4)) (wr (s (18 + 5 * u + 4) * s 5)))
theorem hdW_s (U : Rw) (m u : Nat) (s : Rw) : hdW U (m + 1) u s = if U u = -1 then hdW U m (u + 1) s else hdW U m (u + 1) (wri s 0 (s (18 + 5 * u + 4)) (wr (s (18 + 5 * u + 4) * s 5))) := rfl
noncomputable def tk (j : Nat) (x : Int) : Int := if j = 0 then x else wr (x + j)
theorem tk_1 (j : Nat) (x : Int) : wr (tk j x + 1) = tk (j + 1) x := by
  unfold tk
  rw [if_neg (show ¬ j + 1 = 0 by omega)]
  by_cases c : j = 0
  · rw [if_pos c, c]
    rfl
  · rw [if_neg c, wr_def, wr_def, wr_def]
    omega
theorem tk_R {j : Nat} {x : Int} (h : iR x) : tk j x = wr (x + j) := by
  unfold tk
  by_cases c : j = 0
  · rw [if_pos c, c, show x + ((0 : Nat) : Int) = x by omega, wr_e h]
  · rw [if_neg c]
/-- how many of the umbrellas from u on, m of them, have a claim -/
def cnt (U : Rw) : Nat → Nat → Nat
  | 0, _ => 0
  | m + 1, u => (if U u = -1 then 0 else 1) + cnt U m (u + 1)
theorem cnt_s (U : Rw) (m u : Nat) : cnt U (m + 1) u = (if U u = -1 then 0 else 1) + cnt U m (u + 1) := rfl
theorem cnt_sm (U : Rw) : ∀ m u : Nat, sm (cF U) (u + m) = sm (cF U) u + cnt U m u := by
  intro m
  induction m with
  | zero => intro u; show sm (cF U) u = sm (cF U) u + ((0 : Nat) : Int); omega
  | succ m ih =>
    intro u
    have k := ih (u + 1)
    rw [show u + 1 + m = u + (m + 1) by omega, sm_s] at k
    rw [k, cnt_s]
    unfold cF
    by_cases c : U u = -1
    · rw [if_pos c, if_pos c]
      omega
    · rw [if_neg c, if_neg c]
      omega
theorem MC.frO {o : Nat} {h h' : Hp} {U C : Rw} (m : MC h U C) (ho : o ≤ 10) (f : FrO o h h') : MC h' U C := fun i hi => by
  rw [f 25 (by omega), f 26 (by omega)]
  exact m i hi
theorem c_hd1_L {o : Nat} {U C : Rw} {c33 : Hp → Option (Int × Hp)} (ho : o ≤ 10) : ∀ (m n u j : Nat) (h : Hp) (s : Rw) (x : Int), m < n → (u : Int) + m = s 15 → SR h o (gup s 10 (tk j x)) → Vn s → MC h U C →
    ∃ h', f_X1_handOut_L2 o c33 n (u : Int) h = c33 h' ∧ SR h' o (gup (hdW U m u s) 10 (tk (j + cnt U m u) x)) ∧ FrO o h h' ∧ Vn (hdW U m u s) := by
  intro m
  induction m with
  | zero =>
    intro n u j h s x hn hi R hV mc
    obtain ⟨n, rfl⟩ : ∃ n', n = n' + 1 := ⟨n - 1, by omega⟩
    have e15 : h (o + 1) 1 = s 15 := R.1.1.trans (gup_far (by decide))
    rw [f_X1_handOut_L2_s, e15, if_pos (by omega)]
    exact ⟨h, rfl, R, FrO.rf, hV⟩
  | succ m ih =>
    intro n u j h s x hn hi R hV mc
    obtain ⟨n, rfl⟩ : ∃ n', n = n' + 1 := ⟨n - 1, by omega⟩
    have v1 := hV.1
    have v3 := hV.2.2
    have gV : Vn (gup s 10 (tk j x)) := gup_V hV (by omega)
    have g15 : gup s 10 (tk j x) 15 = s 15 := gup_far (by decide)
    have e15 : h (o + 1) 1 = s 15 := R.1.1.trans g15
    rw [f_X1_handOut_L2_s, e15, if_neg (by omega), p_clM (by omega), bd_s, show ((u : Int)).toNat = u by omega, (mc u (by omega)).1, wr_id (z := (u : Int) + 1) (by omega) (by omega), hdW_s, cnt_s, show (u : Int) + 1 = ((u + 1 : Nat) : Int) by omega]
    by_cases c : U u = -1
    · rw [if_pos c, if_pos c, if_pos c, show j + (0 + cnt U m (u + 1)) = j + cnt U m (u + 1) by omega]
      exact ih n (u + 1) j h s x (by omega) (by omega) R hV mc
    · rw [if_neg c, if_neg c, if_neg c, c_cellU R gV (by rw [g15]; omega) (by omega), bd_s, p_setting (by omega) (by omega), bd_s, show ((u : Int)).toNat = u by omega, show Int.toNat 4 = 4 from rfl, gup_far (by omega), show h (o + 7) 4 = s 5 from (R.2.2.2.1 4 (by omega)).trans (gup_far (by decide))]
      obtain ⟨h1, a1, a2, a3⟩ := c_enter (x := 0) (y := s (18 + 5 * u + 4)) (z := wr (s (18 + 5 * u + 4) * s 5)) R gV
      have wV : Vn (wri s 0 (s (18 + 5 * u + 4)) (wr (s (18 + 5 * u + 4) * s 5))) := wri_V hV
      rw [comm_w v3.1] at a2
      obtain ⟨h2, b1, b2, b3⟩ := c_add (k := 7) (x := 1) a2 (gup_V wV (by omega)) (by omega) (by omega)
      rw [show Int.toNat 7 + 3 = 10 from rfl, gup_same, gup2, tk_1] at b2
      rw [a1, bd_s, b1, bd_s]
      obtain ⟨h3, d1, d2, d3, d4⟩ := ih n (u + 1) (j + 1) h2 _ x (by omega) (by rw [wri_lo v3.1 (by decide) (by decide) (by decide)]; omega) b2 wV ((mc.frO ho a3).frO ho b3)
      rw [show j + 1 + cnt U m (u + 1) = j + (1 + cnt U m (u + 1)) by omega] at d2
      exact ⟨h3, d1, d2, (a3.tr b3).tr d3, d4⟩
/-- the umbrellas, or claims, below k that are matched go -/
def gU (U : Rw) : Nat → Rw → Rw
  | 0, s => s
  | k + 1, s => gU U k (if U k = -1 then s else ugo s k)
def gC (C : Rw) : Nat → Rw → Rw
  | 0, s => s
  | k + 1, s => gC C k (if C k = -1 then s else cgo s k)
def gB (U C : Rw) : Nat → Rw → Rw
  | 0, s => s
  | k + 1, s => gB U C k (if C k = -1 then (if U k = -1 then s else ugo s k) else cgo (if U k = -1 then s else ugo s k) k)
theorem gU_s (U : Rw) (k : Nat) (s : Rw) : gU U (k + 1) s = gU U k (if U k = -1 then s else ugo s k) := rfl
theorem gC_s (C : Rw) (k : Nat) (s : Rw) : gC C (k + 1) s = gC C k (if C k = -1 then s else cgo s k) := rfl
theorem gB_s (U C : Rw) (k : Nat) (s : Rw) : gB U C (k + 1) s = gB U C k (if C k = -1 then (if U k = -1 then s else ugo s k) else cgo (if U k = -1 then s else ugo s k) k) := rfl
theorem u15 (s : Rw) (u : Nat) : ugo s u 15 = s 15 - 1 := by unfold ugo; rw [if_pos rfl]
theorem c16 (s : Rw) (u : Nat) : cgo s u 16 = s 16 - 1 := by unfold cgo; rw [if_pos rfl]
theorem gU_V {N : Int} {U : Rw} : ∀ (k : Nat) (s : Rw), Vn s → Vd N s → (∀ j, j < k → U j ≠ -1 → (j : Int) < s 15) → Vn (gU U k s) ∧ Vd N (gU U k s) ∧ (∀ j, j < 15 ∨ j = 16 → gU U k s j = s j) := by
  intro k
  induction k with
  | zero => intro s hV hD q; exact ⟨hV, hD, fun _ _ => rfl⟩
  | succ k ih =>
    intro s hV hD q
    rw [gU_s]
    by_cases c : U k = -1
    · rw [if_pos c]
      exact ih s hV hD (fun j hj => q j (by omega))
    · rw [if_neg c]
      have qk := q k (by omega) c
      obtain ⟨y1, y2, y3⟩ := ih (ugo s k) (ugo_V hV (by omega)) (Vd_ugo hD hV) (fun j hj _ => by rw [u15]; omega)
      exact ⟨y1, y2, fun j hj => (y3 j hj).trans (ugo_far hV.1.2 (by omega) (by omega))⟩
theorem gC_V {N : Int} {C : Rw} : ∀ (k : Nat) (s : Rw), Vn s → Vd N s → (∀ j, j < k → C j ≠ -1 → (j : Int) < s 16) → Vn (gC C k s) ∧ Vd N (gC C k s) ∧ (∀ j, j < 16 → gC C k s j = s j) := by
  intro k
  induction k with
  | zero => intro s hV hD q; exact ⟨hV, hD, fun _ _ => rfl⟩
  | succ k ih =>
    intro s hV hD q
    rw [gC_s]
    by_cases c : C k = -1
    · rw [if_pos c]
      exact ih s hV hD (fun j hj => q j (by omega))
    · rw [if_neg c]
      have qk := q k (by omega) c
      obtain ⟨y1, y2, y3⟩ := ih (cgo s k) (cgo_V hV (by omega)) (Vd_cgo hD hV) (fun j hj _ => by rw [c16]; omega)
      exact ⟨y1, y2, fun j hj => (y3 j hj).trans (cgo_far hV.2.1.2 (by omega) (by omega))⟩
theorem gU_c {U : Rw} {c : Nat} : ∀ (k : Nat) (s : Rw), s 15 ≤ 12 → s 16 ≤ 12 → gU U k (cgo s c) = cgo (gU U k s) c := by
  intro k
  induction k with
  | zero => intro s _ _; rfl
  | succ k ih =>
    intro s h15 h16
    rw [gU_s, gU_s]
    by_cases q : U k = -1
    · rw [if_pos q, if_pos q]
      exact ih s h15 h16
    · rw [if_neg q, if_neg q, comm_uc h15 h16]
      exact ih (ugo s k) (by rw [u15]; omega) (by rw [ugo_far h15 (by decide) (by decide)]; exact h16)
theorem gB_is {U C : Rw} : ∀ (k : Nat) (s : Rw), s 15 ≤ 12 → s 16 ≤ 12 → gB U C k s = gC C k (gU U k s) := by
  intro k
  induction k with
  | zero => intro s _ _; rfl
  | succ k ih =>
    intro s h15 h16
    rw [gB_s, gC_s, gU_s]
    have t15 : (if U k = -1 then s else ugo s k) 15 ≤ 12 := by
      split
      · exact h15
      · rw [u15]; omega
    have t16 : (if U k = -1 then s else ugo s k) 16 ≤ 12 := by
      split
      · exact h16
      · rw [ugo_far h15 (by decide) (by decide)]; exact h16
    by_cases c : C k = -1
    · rw [if_pos c, if_pos c]
      exact ih _ t15 t16
    · rw [if_neg c, if_neg c, ← gU_c k _ t15 t16]
      refine ih _ ?_ ?_
      · rw [cgo_far t16 (by decide) (by decide)]
        exact t15
      · rw [c16]
        omega
theorem gU_cut {U : Rw} {s : Rw} {a : Nat} : ∀ m : Nat, (∀ j, a ≤ j → j < a + m → U j = -1) → gU U (a + m) s = gU U a s := by
  intro m
  induction m with
  | zero => intro _; rfl
  | succ m ih =>
    intro q
    rw [show a + (m + 1) = (a + m) + 1 by omega, gU_s, if_pos (q _ (by omega) (by omega))]
    exact ih (fun j h1 h2 => q j h1 (by omega))
theorem gC_cut {C : Rw} {s : Rw} {a : Nat} : ∀ m : Nat, (∀ j, a ≤ j → j < a + m → C j = -1) → gC C (a + m) s = gC C a s := by
  intro m
  induction m with
  | zero => intro _; rfl
  | succ m ih =>
    intro q
    rw [show a + (m + 1) = (a + m) + 1 by omega, gC_s, if_pos (q _ (by omega) (by omega))]
    exact ih (fun j h1 h2 => q j h1 (by omega))
theorem gU_10 {U : Rw} {x : Int} : ∀ (k : Nat) (s : Rw), gU U k (gup s 10 x) = gup (gU U k s) 10 x := by
  intro k
  induction k with
  | zero => intro s; rfl
  | succ k ih =>
    intro s
    rw [gU_s, gU_s]
    by_cases c : U k = -1
    · rw [if_pos c, if_pos c]
      exact ih s
    · rw [if_neg c, if_neg c, comm_ug]
      exact ih _
theorem gC_10 {C : Rw} {x : Int} : ∀ (k : Nat) (s : Rw), gC C k (gup s 10 x) = gup (gC C k s) 10 x := by
  intro k
  induction k with
  | zero => intro s; rfl
  | succ k ih =>
    intro s
    rw [gC_s, gC_s]
    by_cases c : C k = -1
    · rw [if_pos c, if_pos c]
      exact ih s
    · rw [if_neg c, if_neg c, comm_cg]
      exact ih _
theorem c_hd2_L {o : Nat} {U C : Rw} {c52 : Hp → Option (Int × Hp)} (ho : o ≤ 10) : ∀ (k n : Nat) (h : Hp) (s : Rw), k < n → (k : Int) ≤ s 15 → SR h o s → Vn s → MC h U C →
    ∃ h', f_X1_handOut_L39 o c52 n ((k : Int) - 1) h = c52 h' ∧ SR h' o (gU U k s) ∧ FrO o h h' := by
  intro k
  induction k with
  | zero =>
    intro n h s hn hk R hV mc
    obtain ⟨n, rfl⟩ : ∃ n', n = n' + 1 := ⟨n - 1, by omega⟩
    rw [f_X1_handOut_L39_s, if_pos (by omega)]
    exact ⟨h, rfl, R, FrO.rf⟩
  | succ k ih =>
    intro n h s hn hk R hV mc
    obtain ⟨n, rfl⟩ : ∃ n', n = n' + 1 := ⟨n - 1, by omega⟩
    have v1 := hV.1
    rw [f_X1_handOut_L39_s, if_neg (by omega), show ((k + 1 : Nat) : Int) - 1 = (k : Int) by omega, p_clM (by omega), bd_s, show ((k : Int)).toNat = k by omega, (mc k (by omega)).1, wr_id (z := (k : Int) + -1) (by omega) (by omega), show (k : Int) + -1 = (k : Int) - 1 by omega, gU_s]
    by_cases c : U k = -1
    · rw [if_pos c, if_pos c]
      exact ih n h s (by omega) (by omega) R hV mc
    · obtain ⟨h1, a1, a2, a3⟩ := c_remU (u := (k : Int)) R hV (by omega) (by omega)
      rw [show ((k : Int)).toNat = k by omega] at a2
      rw [if_neg c, if_neg c, a1, bd_s]
      obtain ⟨h2, b1, b2, b3⟩ := ih n h1 (ugo s k) (by omega) (by rw [u15]; omega) a2 (ugo_V hV (by omega)) (mc.frO ho a3)
      exact ⟨h2, b1, b2, a3.tr b3⟩
theorem c_hd3_L {o : Nat} {U C : Rw} {r : Int} (ho : o ≤ 10) : ∀ (k n : Nat) (h : Hp) (s : Rw), k < n → (k : Int) ≤ s 16 → SR h o s → Vn s → MC h U C → h 19 9 = r →
    ∃ h', f_X1_handOut_L58 o n ((k : Int) - 1) h = some (r, h') ∧ SR h' o (gC C k s) ∧ FrO o h h' := by
  intro k
  induction k with
  | zero =>
    intro n h s hn hk R hV mc hr
    obtain ⟨n, rfl⟩ : ∃ n', n = n' + 1 := ⟨n - 1, by omega⟩
    rw [f_X1_handOut_L58_s, if_pos (by omega), hr]
    exact ⟨h, rfl, R, FrO.rf⟩
  | succ k ih =>
    intro n h s hn hk R hV mc hr
    obtain ⟨n, rfl⟩ : ∃ n', n = n' + 1 := ⟨n - 1, by omega⟩
    have v2 := hV.2.1
    rw [f_X1_handOut_L58_s, if_neg (by omega), show ((k + 1 : Nat) : Int) - 1 = (k : Int) by omega, p_umM (by omega), bd_s, show ((k : Int)).toNat = k by omega, (mc k (by omega)).2, wr_id (z := (k : Int) + -1) (by omega) (by omega), show (k : Int) + -1 = (k : Int) - 1 by omega, gC_s]
    by_cases c : C k = -1
    · rw [if_pos c, if_pos c]
      exact ih n h s (by omega) (by omega) R hV mc hr
    · obtain ⟨h1, a1, a2, a3⟩ := c_remC (u := (k : Int)) R hV (by omega) (by omega)
      rw [show ((k : Int)).toNat = k by omega] at a2
      rw [if_neg c, if_neg c, a1, bd_s]
      obtain ⟨h2, b1, b2, b3⟩ := ih n h1 (cgo s k) (by omega) (by rw [c16]; omega) a2 (cgo_V hV (by omega)) (mc.frO ho a3) (by rw [a3 19 (by omega)]; exact hr)
      exact ⟨h2, b1, b2, a3.tr b3⟩
/-- the state after all matched are handed out -/
noncomputable def hdF (s : Rw) : Rw := gup (gB (mtA s).1 (mtA s).2.1 12 (hdW (mtA s).1 (s 15).toNat 0 s)) 10 (wr (s 10 + (mtA s).2.2))
theorem hdW_V {N : Int} {U : Rw} : ∀ (m u : Nat) (s : Rw), Vn s → Vd N s → Vn (hdW U m u s) ∧ Vd N (hdW U m u s) ∧ (∀ j, j < 150 → j ≠ 13 → j ≠ 17 → hdW U m u s j = s j) := by
  intro m
  induction m with
  | zero => intro u s hV hD; exact ⟨hV, hD, fun _ _ _ _ => rfl⟩
  | succ m ih =>
    intro u s hV hD
    rw [hdW_s]
    by_cases c : U u = -1
    · rw [if_pos c]
      exact ih _ s hV hD
    · rw [if_neg c]
      obtain ⟨y1, y2, y3⟩ := ih (u + 1) _ (wri_V hV) (Vd_wri hD hV)
      exact ⟨y1, y2, fun j j1 j2 j3 => (y3 j j1 j2 j3).trans (wri_lo hV.2.2.1 j1 j2 j3)⟩
theorem mt_cut {s : Rw} : (∀ j, (mtA s).1 j ≠ -1 → (j : Int) < s 15) ∧ ∀ j, (mtA s).2.1 j ≠ -1 → (j : Int) < s 16 := by
  obtain ⟨I, J⟩ := mt0_I s
  obtain ⟨mi, mj⟩ := mtc_I 12 mt0 I J
  rw [show mtc s 12 mt0 = mtA s from rfl] at mi mj
  refine ⟨fun j hj => ?_, fun j hj => ?_⟩
  · rcases mi j with r | r
    · exact absurd r hj
    · exact r.2.2.1
  · rcases mj j with r | r
    · exact absurd r hj
    · exact r.2.2.1
theorem hdF_V {N : Int} {s : Rw} (hV : Vn s) (hD : Vd N s) : Vn (hdF s) ∧ Vd N (hdF s) ∧ hdF s 0 = s 0 := by
  obtain ⟨c1, c2⟩ := mt_cut (s := s)
  obtain ⟨w1, w2, w3⟩ := hdW_V (U := (mtA s).1) (s 15).toNat 0 s hV hD
  obtain ⟨g1, g2, g3⟩ := gU_V (U := (mtA s).1) 12 _ w1 w2 (fun j _ q => by rw [w3 15 (by omega) (by omega) (by omega)]; exact c1 j q)
  obtain ⟨k1, k2, k3⟩ := gC_V (C := (mtA s).2.1) 12 _ g1 g2 (fun j _ q => by rw [g3 16 (Or.inr rfl), w3 16 (by omega) (by omega) (by omega)]; exact c2 j q)
  unfold hdF
  rw [gB_is 12 _ w1.1.2 w1.2.1.2]
  refine ⟨gup_V k1 (by omega), Vd_gup k2 k1 (by omega), ?_⟩
  rw [gup_far (by omega), k3 0 (by omega), g3 0 (by omega), w3 0 (by omega) (by omega) (by omega)]
theorem c_hand {o : Nat} {s : Rw} {N : Int} {h : Hp} (ho : o ≤ 10) (hV : Vn s) (hD : Vd N s) (R : SR h o s) (m : MCq h (mtA s)) (h10 : iR (s 10)) :
    ∃ h', f_X1_handOut o h = some ((mtA s).2.2, h') ∧ SR h' o (hdF s) ∧ FrO o h h' := by
  have := fu_gt
  have v1 := hV.1
  have v2 := hV.2.1
  obtain ⟨q1, q2⟩ := mt_cut (s := s)
  have mn : (mtA s).2.2 = cU (mtA s).1 := mtc_n hV 12 mt0 rfl
  obtain ⟨w1, w2, w3⟩ := hdW_V (U := (mtA s).1) (s 15).toNat 0 s hV hD
  have g10 : gup s 10 (tk 0 (s 10)) = s := by
    funext k
    by_cases c : k = 10
    · rw [gup_eq c, c]
      rfl
    · rw [gup_far c]
  have ct : (mtA s).2.2 = ((cnt (mtA s).1 (s 15).toNat 0 : Nat) : Int) := by
    have k := cnt_sm (mtA s).1 (s 15).toNat 0
    rw [show sm (cF (mtA s).1) 0 = 0 from rfl, Nat.zero_add, Int.zero_add] at k
    rw [mn, ← k]
    unfold cU
    rw [show 12 = (s 15).toNat + (12 - (s 15).toNat) by omega, sm_skip (a := (s 15).toNat) _ (fun j j1 j2 => by
      unfold cF
      by_cases c : (mtA s).1 j = -1
      · rw [if_pos c]
      · have := q1 j c
        omega)]
  obtain ⟨h1, a1, a2, a3, a4⟩ := c_hd1_L (c33 := fun h6 => lv (wr ((h6 (o + 1) 1) - 1)) fun y7 => (f_X1_handOut_L39 o (fun h10 => lv (wr ((h10 (o + 3) 1) - 1)) fun y11 => (f_X1_handOut_L58 o fu y11 h10)) fu y7 h6)) ho (s 15).toNat fu 0 0 h s (s 10) (by omega) (by omega) (by rw [g10]; exact R) hV m.1
  rw [Nat.zero_add, tk_R h10, ← ct] at a2
  have x1 : Vn (gup (hdW (mtA s).1 (s 15).toNat 0 s) 10 (wr (s 10 + (mtA s).2.2))) := gup_V w1 (by omega)
  have x15 : gup (hdW (mtA s).1 (s 15).toNat 0 s) 10 (wr (s 10 + (mtA s).2.2)) 15 = s 15 := (gup_far (by decide)).trans (w3 15 (by omega) (by omega) (by omega))
  have x16 : gup (hdW (mtA s).1 (s 15).toNat 0 s) 10 (wr (s 10 + (mtA s).2.2)) 16 = s 16 := (gup_far (by decide)).trans (w3 16 (by omega) (by omega) (by omega))
  have xD : Vd N (gup (hdW (mtA s).1 (s 15).toNat 0 s) 10 (wr (s 10 + (mtA s).2.2))) := Vd_gup w2 w1 (by omega)
  obtain ⟨h2, b1, b2, b3⟩ := c_hd2_L (c52 := fun h10 => lv (wr ((h10 (o + 3) 1) - 1)) fun y11 => (f_X1_handOut_L58 o fu y11 h10)) ho (s 15).toNat fu h1 _ (by omega) (by rw [x15]; omega) a2 x1 (m.1.frO ho a3)
  obtain ⟨y1, y2, y3⟩ := gU_V (U := (mtA s).1) (s 15).toNat _ x1 xD (fun j _ q => by rw [x15]; exact q1 j q)
  obtain ⟨h3, d1, d2, d3⟩ := c_hd3_L (r := (mtA s).2.2) ho (s 16).toNat fu h2 _ (by omega) (by rw [y3 16 (Or.inr rfl), x16]; omega) b2 y1 ((m.1.frO ho a3).frO ho b3) (by rw [b3 19 (by omega), a3 19 (by omega)]; exact m.2)
  rw [show ((0 : Nat) : Int) = 0 from rfl] at a1
  have e15 : h1 (o + 1) 1 = s 15 := a2.1.1.trans x15
  have e16 : h2 (o + 3) 1 = s 16 := b2.2.1.1.trans ((y3 16 (Or.inr rfl)).trans x16)
  refine ⟨h3, ?_, ?_, (a3.tr b3).tr d3⟩
  · unfold f_X1_handOut
    rw [a1]
    unfold lv at b1 ⊢
    dsimp only at b1 ⊢
    rw [e15, wr_id (by omega) (by omega), show s 15 - 1 = (((s 15).toNat : Nat) : Int) - 1 by omega, b1, e16, wr_id (by omega) (by omega), show s 16 - 1 = (((s 16).toNat : Nat) : Int) - 1 by omega, d1]
  · have cu : ∀ t, gU (mtA s).1 12 t = gU (mtA s).1 (s 15).toNat t := fun t => by
      rw [show 12 = (s 15).toNat + (12 - (s 15).toNat) by omega]
      exact gU_cut _ (fun j j1 j2 => by
        by_cases c : (mtA s).1 j = -1
        · exact c
        · have := q1 j c
          omega)
    have cc : ∀ t, gC (mtA s).2.1 12 t = gC (mtA s).2.1 (s 16).toNat t := fun t => by
      rw [show 12 = (s 16).toNat + (12 - (s 16).toNat) by omega]
      exact gC_cut _ (fun j j1 j2 => by
        by_cases c : (mtA s).2.1 j = -1
        · exact c
        · have := q2 j c
          omega)
    unfold hdF
    rw [gB_is 12 _ w1.1.2 w1.2.1.2, ← gC_10, ← gU_10, cc, cu]
    exact d2
end Hand1

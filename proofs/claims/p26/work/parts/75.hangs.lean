/-! umbrellas, claims and pairs hang together: all but the pairs that are not matched -/
section Hangs26
/-- the oddness of the oddest of the first n umbrellas -/
def mxo (s : Rw) : Nat → Int
  | 0 => -1
  | n + 1 => if odt s n ≤ mxo s n then mxo s n else odt s n
theorem odt_0 {s : Rw} (hV : Vn s) (u : Nat) : 0 ≤ odt s u ∧ odt s u ≤ 208 := sm_b52 (odF_b hV u) 4
theorem mxo_is {s : Rw} (hV : Vn s) : ∀ n : Nat, odB s n = -1 ∧ n = 0 ∨ (0 ≤ odB s n ∧ odB s n < n ∧ mxo s n = odt s (odB s n).toNat) := by
  intro n
  induction n with
  | zero => exact Or.inl ⟨rfl, rfl⟩
  | succ n ih =>
    right
    have ob := odB_b s n
    have o0 := odt_0 hV n
    show 0 ≤ (if odB s n = -1 then (n : Int) else if odt s n ≤ odt s (odB s n).toNat then odB s n else (n : Int)) ∧ (if odB s n = -1 then (n : Int) else if odt s n ≤ odt s (odB s n).toNat then odB s n else (n : Int)) < ((n + 1 : Nat) : Int) ∧ (if odt s n ≤ mxo s n then mxo s n else odt s n) = odt s (if odB s n = -1 then (n : Int) else if odt s n ≤ odt s (odB s n).toNat then odB s n else (n : Int)).toNat
    rcases ih with ⟨i1, i2⟩ | ⟨i1, i2, i3⟩
    · subst i2
      rw [if_pos i1, show mxo s 0 = -1 from rfl, if_neg (by omega)]
      exact ⟨by omega, by omega, rfl⟩
    · rw [if_neg (show ¬ odB s n = -1 by omega), i3]
      by_cases c : odt s n ≤ odt s (odB s n).toNat
      · rw [if_pos c, if_pos c]
        exact ⟨i1, by omega, rfl⟩
      · rw [if_neg c, if_neg c, show ((n : Int)).toNat = n by omega]
        exact ⟨by omega, by omega, rfl⟩
theorem mxo_b {s : Rw} (hV : Vn s) : ∀ n : Nat, -1 ≤ mxo s n ∧ mxo s n ≤ 208 := by
  intro n
  induction n with
  | zero => exact ⟨Int.le_refl _, by show (-1 : Int) ≤ 208; omega⟩
  | succ n ih =>
    have o0 := odt_0 hV n
    unfold mxo
    split <;> omega
theorem l_h24 {Q : Hp → Prop} {v x1 x2 x3 x4 x7 N : Int} {c : Int → Hp → Option (Int × Hp)} {S : Nat → Rw} {n u : Nat} (hN : N ≤ 1000000) (hu : (u : Int) < S 0 15) : ∀ (m nn i : Nat) (h : Hp), i + m = 4 → m < nn → St n N S h → (∀ h', St n N S h' → Fin Q v (c (odt (S 0) u) h')) → Fin Q v (f_L_hangs_L24 x1 x2 x3 x4 (u : Int) x7 c nn (sm (odF (S 0) u) i) (i : Int) h) := by
  intro m
  induction m with
  | zero =>
    intro nn i h hi hn R k
    obtain ⟨nn, rfl⟩ : ∃ n', nn = n' + 1 := ⟨nn - 1, by omega⟩
    obtain rfl : i = 4 := by omega
    rw [f_L_hangs_L24_s, if_pos (by omega)]
    exact k h R
  | succ m ih =>
    intro nn i h hi hn R k
    obtain ⟨nn, rfl⟩ : ∃ n', nn = n' + 1 := ⟨nn - 1, by omega⟩
    have vg := R.2.2.2.2.1.1
    have vd := R.2.2.2.2.1.2.1
    have b := sm_b52 (odF_b vg u) i
    have b2 := odF_b vg u i
    rw [f_L_hangs_L24_s, if_neg (by omega)]
    refine Fin.go (u_cell (w := i) hN R hu (by omega)) (fun h1 R1 _ => ?_)
    refine Fin.go (h_val (w := i) R1 (by omega) (vd.1 u i hu (by omega))) (fun h2 R2 _ => ?_)
    unfold lv
    dsimp only
    have k2 := ih nn (i + 1) h2 (by omega) (by omega) R2 k
    rw [show ((i + 1 : Nat) : Int) = (i : Int) + 1 by omega, sm_s] at k2
    rw [show 13 - cn (S 0) i (S 0 (18 + 5 * u + i)) (S 0 15).toNat = odF (S 0) u i from rfl, wr_id (z := odF (S 0) u i) (by omega) (by omega), wr_id (z := sm (odF (S 0) u) i + odF (S 0) u i) (by omega) (by omega), wr_id (z := (i : Int) + 1) (by omega) (by omega)]
    exact k2
theorem fS_sum (s : Rw) (x y : Int) : 0 ≤ sm (fS s x y) 144 ∧ sm (fS s x y) 144 ≤ 144 := sm_b1 (fS_b s x y) 144
theorem cF_b (U : Rw) (u : Nat) : 0 ≤ cF U u ∧ cF U u ≤ 1 := by
  unfold cF
  split <;> omega
theorem l_h112 {Q : Hp → Prop} {v N : Int} {c : Int → Int → Int → Int → Int → Hp → Option (Int × Hp)} {S : Nat → Rw} {n u : Nat} {h : Hp} {x1 x2 x3 y : Int} (hN : N ≤ 1000000) (R : St n N S h) (hu : (u : Int) < S 0 15) (k : ∀ h', St n N S h' → Fin Q v (c x1 x2 x3 y ((u : Int) + 1) h')) :
    Fin Q v (f_L_hangs_J112 c x1 x2 x3 y (u : Int) (nf ((mtA (S 0)).1 u)) h) := by
  have vg := R.2.2.2.2.1.1
  have v1 := vg.1
  unfold f_L_hangs_J112
  rw [wr_id (z := (u : Int) + 1) (by omega) (by omega)]
  by_cases e : (mtA (S 0)).1 u = -1
  · rw [if_neg (by unfold nf; rw [if_pos e]; omega)]
    refine Fin.go (u_pts hN R hu) (fun h1 R1 _ => ?_)
    rw [if_pos (by unfold nf mpt; rw [if_pos e, if_pos e])]
    exact k h1 R1
  · rcases mg_range vg (mtA_I (S 0)).1 u with r | ⟨-, w, -, r⟩
    · exact absurd r e
    · rw [if_pos (by unfold nf; rw [if_neg e]; omega)]
      exact k h R
theorem l_h65 {Q : Hp → Prop} {v N : Int} {c : Int → Int → Int → Int → Int → Hp → Option (Int × Hp)} {S : Nat → Rw} {n u : Nat} {h : Hp} {x1 x2 x3 y g : Int} (hN : N ≤ 1000000) (R : St n N S h) (hu : (u : Int) < S 0 15) (b1 : 0 ≤ x1 ∧ x1 ≤ 10000) (b3 : 0 ≤ x3 ∧ x3 ≤ 10000) (bg : 0 ≤ g ∧ g ≤ 52)
    (k : ∀ h', St n N S h' → Fin Q v (c (x1 + g) x2 (x3 + sm (fS (S 0) (u : Int) (-1)) 144) y ((u : Int) + 1) h')) :
    Fin Q v (f_L_hangs_J65 c x2 x3 y (u : Int) (odt (S 0) u) (nf ((mtA (S 0)).1 u)) x1 g h) := by
  have vg := R.2.2.2.2.1.1
  have vd := R.2.2.2.2.1.2.1
  have v1 := vg.1
  have v2 := vg.2.1
  have fb := fS_sum (S 0) (u : Int) (-1)
  unfold f_L_hangs_J65 lv
  dsimp only
  rw [wr_id (z := x1 + g) (by omega) (by omega)]
  refine Fin.go (u_suit hN R hu) (fun h1 R1 _ => ?_)
  rw [wr_id (z := x3 + sm (fS (S 0) (u : Int) (-1)) 144) (by omega) (by omega)]
  refine Fin.go (u_odd hN R1 hu) (fun h2 R2 _ => ?_)
  rw [if_neg (show ¬ ¬ odt (S 0) u = odt (S 0) u from fun z => z rfl)]
  by_cases e : (mtA (S 0)).1 u = -1
  · rw [if_pos (by unfold nf; rw [if_pos e]; omega)]
    exact l_h112 hN R2 hu k
  · rcases (mtA_I (S 0)).1 u with r | r
    · exact absurd r e
    obtain ⟨r1, r2, r3, r4, r5⟩ := r
    obtain ⟨w, hw⟩ : ∃ w : Nat, (mtA (S 0)).1 u = w := ⟨((mtA (S 0)).1 u).toNat, by omega⟩
    have en : nf ((mtA (S 0)).1 u) = (w : Int) := by
      unfold nf
      rw [if_neg e]
      exact hw
    rw [hw, show ((w : Int)).toNat = w by omega] at r4 r5
    have ws : (w : Int) < S 0 16 := by omega
    have em : mpt (S 0) u = pts (S 0) u w := by
      unfold mpt
      rw [if_neg e, hw, show ((w : Int)).toNat = w by omega]
    have pb := pts_rng R2 hN hu ws
    have fin := fun h9 (R9 : St n N S h9) => l_h112 (Q := Q) (v := v) (c := c) (x1 := x1 + g) (x2 := x2) (x3 := x3 + sm (fS (S 0) (u : Int) (-1)) 144) (y := y) hN R9 hu k
    rw [en] at fin ⊢
    rw [if_neg (show ¬ (w : Int) < 0 by omega)]
    refine Fin.go (l_mate hN R2 ws) (fun h3 R3 _ => ?_)
    rw [if_neg (by unfold nf; rw [r5, if_neg (show ¬ (u : Int) = -1 by omega)]; exact fun z => z rfl)]
    refine Fin.go (w_pts hN R3 hu ws) (fun h4 R4 _ => ?_)
    refine Fin.go (u_pts hN R4 hu) (fun h5 R5 _ => ?_)
    rw [em, wr_id (z := 1000 + pts (S 0) u w) (by omega) (by omega), if_neg (show ¬ ¬ 1000 + pts (S 0) u w = 1000 + pts (S 0) u w from fun z => z rfl)]
    refine Fin.go (u_pts hN R5 hu) (fun h6 R6 _ => ?_)
    refine Fin.go (cnt_23 hN R6) (fun h7 R7 _ => ?_)
    rw [em, if_neg (by have := r4.2; omega)]
    refine Fin.go (w_why hN R7 hu ws) (fun h8 R8 _ => ?_)
    rw [if_neg (show ¬ ¬ (if (mtA (S 0)).1 u = (w : Int) then (0 : Int) else if S 0 1 < mis (S 0) u w then 1 else if pts (S 0) u w < S 0 4 then 2 else if (mtA (S 0)).1 u ≠ -1 ∧ (pts (S 0) u w < pts (S 0) u ((mtA (S 0)).1 u).toNat ∨ (pts (S 0) u w = pts (S 0) u ((mtA (S 0)).1 u).toNat ∧ (mtA (S 0)).1 u < (w : Int))) then 3 else 4) = 0 from fun z => z (if_pos hw))]
    exact fin h8 R8
theorem l_h47 {Q : Hp → Prop} {v N : Int} {c : Int → Int → Int → Int → Int → Hp → Option (Int × Hp)} {S : Nat → Rw} {n u : Nat} {h : Hp} {x1 x2 x3 y : Int} (hN : N ≤ 1000000) (R : St n N S h) (hu : (u : Int) < S 0 15) (b1 : 0 ≤ x1 ∧ x1 ≤ 10000) (b2 : 0 ≤ x2 ∧ x2 ≤ 10000) (b3 : 0 ≤ x3 ∧ x3 ≤ 10000)
    (k : ∀ h', St n N S h' → Fin Q v (c (x1 + gF (S 0) (mtA (S 0)).1 u) (x2 + cF (mtA (S 0)).1 u) (x3 + sm (fS (S 0) (u : Int) (-1)) 144) y ((u : Int) + 1) h')) :
    Fin Q v (f_L_hangs_J47 c x1 x2 x3 (u : Int) (odt (S 0) u) (nf ((mtA (S 0)).1 u)) y h) := by
  have vg := R.2.2.2.2.1.1
  have vd := R.2.2.2.2.1.2.1
  have gb := gF_b vg vd (mtA_I (S 0)).1 u
  unfold f_L_hangs_J47 f_L_hangs_J54 lv
  dsimp only
  by_cases e : (mtA (S 0)).1 u = -1
  · have g0 : gF (S 0) (mtA (S 0)).1 u = 0 := by
      unfold gF
      rw [if_pos e]
    have c0 : cF (mtA (S 0)).1 u = 0 := by
      unfold cF
      rw [if_pos e]
    have ng : nf ((mtA (S 0)).1 u) < 0 := by
      unfold nf
      rw [if_pos e]
      omega
    rw [if_pos ng, if_pos ng, wr_id (z := x2 + 0) (by omega) (by omega)]
    rw [g0, c0] at k
    exact l_h65 hN R hu b1 b3 (by omega) k
  · rcases mg_range vg (mtA_I (S 0)).1 u with r | ⟨-, w, -, r⟩
    · exact absurd r e
    have c0 : cF (mtA (S 0)).1 u = 1 := by
      unfold cF
      rw [if_neg e]
    have g0 : gF (S 0) (mtA (S 0)).1 u = mpt (S 0) u := by
      unfold gF mpt
      rw [if_neg e, if_neg e]
    have ng : ¬ nf ((mtA (S 0)).1 u) < 0 := by
      unfold nf
      rw [if_neg e]
      omega
    rw [if_neg ng, if_neg ng, wr_id (z := x2 + 1) (by omega) (by omega)]
    rw [g0] at gb
    rw [g0, c0] at k
    refine Fin.go (u_pts hN R hu) (fun h1 R1 _ => ?_)
    exact l_h65 hN R1 hu b1 b3 gb.2.2 k
def suU (s : Rw) (u : Nat) : Int := sm (fS s (u : Int) (-1)) 144
def suC (s : Rw) (c : Nat) : Int := sm (fS s (-1) (c : Int)) 144
theorem su_sum {f : Nat → Int} (q : ∀ k, 0 ≤ f k ∧ f k ≤ 144) : ∀ n : Nat, 0 ≤ sm f n ∧ sm f n ≤ 144 * n := by
  intro n
  induction n with
  | zero => exact ⟨Int.le_refl 0, Int.le_refl 0⟩
  | succ n ih =>
    have := q n
    rw [sm_s]
    omega
theorem l_hL10 {Q : Hp → Prop} {v N : Int} {c : Int → Int → Int → Int → Hp → Option (Int × Hp)} {S : Nat → Rw} {n : Nat} (hN : N ≤ 1000000) : ∀ (m nn u : Nat) (h : Hp), (u : Int) + m = S 0 15 → m < nn → St n N S h →
    (∀ h', St n N S h' → Fin Q v (c (sm (gF (S 0) (mtA (S 0)).1) (S 0 15).toNat) (sm (cF (mtA (S 0)).1) (S 0 15).toNat) (sm (suU (S 0)) (S 0 15).toNat) (mxo (S 0) (S 0 15).toNat) h')) →
    Fin Q v (f_L_hangs_L10 c nn (sm (gF (S 0) (mtA (S 0)).1) u) (sm (cF (mtA (S 0)).1) u) (sm (suU (S 0)) u) (mxo (S 0) u) (u : Int) h) := by
  intro m
  induction m with
  | zero =>
    intro nn u h hi hn R k
    obtain ⟨nn, rfl⟩ : ∃ n', nn = n' + 1 := ⟨nn - 1, by omega⟩
    rw [f_L_hangs_L10_s]
    refine Fin.go (cnt_1 hN R) (fun h1 R1 _ => ?_)
    rw [if_pos (by omega), show u = (S 0 15).toNat by omega]
    exact k h1 R1
  | succ m ih =>
    intro nn u h hi hn R k
    obtain ⟨nn, rfl⟩ : ∃ n', nn = n' + 1 := ⟨nn - 1, by omega⟩
    have vg := R.2.2.2.2.1.1
    have vd := R.2.2.2.2.1.2.1
    have v1 := vg.1
    have hu : (u : Int) < S 0 15 := by omega
    have b1 := sm_b52 (fun k => (gF_b vg vd (mtA_I (S 0)).1 k).2.2) u
    have b2 := sm_b1 (cF_b (mtA (S 0)).1) u
    have b3 := su_sum (f := suU (S 0)) (fun k => fS_sum (S 0) (k : Int) (-1)) u
    have := fu_gt
    rw [f_L_hangs_L10_s]
    refine Fin.go (cnt_1 hN R) (fun h1 R1 _ => ?_)
    rw [if_neg (by omega)]
    refine Fin.go (u_mate hN R1 hu) (fun h2 R2 _ => ?_)
    have one : ∀ h', St n N S h' → Fin Q v (f_L_hangs_L10 c nn (sm (gF (S 0) (mtA (S 0)).1) u + gF (S 0) (mtA (S 0)).1 u) (sm (cF (mtA (S 0)).1) u + cF (mtA (S 0)).1 u) (sm (suU (S 0)) u + sm (fS (S 0) (u : Int) (-1)) 144) (if odt (S 0) u ≤ mxo (S 0) u then mxo (S 0) u else odt (S 0) u) ((u : Int) + 1) h') := fun h' R' => by
      have k2 := ih nn (u + 1) h' (by omega) (by omega) R' k
      rw [sm_s, sm_s, sm_s, show ((u + 1 : Nat) : Int) = (u : Int) + 1 by omega] at k2
      exact k2
    have k3 := l_h24 (Q := Q) (v := v) (x1 := sm (gF (S 0) (mtA (S 0)).1) u) (x2 := sm (cF (mtA (S 0)).1) u) (x3 := sm (suU (S 0)) u) (x4 := mxo (S 0) u) (x7 := nf ((mtA (S 0)).1 u)) (c := fun y6 h7 => if y6 ≤ mxo (S 0) u then f_L_hangs_J47 (f_L_hangs_L10 c nn) (sm (gF (S 0) (mtA (S 0)).1) u) (sm (cF (mtA (S 0)).1) u) (sm (suU (S 0)) u) (u : Int) y6 (nf ((mtA (S 0)).1 u)) (mxo (S 0) u) h7 else f_L_hangs_J47 (f_L_hangs_L10 c nn) (sm (gF (S 0) (mtA (S 0)).1) u) (sm (cF (mtA (S 0)).1) u) (sm (suU (S 0)) u) (u : Int) y6 (nf ((mtA (S 0)).1 u)) y6 h7) hN hu 4 fu 0 h2 (by omega) (by omega) R2 (fun h' R' => by
      by_cases c1 : odt (S 0) u ≤ mxo (S 0) u
      · rw [if_pos c1]
        rw [if_pos c1] at one
        exact l_h47 hN R' hu (by omega) (by omega) (by omega) one
      · rw [if_neg c1]
        rw [if_neg c1] at one
        exact l_h47 hN R' hu (by omega) (by omega) (by omega) one)
    exact k3
/-! the claims -/
theorem l_hL126 {Q : Hp → Prop} {v N x1 x4 P T : Int} {c : Int → Int → Hp → Option (Int × Hp)} {S : Nat → Rw} {n : Nat} (hN : N ≤ 1000000) (bP : -1000 ≤ P ∧ P ≤ 1000) (bT : -5000 ≤ T ∧ T ≤ 5000) : ∀ (m nn i : Nat) (h : Hp), (i : Int) + m = S 0 16 → m < nn → St n N S h →
    (∀ h', St n N S h' → Fin Q v (c (P - sm (cF (mtA (S 0)).2.1) (S 0 16).toNat) (T - sm (suC (S 0)) (S 0 16).toNat) h')) →
    Fin Q v (f_L_hangs_L126 x1 x4 c nn (P - sm (cF (mtA (S 0)).2.1) i) (T - sm (suC (S 0)) i) (i : Int) h) := by
  intro m
  induction m with
  | zero =>
    intro nn i h hi hn R k
    obtain ⟨nn, rfl⟩ : ∃ n', nn = n' + 1 := ⟨nn - 1, by omega⟩
    rw [f_L_hangs_L126_s]
    refine Fin.go (cnt_2 hN R) (fun h1 R1 _ => ?_)
    rw [if_pos (by omega), show i = (S 0 16).toNat by omega]
    exact k h1 R1
  | succ m ih =>
    intro nn i h hi hn R k
    obtain ⟨nn, rfl⟩ : ∃ n', nn = n' + 1 := ⟨nn - 1, by omega⟩
    have vg := R.2.2.2.2.1.1
    have vd := R.2.2.2.2.1.2.1
    have v1 := vg.1
    have v2 := vg.2.1
    have hc : (i : Int) < S 0 16 := by omega
    have b2 := sm_b1 (cF_b (mtA (S 0)).2.1) i
    have b2' := cF_b (mtA (S 0)).2.1 i
    have b3 := su_sum (f := suC (S 0)) (fun k => fS_sum (S 0) (-1) (k : Int)) i
    have b3' := fS_sum (S 0) (-1) (i : Int)
    have db := (vd.2.1 i hc).2
    rw [f_L_hangs_L126_s]
    refine Fin.go (cnt_2 hN R) (fun h1 R1 _ => ?_)
    rw [if_neg (by omega)]
    refine Fin.go (l_mate hN R1 hc) (fun h2 R2 _ => ?_)
    refine Fin.go (l_suit hN R2 hc) (fun h3 R3 _ => ?_)
    unfold lv
    dsimp only
    rw [show sm (fS (S 0) (-1) (i : Int)) 144 = suC (S 0) i from rfl] at b3' ⊢
    rw [wr_id (z := T - sm (suC (S 0)) i - suC (S 0) i) (by omega) (by omega)]
    have last : ∀ h', St n N S h' → Fin Q v (f_L_hangs_J159 (f_L_hangs_L126 x1 x4 c nn) x1 (P - sm (cF (mtA (S 0)).2.1) i - cF (mtA (S 0)).2.1 i) (T - sm (suC (S 0)) i - suC (S 0) i) x4 (i : Int) h') := fun h' R' => by
      unfold f_L_hangs_J159
      refine Fin.go (l_doubt hN R' hc) (fun h9 R9 _ => ?_)
      rw [if_pos db.1, wr_id (z := (i : Int) + 1) (by omega) (by omega)]
      have k2 := ih nn (i + 1) h9 (by omega) (by omega) R9 k
      rw [sm_s, sm_s, show ((i + 1 : Nat) : Int) = (i : Int) + 1 by omega, ← Int.sub_sub, ← Int.sub_sub] at k2
      exact k2
    by_cases e : (mtA (S 0)).2.1 i = -1
    · have ng : nf ((mtA (S 0)).2.1 i) < 0 := by
        unfold nf
        rw [if_pos e]
        omega
      rw [if_pos ng]
      unfold f_L_hangs_J149 lv
      dsimp only
      rw [if_pos ng, wr_id (z := P - sm (cF (mtA (S 0)).2.1) i - 0) (by omega) (by omega)]
      rw [show cF (mtA (S 0)).2.1 i = 0 by unfold cF; rw [if_pos e]] at last
      exact last h3 R3
    · rcases (mtA_I (S 0)).2 i with r | r
      · exact absurd r e
      obtain ⟨r1, r2, r3, r4⟩ := r
      obtain ⟨w, hw⟩ : ∃ w : Nat, (mtA (S 0)).2.1 i = w := ⟨((mtA (S 0)).2.1 i).toNat, by omega⟩
      rw [hw, show ((w : Int)).toNat = w by omega] at r4
      have en : nf ((mtA (S 0)).2.1 i) = (w : Int) := by
        unfold nf
        rw [if_neg e]
        exact hw
      rw [en, if_neg (show ¬ (w : Int) < 0 by omega)]
      unfold f_L_hangs_J149 lv
      dsimp only
      rw [if_neg (show ¬ (w : Int) < 0 by omega), wr_id (z := P - sm (cF (mtA (S 0)).2.1) i - 1) (by omega) (by omega)]
      refine Fin.go (u_mate hN R3 (u := w) (by omega)) (fun h4 R4 _ => ?_)
      rw [if_neg (by unfold nf; rw [r4, if_neg (show ¬ (i : Int) = -1 by omega)]; exact fun z => z rfl)]
      rw [show cF (mtA (S 0)).2.1 i = 1 by unfold cF; rw [if_neg e]] at last
      exact last h4 R4
/-! how many have a value -/
theorem cn_sum {s : Rw} {j : Nat} (hj : j < 4) (q : uok s) : ∀ n : Nat, (n : Int) ≤ s 15 → sm (fun v => cn s j (v : Int) n) 10 = n := by
  intro n
  induction n with
  | zero => intro _; rfl
  | succ n ih =>
    intro h
    have b := q n j (by omega) hj
    have i := ih (by omega)
    have e : ∀ v : Int, cn s j v (n + 1) = cn s j v n + if s (18 + 5 * n + j) = v then 1 else 0 := fun v => rfl
    show (0 : Int) + cn s j 0 (n + 1) + cn s j 1 (n + 1) + cn s j 2 (n + 1) + cn s j 3 (n + 1) + cn s j 4 (n + 1) + cn s j 5 (n + 1) + cn s j 6 (n + 1) + cn s j 7 (n + 1) + cn s j 8 (n + 1) + cn s j 9 (n + 1) = _
    have i' : (0 : Int) + cn s j 0 n + cn s j 1 n + cn s j 2 n + cn s j 3 n + cn s j 4 n + cn s j 5 n + cn s j 6 n + cn s j 7 n + cn s j 8 n + cn s j 9 n = n := i
    rw [e, e, e, e, e, e, e, e, e, e]
    rcases (show s (18 + 5 * n + j) = 0 ∨ s (18 + 5 * n + j) = 1 ∨ s (18 + 5 * n + j) = 2 ∨ s (18 + 5 * n + j) = 3 ∨ s (18 + 5 * n + j) = 4 ∨ s (18 + 5 * n + j) = 5 ∨ s (18 + 5 * n + j) = 6 ∨ s (18 + 5 * n + j) = 7 ∨ s (18 + 5 * n + j) = 8 ∨ s (18 + 5 * n + j) = 9 by omega) with z | z | z | z | z | z | z | z | z | z <;> rw [z] <;> simp <;> omega
theorem l_h177 {Q : Hp → Prop} {v N x1 x2 x3 x4 : Int} {c : Int → Hp → Option (Int × Hp)} {S : Nat → Rw} {n j : Nat} (hN : N ≤ 1000000) (hj : j < 4) : ∀ (m nn i : Nat) (h : Hp), i + m = 10 → m < nn → St n N S h → (∀ h', St n N S h' → Fin Q v (c (S 0 15) h')) →
    Fin Q v (f_L_hangs_L177 x1 x2 x3 x4 (j : Int) c nn (sm (fun v => cn (S 0) j (v : Int) (S 0 15).toNat) i) (i : Int) h) := by
  intro m
  induction m with
  | zero =>
    intro nn i h hi hn R k
    obtain ⟨nn, rfl⟩ : ∃ n', nn = n' + 1 := ⟨nn - 1, by omega⟩
    obtain rfl : i = 10 := by omega
    have vg := R.2.2.2.2.1.1
    have vd := R.2.2.2.2.1.2.1
    have v1 := vg.1
    rw [f_L_hangs_L177_s, if_pos (by omega), cn_sum hj vd.1 (S 0 15).toNat (by omega), show (((S 0 15).toNat : Nat) : Int) = S 0 15 by omega]
    exact k h R
  | succ m ih =>
    intro nn i h hi hn R k
    obtain ⟨nn, rfl⟩ : ∃ n', nn = n' + 1 := ⟨nn - 1, by omega⟩
    have vg := R.2.2.2.2.1.1
    have v1 := vg.1
    have b := sm_b52 (f := fun v => cn (S 0) j (v : Int) (S 0 15).toNat) (fun k => by have := cn_b (S 0) j (k : Int) (S 0 15).toNat; omega) i
    have b2 := cn_b (S 0) j (i : Int) (S 0 15).toNat
    rw [f_L_hangs_L177_s, if_neg (by omega)]
    refine Fin.go (h_val (w := j) R hj (by omega)) (fun h1 R1 _ => ?_)
    unfold lv
    dsimp only
    have k2 := ih nn (i + 1) h1 (by omega) (by omega) R1 k
    rw [show ((i + 1 : Nat) : Int) = (i : Int) + 1 by omega, sm_s] at k2
    rw [wr_id (z := (i : Int) + 1) (by omega) (by omega), wr_id (by omega) (by omega)]
    exact k2
theorem l_h170 {Q : Hp → Prop} {v N x1 x2 x3 x4 : Int} {c : Hp → Option (Int × Hp)} {S : Nat → Rw} {n : Nat} (hN : N ≤ 1000000) : ∀ (m nn j : Nat) (h : Hp), j + m = 4 → m < nn → St n N S h → (∀ h', St n N S h' → Fin Q v (c h')) →
    Fin Q v (f_L_hangs_L170 x1 x2 x3 x4 c nn (j : Int) h) := by
  intro m
  induction m with
  | zero =>
    intro nn j h hi hn R k
    obtain ⟨nn, rfl⟩ : ∃ n', nn = n' + 1 := ⟨nn - 1, by omega⟩
    rw [f_L_hangs_L170_s, if_pos (by omega)]
    exact k h R
  | succ m ih =>
    intro nn j h hi hn R k
    obtain ⟨nn, rfl⟩ : ∃ n', nn = n' + 1 := ⟨nn - 1, by omega⟩
    have := fu_gt
    rw [f_L_hangs_L170_s, if_neg (by omega)]
    have k3 := l_h177 (Q := Q) (v := v) (x1 := x1) (x2 := x2) (x3 := x3) (x4 := x4) (j := j) (c := fun y38 h39 => bd (f_X4_count 1 h39) fun r40 h40 => if y38 = r40 then f_L_hangs_L170 x1 x2 x3 x4 c nn (wr ((j : Int) + 1)) h40 else some (0, h40)) hN (by omega) 10 fu 0 h (by omega) (by omega) R (fun h' R' => by
      refine Fin.go (cnt_1 hN R') (fun h1 R1 _ => ?_)
      rw [if_pos rfl, wr_id (by omega) (by omega)]
      have k2 := ih nn (j + 1) h1 (by omega) (by omega) R1 k
      rw [show ((j + 1 : Nat) : Int) = (j : Int) + 1 by omega] at k2
      exact k2)
    exact k3
end Hangs26

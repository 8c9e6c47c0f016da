/-! the pure part: the states kept: the class -/
section Hist1
theorem row_hcpy {h : Hp} {i j n a : Nat} (q : ¬ a = j) : hcpy h i j n a = h a := by
  funext b
  unfold hcpy
  rw [if_neg (fun x => q x.1)]
theorem hcpy_in {h : Hp} {i j n k : Nat} (q : k < n) : hcpy h i j n j k = h i k := by
  unfold hcpy
  rw [if_pos ⟨rfl, q⟩]
theorem c_become {h : Hp} {d o : Nat} {s : Rw} (R : SR h o s) (hV : Vn s) (q : d + 9 ≤ o ∨ o + 9 ≤ d) : ∃ h', f_X1_become d o h = some (0, h') ∧ SR h' d s ∧ FrO d h h' := by
  obtain ⟨r1, r2, r3, r4, r5⟩ := R
  obtain ⟨v1, v2, v3⟩ := hV
  have one : ∀ (r p : Nat) (g : Hp), (r + 2 ≤ p ∨ p + 2 ≤ r) → ∃ g', f_X2_become r p g = some (0, g') ∧ g' r 1 = g p 1 ∧ (∀ k, k < 72 → g' (r + 1) k = g (p + 1) k) ∧ ∀ a, ¬ a = r → ¬ a = r + 1 → g' a = g a := by
    intro r p g c
    unfold f_X2_become
    rw [bd_s]
    unfold lt
    refine ⟨_, rfl, ?_, fun k hk => ?_, fun a a1 a2 => ?_⟩
    · rw [hup_same, row_hcpy (by omega)]
    · rw [row_hup (by omega), hcpy_in hk]
    · rw [row_hup a1, row_hcpy a2]
  obtain ⟨g1, a1, b1, c1, d1⟩ := one (d + 1) (o + 1) h (by omega)
  obtain ⟨g2, a2, b2, c2, d2⟩ := one (d + 3) (o + 3) g1 (by omega)
  obtain ⟨g3, a3, b3, c3, d3⟩ := one (d + 5) (o + 5) g2 (by omega)
  unfold f_X1_become
  rw [a1, bd_s, a2, bd_s, a3, bd_s, bd_s, bd_s]
  refine ⟨_, rfl, ⟨⟨?_, fun i c hi hc => ?_⟩, ⟨?_, fun i c hi hc => ?_⟩, ⟨?_, fun i c hi hc => ?_⟩, fun k hk => ?_, ?_, fun k hk => ?_⟩, fun a ha => ?_⟩
  · rw [row_hcpy (by omega), row_hcpy (by omega), d3 _ (by omega) (by omega), d2 _ (by omega) (by omega), b1]
    exact r1.1
  · rw [row_hcpy (by omega), row_hcpy (by omega), d3 _ (by omega) (by omega), d2 _ (by omega) (by omega), c1 _ (by omega)]
    exact r1.2 i c hi hc
  · rw [row_hcpy (by omega), row_hcpy (by omega), d3 _ (by omega) (by omega), b2, d1 _ (by omega) (by omega)]
    exact r2.1
  · rw [row_hcpy (by omega), row_hcpy (by omega), d3 _ (by omega) (by omega), c2 _ (by omega), d1 _ (by omega) (by omega)]
    exact r2.2 i c hi hc
  · rw [row_hcpy (by omega), row_hcpy (by omega), b3, d2 _ (by omega) (by omega), d1 _ (by omega) (by omega)]
    exact r3.1
  · rw [row_hcpy (by omega), row_hcpy (by omega), c3 _ (by omega), d2 _ (by omega) (by omega), d1 _ (by omega) (by omega)]
    exact r3.2 i c hi hc
  · rw [row_hcpy (by omega), hcpy_in hk, d3 _ (by omega) (by omega), d2 _ (by omega) (by omega), d1 _ (by omega) (by omega)]
    exact r4 k hk
  · rw [hcpy_in (by omega), row_hcpy (by omega), d3 _ (by omega) (by omega), d2 _ (by omega) (by omega), d1 _ (by omega) (by omega)]
    exact r5.1
  · rw [hcpy_in (by omega), row_hcpy (by omega), d3 _ (by omega) (by omega), d2 _ (by omega) (by omega), d1 _ (by omega) (by omega)]
    exact r5.2 k hk
  · rw [row_hcpy (by omega), row_hcpy (by omega), d3 _ (by omega) (by omega), d2 _ (by omega) (by omega), d1 _ (by omega) (by omega)]
/-- the offices that keep states -/
abbrev IO (x : Int) : Prop := x = 31 ∨ x = 40 ∨ x = 49 ∨ x = 58 ∨ x = 67
def Refs (g : Rw) : Prop := (∀ j, j < 5 → IO (g j)) ∧ ∀ i j, i < 5 → j < 5 → g i = g j → i = j
theorem kd_IO {x : Int} (q : IO x) : 0 ≤ x ∧ kd x.toNat = (1, 0) := by
  rcases q with rfl | rfl | rfl | rfl | rfl <;> exact ⟨by decide, rfl⟩
theorem okA_ref {h : Hp} {x : Int} (q : Refs (h 27)) (h0 : 0 ≤ x) (h1 : x < 5) : okA h 27 x 5 :=
  ⟨by unfold inb; omega, (kd_IO (q.1 x.toNat (by omega))).1, (kd_IO (q.1 x.toNat (by omega))).2⟩
theorem SR.fr {h h' : Hp} {o d : Nat} {s : Rw} (R : SR h o s) (f : FrO d h h') (q : d + 9 ≤ o ∨ o + 9 ≤ d) : SR h' o s := by
  have e : ∀ a, o + 1 ≤ a → a ≤ o + 8 → h' a = h a := fun a a1 a2 => f a (by omega)
  obtain ⟨r1, r2, r3, r4, r5⟩ := R
  unfold SR RU RC RE RT RM
  rw [e (o + 1) (by omega) (by omega), e (o + 1 + 1) (by omega) (by omega), e (o + 3) (by omega) (by omega), e (o + 3 + 1) (by omega) (by omega), e (o + 5) (by omega) (by omega), e (o + 5 + 1) (by omega) (by omega), e (o + 7) (by omega) (by omega), e (o + 8) (by omega) (by omega)]
  exact ⟨r1, r2, r3, r4, r5⟩
/-- two states that are the same in their 190 numbers -/
def ag (s s' : Rw) : Prop := ∀ k, k < 190 → s' k = s k
theorem SR.ag {h : Hp} {o : Nat} {s s' : Rw} (R : SR h o s) (hV : Vn s) (q : ag s s') : SR h o s' := by
  obtain ⟨r1, r2, r3, r4, r5⟩ := R
  obtain ⟨v1, v2, v3⟩ := hV
  exact ⟨r1.congr rfl rfl (q _ (by omega)) v1.2 (fun k q1 q2 => q k (by omega)), r2.congr rfl rfl (q _ (by omega)) v2.2 (fun k q1 q2 => q k (by omega)), r3.congr rfl rfl (q _ (by omega)) v3.2 (fun k q1 q2 => q k (by omega)), r4.congr rfl (fun k q1 q2 => q k (by omega)), r5.congr rfl (fun k q1 => q k (by omega))⟩
theorem c_keep {h : Hp} {s : Rw} {n : Int} (R : SR h 1 s) (hV : Vn s) (hf : Refs (h 27)) (hn : h 0 4 = n) (h0 : 0 ≤ n) (h1 : n ≤ 4) : ∃ h', f_X4_keepState h = some (0, h') ∧ SR h' (h 27 n.toNat).toNat s ∧ FrO (h 27 n.toNat).toNat h h' := by
  unfold f_X4_keepState
  have ok : okA h 27 n 5 := okA_ref hf h0 (by omega)
  have io := hf.1 n.toNat (by omega)
  rw [hn, if_neg (by omega), if_neg (by omega), if_pos ok, if_pos ok]
  obtain ⟨h', a1, a2, a3⟩ := c_become (d := (h 27 n.toNat).toNat) R hV (by omega)
  rw [a1, bd_s]
  exact ⟨h', rfl, a2, a3⟩
theorem c_rec_bad {h : Hp} {x : Int} (q : x < 0) : f_X4_recorded x h = some (x, h) := by
  unfold f_X4_recorded
  rw [if_pos q]
theorem c_forget_L {y2 : Nat} {c24 : Hp → Option (Int × Hp)} : ∀ (m n : Nat) (h0 h : Hp) (p : Int), m < n → 1 ≤ p → p + m = 5 → Refs (h0 27) →
    h = hrow h0 27 (fun k => if (k : Int) < p - 1 then h0 27 (k + 1) else h0 27 k) →
    f_X4_forgetOldestState_L7 y2 c24 n p h = c24 (hrow h0 27 (fun k => if k < 4 then h0 27 (k + 1) else h0 27 k)) := by
  intro m
  induction m with
  | zero =>
    intro n h0 h p hn hp hm hf e
    obtain ⟨n, rfl⟩ : ∃ n', n = n' + 1 := ⟨n - 1, by omega⟩
    rw [f_X4_forgetOldestState_L7_s, if_pos (by omega), e]
    have e2 : p = 5 := by omega
    subst e2
    congr 2
    funext k
    by_cases c : k < 4
    · rw [if_pos c, if_pos (by omega)]
    · rw [if_neg c, if_neg (by omega)]
  | succ m ih =>
    intro n h0 h p hn hp hm hf e
    obtain ⟨n, rfl⟩ : ∃ n', n = n' + 1 := ⟨n - 1, by omega⟩
    have eh : h 27 p.toNat = h0 27 p.toNat := by
      rw [e, hrow_get]
      rw [if_neg (by omega)]
    have io := hf.1 p.toNat (by omega)
    have ok : okA h 27 p 5 := ⟨by unfold inb; omega, by rw [eh]; exact (kd_IO io).1, by rw [eh]; exact (kd_IO io).2⟩
    rw [f_X4_forgetOldestState_L7_s, if_neg (by omega), if_pos ok, wr_id (by omega) (by omega), if_pos (by unfold inb; omega)]
    unfold lt
    rw [wr_id (by omega) (by omega), eh]
    refine ih n h0 _ (p + 1) (by omega) (by omega) (by omega) hf ?_
    rw [hup_row, e, hrow_hrow, hrow_get]
    congr 1
    funext k
    unfold gup
    by_cases c1 : k = (p - 1).toNat
    · rw [if_pos c1, if_pos (by omega), show k + 1 = p.toNat by omega]
      omega
    · rw [if_neg c1]
      dsimp only
      by_cases c2 : (k : Int) < p - 1
      · rw [if_pos c2, if_pos (by omega)]
      · rw [if_neg c2, if_neg (by omega)]
/-- how many of the kept states move: one when four are kept -/
def shn (n : Int) : Nat := if n = 4 then 1 else 0
theorem c_rec {h : Hp} {x n : Int} (q : 0 ≤ x) (hf : Refs (h 27)) (hn : h 0 4 = n) (h0 : 0 ≤ n) (h1 : n ≤ 4) : ∃ h', f_X4_recorded x h = some (x, h') ∧ h' 0 4 = n - shn n + 1 ∧ (∀ j, j ≤ 4 - shn n → h' 27 j = h 27 (j + shn n)) ∧ Refs (h' 27) ∧ (∀ a k, ¬ (a = 0 ∧ k = 4) → a ≠ 27 → h' a k = h a k) := by
  unfold f_X4_recorded
  rw [if_neg (by omega)]
  unfold lt
  dsimp only
  rw [hup_same, hn, wr_id (by omega) (by omega)]
  by_cases c : n = 4
  · subst c
    rw [if_neg (by decide)]
    unfold f_X4_forgetOldestState
    have r27 : hup h 0 4 (4 + 1) 27 = h 27 := row_hup (by decide)
    have hf' : Refs (hup h 0 4 (4 + 1) 27) := by rw [r27]; exact hf
    rw [if_pos (okA_ref hf' (by decide) (by decide))]
    unfold lr
    dsimp only
    rw [c_forget_L 4 fu (hup h 0 4 (4 + 1)) _ 1 (by have := fu_gt; omega) (by decide) (by decide) hf' (by
      rw [show (fun k : Nat => if (k : Int) < 1 - 1 then hup h 0 4 (4 + 1) 27 (k + 1) else hup h 0 4 (4 + 1) 27 k) = hup h 0 4 (4 + 1) 27 from by
        funext k
        rw [if_neg (by omega)]]
      rw [hrow_self])]
    rw [wr_id (by omega) (by omega), if_pos (by unfold inb; omega)]
    unfold lt
    dsimp only
    have io := hf.1 0 (by omega)
    have e04 : hup (hrow (hup h 0 4 (4 + 1)) 27 (fun k => if k < 4 then hup h 0 4 (4 + 1) 27 (k + 1) else hup h 0 4 (4 + 1) 27 k)) 27 (((5 : Nat) : Int) - 1).toNat ((hup h 0 4 (4 + 1) 27 (Int.toNat 0)).toNat : Int) 0 4 = 5 := by
      rw [hup_far (by omega)]
      unfold hrow
      rw [if_neg (by decide), hup_same]
      rfl
    rw [bd_s, e04, r27, wr_id (by omega) (by omega)]
    have ej : ∀ j, j < 5 → hup (hup (hrow (hup h 0 4 (4 + 1)) 27 (fun k => if k < 4 then h 27 (k + 1) else h 27 k)) 27 (((5 : Nat) : Int) - 1).toNat ((h 27 (Int.toNat 0)).toNat : Int)) 0 4 (5 - 1) 27 j = if j = 4 then h 27 0 else h 27 (j + 1) := by
      intro j hj
      rw [hup_far (by omega)]
      by_cases c : j = 4
      · rw [hup_eq (by omega), if_pos c]
        show ((h 27 0).toNat : Int) = h 27 0
        omega
      · rw [hup_far (by omega), if_neg c]
        unfold hrow
        rw [if_pos rfl]
        dsimp only
        rw [if_pos (by omega)]
    refine ⟨_, rfl, ?_, ?_, ⟨?_, ?_⟩, ?_⟩
    · rw [hup_same]
      rfl
    · intro j hj
      unfold shn at *
      rw [if_pos rfl] at *
      rw [ej j (by omega), if_neg (by omega)]
    · intro j hj
      rw [ej j hj]
      split
      · exact io
      · exact hf.1 _ (by omega)
    · intro i j hi hj
      rw [ej i hi, ej j hj]
      intro e
      have u := hf.2
      by_cases c1 : i = 4
      · by_cases c2 : j = 4
        · omega
        · rw [if_pos c1, if_neg c2] at e
          have := u 0 (j + 1) (by omega) (by omega) e
          omega
      · by_cases c2 : j = 4
        · rw [if_neg c1, if_pos c2] at e
          have := u (i + 1) 0 (by omega) (by omega) e
          omega
        · rw [if_neg c1, if_neg c2] at e
          have := u (i + 1) (j + 1) (by omega) (by omega) e
          omega
    · intro a k q1 q2
      rw [hup_far q1, hup_far (by omega)]
      unfold hrow
      rw [if_neg q2, hup_far q1]
  · rw [if_pos (by omega)]
    have e27 : hup h 0 4 (n + 1) 27 = h 27 := row_hup (by decide)
    unfold shn
    rw [if_neg c]
    refine ⟨_, rfl, ?_, ?_, ?_, ?_⟩
    · rw [hup_same]
      omega
    · intro j hj
      rw [e27]
      rfl
    · rw [e27]
      exact hf
    · intro a k q1 q2
      exact hup_far q1
end Hist1

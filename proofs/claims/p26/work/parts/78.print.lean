/-! all that is told, mixed to one number: it hangs on the office alone -/
section Print26
theorem vQ_n {s : Rw} {n : Nat} {x : Int} (hx : x ≠ 13) : vQ s n x = vQ s 0 x := by
  unfold vQ
  rw [if_neg hx, if_neg hx]
noncomputable def prA (s : Rw) (z : Int64) : Nat → Int64
  | 0 => z
  | i + 1 => 31 * prA s z i + Int64.ofInt (if i = 13 ∨ i = 14 then 0 else vQ s 0 (i : Int))
noncomputable def prB (s : Rw) (z : Int64) : Nat → Int64
  | 0 => z
  | i + 1 => 31 * prB s z i + Int64.ofInt (vU s ((i / 5 : Nat) : Int) ((i % 5 : Nat) : Int))
noncomputable def prC (s : Rw) (z : Int64) : Nat → Int64
  | 0 => z
  | i + 1 => 31 * prC s z i + Int64.ofInt (vC s ((i / 5 : Nat) : Int) ((i % 5 : Nat) : Int)) + 7 * Int64.ofInt (vC s ((i / 5 : Nat) : Int) 7)
noncomputable def prD (s : Rw) (z : Int64) : Nat → Int64
  | 0 => z
  | i + 1 => 31 * prD s z i + Int64.ofInt (vB s ((i / 4 : Nat) : Int) ((i % 4 : Nat) : Int))
noncomputable def prS (s : Rw) : Int := Int64.toInt (prD s (prC s (prB s (prA s 29 27) (5 * (s 15).toNat)) (5 * (s 16).toNat)) (4 * (s 17).toNat))
variable {N v : Int} {n : Nat} {S : Nat → Rw} {Q : Hp → Prop}
theorem l_p4 {c : Int64 → Hp → Option (Int × Hp)} {z : Int64} (hN : N ≤ 1000000) : ∀ (m nn i : Nat) (h : Hp), i + m = 27 → m < nn → St n N S h → (∀ h', St n N S h' → Fin Q v (c (prA (S 0) z 27) h')) → Fin Q v (f_L_print_L4 c nn (prA (S 0) z i) (i : Int) h) := by
  intro m
  induction m with
  | zero =>
    intro nn i h hi hn R k
    obtain ⟨nn, rfl⟩ : ∃ n', nn = n' + 1 := ⟨nn - 1, by omega⟩
    obtain rfl : i = 27 := by omega
    rw [f_L_print_L4_s, if_pos (by omega)]
    exact k h R
  | succ m ih =>
    intro nn i h hi hn R k
    obtain ⟨nn, rfl⟩ : ∃ n', nn = n' + 1 := ⟨nn - 1, by omega⟩
    have e : prA (S 0) z (i + 1) = 31 * prA (S 0) z i + Int64.ofInt (if i = 13 ∨ i = 14 then 0 else vQ (S 0) 0 (i : Int)) := rfl
    have go : ∀ h', St n N S h' → Fin Q v (f_L_print_L4 c nn (31 * prA (S 0) z i + Int64.ofInt (if i = 13 ∨ i = 14 then 0 else vQ (S 0) 0 (i : Int))) ((i : Int) + 1) h') := fun h' R' => by
      have k2 := ih nn (i + 1) h' (by omega) (by omega) R' k
      rw [e, show ((i + 1 : Nat) : Int) = (i : Int) + 1 by omega] at k2
      exact k2
    rw [f_L_print_L4_s, if_neg (by omega)]
    unfold ll
    rw [wr_id (z := (i : Int) + 1) (by omega) (by omega)]
    by_cases c1 : (i : Int) = 13
    · rw [if_pos (show i = 13 ∨ i = 14 by omega)] at go
      rw [if_pos c1]
      exact go h R
    · rw [if_neg c1]
      by_cases c2 : (i : Int) = 14
      · rw [if_pos (show i = 13 ∨ i = 14 by omega)] at go
        rw [if_neg (by omega)]
        exact go h R
      · rw [if_neg (show ¬ (i = 13 ∨ i = 14) by omega)] at go
        rw [if_pos c2]
        refine Fin.go (q_count hN c2 R) (fun h1 R1 _ => ?_)
        rw [vQ_n c1]
        exact go h1 R1
theorem l_p28 {c : Int64 → Hp → Option (Int × Hp)} {z : Int64} (hN : N ≤ 1000000) : ∀ (m nn i : Nat) (h : Hp), i + m = 5 * (S 0 15).toNat → m < nn → St n N S h → (∀ h', St n N S h' → Fin Q v (c (prB (S 0) z (5 * (S 0 15).toNat)) h')) → Fin Q v (f_L_print_L28 c nn (prB (S 0) z i) (i : Int) h) := by
  intro m
  induction m with
  | zero =>
    intro nn i h hi hn R k
    obtain ⟨nn, rfl⟩ : ∃ n', nn = n' + 1 := ⟨nn - 1, by omega⟩
    have v1 := R.2.2.2.2.1.1.1
    rw [f_L_print_L28_s]
    refine Fin.go (cnt_1 hN R) (fun h1 R1 _ => ?_)
    rw [wr_id (z := 5 * S 0 15) (by omega) (by omega), if_pos (by omega), show i = 5 * (S 0 15).toNat by omega]
    exact k h1 R1
  | succ m ih =>
    intro nn i h hi hn R k
    obtain ⟨nn, rfl⟩ : ∃ n', nn = n' + 1 := ⟨nn - 1, by omega⟩
    have v1 := R.2.2.2.2.1.1.1
    have t : Int.tdiv (i : Int) 5 = ((i / 5 : Nat) : Int) := by
      rw [Int.tdiv_eq_ediv_of_nonneg (by omega)]
      omega
    have e : prB (S 0) z (i + 1) = 31 * prB (S 0) z i + Int64.ofInt (vU (S 0) ((i / 5 : Nat) : Int) ((i % 5 : Nat) : Int)) := rfl
    rw [f_L_print_L28_s]
    refine Fin.go (cnt_1 hN R) (fun h1 R1 _ => ?_)
    rw [wr_id (z := 5 * S 0 15) (by omega) (by omega), if_neg (by omega), t, wr_id (z := ((i / 5 : Nat) : Int)) (by omega) (by omega), show (i : Int) - ((i / 5 : Nat) : Int) * 5 = ((i % 5 : Nat) : Int) by omega, wr_id (z := ((i % 5 : Nat) : Int)) (by omega) (by omega)]
    refine Fin.go (q_umbrella hN R1) (fun h2 R2 _ => ?_)
    unfold ll
    rw [wr_id (z := (i : Int) + 1) (by omega) (by omega)]
    have k2 := ih nn (i + 1) h2 (by omega) (by omega) R2 k
    rw [e, show ((i + 1 : Nat) : Int) = (i : Int) + 1 by omega] at k2
    exact k2
theorem l_p53 {c : Int64 → Hp → Option (Int × Hp)} {z : Int64} (hN : N ≤ 1000000) : ∀ (m nn i : Nat) (h : Hp), i + m = 5 * (S 0 16).toNat → m < nn → St n N S h → (∀ h', St n N S h' → Fin Q v (c (prC (S 0) z (5 * (S 0 16).toNat)) h')) → Fin Q v (f_L_print_L53 c nn (prC (S 0) z i) (i : Int) h) := by
  intro m
  induction m with
  | zero =>
    intro nn i h hi hn R k
    obtain ⟨nn, rfl⟩ : ∃ n', nn = n' + 1 := ⟨nn - 1, by omega⟩
    have v1 := R.2.2.2.2.1.1.2.1
    rw [f_L_print_L53_s]
    refine Fin.go (cnt_2 hN R) (fun h1 R1 _ => ?_)
    rw [wr_id (z := 5 * S 0 16) (by omega) (by omega), if_pos (by omega), show i = 5 * (S 0 16).toNat by omega]
    exact k h1 R1
  | succ m ih =>
    intro nn i h hi hn R k
    obtain ⟨nn, rfl⟩ : ∃ n', nn = n' + 1 := ⟨nn - 1, by omega⟩
    have v1 := R.2.2.2.2.1.1.2.1
    have t : Int.tdiv (i : Int) 5 = ((i / 5 : Nat) : Int) := by
      rw [Int.tdiv_eq_ediv_of_nonneg (by omega)]
      omega
    have e : prC (S 0) z (i + 1) = 31 * prC (S 0) z i + Int64.ofInt (vC (S 0) ((i / 5 : Nat) : Int) ((i % 5 : Nat) : Int)) + 7 * Int64.ofInt (vC (S 0) ((i / 5 : Nat) : Int) 7) := rfl
    rw [f_L_print_L53_s]
    refine Fin.go (cnt_2 hN R) (fun h1 R1 _ => ?_)
    rw [wr_id (z := 5 * S 0 16) (by omega) (by omega), if_neg (by omega), t, wr_id (z := ((i / 5 : Nat) : Int)) (by omega) (by omega), show (i : Int) - ((i / 5 : Nat) : Int) * 5 = ((i % 5 : Nat) : Int) by omega, wr_id (z := ((i % 5 : Nat) : Int)) (by omega) (by omega)]
    refine Fin.go (q_claimOf hN R1) (fun h2 R2 _ => ?_)
    refine Fin.go (q_claimOf hN R2) (fun h3 R3 _ => ?_)
    unfold ll
    rw [wr_id (z := (i : Int) + 1) (by omega) (by omega)]
    have k2 := ih nn (i + 1) h3 (by omega) (by omega) R3 k
    rw [e, show ((i + 1 : Nat) : Int) = (i : Int) + 1 by omega] at k2
    exact k2
theorem l_p88 {z : Int64} (hN : N ≤ 1000000) : ∀ (m nn i : Nat) (h : Hp), i + m = 4 * (S 0 17).toNat → m < nn → St n N S h → Fin (fun h' => St n N S h') (Int64.toInt (prD (S 0) z (4 * (S 0 17).toNat))) (f_L_print_L88 nn (prD (S 0) z i) (i : Int) h) := by
  intro m
  induction m with
  | zero =>
    intro nn i h hi hn R
    obtain ⟨nn, rfl⟩ : ∃ n', nn = n' + 1 := ⟨nn - 1, by omega⟩
    have v1 := R.2.2.2.2.1.1.2.2
    rw [f_L_print_L88_s]
    refine Fin.go (cnt_12 hN R) (fun h1 R1 _ => ?_)
    rw [wr_id (z := 4 * S 0 17) (by omega) (by omega), if_pos (by omega), show i = 4 * (S 0 17).toNat by omega]
    exact Fin.ret R1
  | succ m ih =>
    intro nn i h hi hn R
    obtain ⟨nn, rfl⟩ : ∃ n', nn = n' + 1 := ⟨nn - 1, by omega⟩
    have v1 := R.2.2.2.2.1.1.2.2
    have t : Int.tdiv (i : Int) 4 = ((i / 4 : Nat) : Int) := by
      rw [Int.tdiv_eq_ediv_of_nonneg (by omega)]
      omega
    have e : prD (S 0) z (i + 1) = 31 * prD (S 0) z i + Int64.ofInt (vB (S 0) ((i / 4 : Nat) : Int) ((i % 4 : Nat) : Int)) := rfl
    rw [f_L_print_L88_s]
    refine Fin.go (cnt_12 hN R) (fun h1 R1 _ => ?_)
    rw [wr_id (z := 4 * S 0 17) (by omega) (by omega), if_neg (by omega), t, wr_id (z := ((i / 4 : Nat) : Int)) (by omega) (by omega), show (i : Int) - ((i / 4 : Nat) : Int) * 4 = ((i % 4 : Nat) : Int) by omega, wr_id (z := ((i % 4 : Nat) : Int)) (by omega) (by omega)]
    refine Fin.go (q_book (by omega) R1) (fun h2 R2 _ => ?_)
    unfold ll
    rw [wr_id (z := (i : Int) + 1) (by omega) (by omega)]
    have k2 := ih nn (i + 1) h2 (by omega) (by omega) R2
    rw [e, show ((i + 1 : Nat) : Int) = (i : Int) + 1 by omega] at k2
    exact k2
theorem l_print {h : Hp} (hN : N ≤ 1000000) (R : St n N S h) : Fin (fun h' => St n N S h') (prS (S 0)) (f_L_print h) := by
  have v1 := R.2.2.2.2.1.1.1
  have v2 := R.2.2.2.2.1.1.2.1
  have v3 := R.2.2.2.2.1.1.2.2
  have := fu_gt
  unfold f_L_print ll
  refine l_p4 (z := 29) hN 27 fu 0 h (by omega) (by omega) R (fun h1 R1 => ?_)
  refine l_p28 hN (5 * (S 0 15).toNat) fu 0 h1 (by omega) (by omega) R1 (fun h2 R2 => ?_)
  refine l_p53 hN (5 * (S 0 16).toNat) fu 0 h2 (by omega) (by omega) R2 (fun h3 R3 => ?_)
  exact l_p88 hN (4 * (S 0 17).toNat) fu 0 h3 (by omega) (by omega) R3
end Print26

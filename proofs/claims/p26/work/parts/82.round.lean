/-! one round of the law: it answers yes, and the office keeps what it must -/
section Round26
variable {Q : Hp → Prop} {v N B : Int}
/-- the office behind n rounds -/
def Gd (N B : Int) (h : Hp) : Prop := ∃ s, Nw N s h ∧ Iv B s
theorem Gd.of {n : Nat} {S : Nat → Rw} {h : Hp} (R : St n N S h) (i : Iv B (S 0)) : Gd N B h := ⟨S 0, R.nw, i⟩
theorem l_184 {c : Int → Hp → Option (Int × Hp)} {u0 : Nat} {x3 x4 x5 s2 s3 : Int} {h : Hp} (hN : 0 ≤ N ∧ N < 1000000) (hB : B ≤ 100000) (h3 : s3 = 6 ∨ s3 = 20) (k : ∀ h', Gd (N + 1) B h' → Fin Q v (c 1 h')) (g : Gd N B h) : Fin Q v (f_L_law_J184 u0 c x3 x4 x5 1 s2 s3 h) := by
  obtain ⟨s, ⟨n, S, R, rfl⟩, i⟩ := g
  have hN' : N ≤ 1000000 := by omega
  unfold f_L_law_J184
  refine Fin.low (by omega) (by omega) (fun r r1 r2 => ?_)
  rw [wr_id (by omega) (by omega)]
  obtain ⟨h1, e1, n1, S1, R1, s1⟩ := l_weeks (x := 1 + r) hN' hB (by omega) i R
  rw [e1, bd_s, if_neg (by omega)]
  obtain ⟨h2, e2, n2, S2, R2, s2⟩ := l_hands hN' hB (by rw [s1]; exact i) R1
  rw [e2, bd_s, if_neg (by omega)]
  refine Fin.low (by omega) (by omega) (fun a a1 a2 => ?_)
  refine Fin.low (by omega) (by omega) (fun b b1 b2 => ?_)
  refine Fin.low (by omega) (by omega) (fun d d1 d2 => ?_)
  obtain ⟨h3, e3, n3, S3, R3, s3⟩ := l_tells (x1 := a) (x2 := b) (x3 := d) hN (by omega) (by omega) (by omega) R2
  rw [e3, bd_s, if_neg (by omega)]
  exact k h3 ⟨S3 0, R3.nw, by rw [s3, s2, s1]; exact i⟩
theorem l_165 {c : Int → Hp → Option (Int × Hp)} {u0 : Nat} {x3 x4 x5 : Int} {h : Hp} (hN : 0 ≤ N ∧ N < 1000000) (hB : B ≤ 100000) (k : ∀ h', Gd (N + 1) B h' → Fin Q v (c 1 h')) (g : Gd N B h) : Fin Q v (f_L_law_J165 u0 c 1 x3 x4 x5 h) := by
  obtain ⟨s, ⟨n, S, R, rfl⟩, i⟩ := g
  unfold f_L_law_J165
  rw [if_neg (by omega)]
  obtain ⟨h1, e1, R1⟩ := l_hangs (by omega) hB i R
  rw [e1, bd_s, if_neg (by omega)]
  refine Fin.low (by omega) (by omega) (fun r r1 r2 => ?_)
  by_cases q : r = 0
  · rw [if_neg (by omega)]
    exact l_184 hN hB (Or.inr rfl) k (Gd.of R1 i)
  · rw [if_pos q]
    exact l_184 hN hB (Or.inl rfl) k (Gd.of R1 i)
/-- behind an order: refused, or kept; perhaps taken back and given again -/
theorem l_96 {c : Int → Hp → Option (Int × Hp)} {u0 : Nat} {x3 x4 x5 : Int} {n : Nat} {S : Nat → Rw} {f : Hp → Option (Int × Hp)} {h : Hp} (hN : 0 ≤ N ∧ N + 2 < 1000000) (hB : B + 1 ≤ 100000) (o : OQ f) (hf : x3 ≤ 5 ∨ f = fun h => f_L_act x4 x5 h) (i : Iv B (S 0)) (R : St n N S h)
    (k : ∀ h', Gd (N + 3) (B + 1) h' → Fin Q v (c 1 h')) : Fin Q v (bd (f h) fun r4 h4 => f_L_law_J96 u0 c x3 x4 x5 (n : Int) (Int64.ofInt (prS (S 0))) r4 h4) := by
  obtain ⟨r, t, o⟩ := o
  have n4 := R.1
  have sh := shn_le n
  obtain ⟨⟨h1, e1, q1⟩, q2⟩ := o n N B S h hN.1 (by omega) (by omega) i R
  have go : ∀ h', Gd (N + 2) (B + 1) h' → Fin Q v (f_L_law_J165 u0 c 1 x3 x4 x5 h') := fun h' g => by
    refine l_165 (N := N + 2) (by omega) hB (fun h2 g2 => k h2 ?_) g
    rw [show N + 2 + 1 = N + 3 by omega] at g2
    exact g2
  rw [e1, bd_s]
  unfold f_L_law_J96
  rcases q1 with ⟨a1, R1⟩ | ⟨a1, R1⟩
  · rw [if_neg (by omega)]
    refine Fin.go (cnt_13 (by omega) R1) (fun h2 R2 _ => ?_)
    rw [if_neg (show ¬ ¬ (n : Int) = (n : Int) from fun z => z rfl)]
    obtain ⟨h3, e3, R3⟩ := l_print (by omega) R2
    rw [e3, bd_s, if_neg (by rw [lg_self]; exact fun z => z rfl)]
    unfold f_L_law_J112
    exact go h3 (Gd.of (R3.mono (by omega)) (i.mono (by omega)))
  · have i1 := q2 a1
    rw [if_pos a1]
    refine Fin.go (cnt_13 (by omega) R1) (fun h2 R2 _ => ?_)
    have fin : Fin Q v (f_L_law_J129 u0 c x3 x4 x5 (n : Int) (Int64.ofInt (prS (S 0))) (r (S 0)) 1 h2) := by
      have g2 : Gd (N + 2) (B + 1) h2 := ⟨t (S 0), (R2.mono (by omega)).nw, i1⟩
      unfold f_L_law_J129
      rw [if_neg (by omega)]
      by_cases x : x3 ≤ 5
      · rw [if_pos x]
        exact go h2 g2
      · rw [if_neg x]
        refine Fin.low (by omega) (by omega) (fun l l1 l2 => ?_)
        by_cases z : l = 0
        · rw [if_neg (by omega)]
          obtain ⟨h3, S3, e3, R3, s3⟩ := st_back R2
          rw [e3, bd_s]
          have again : Fin Q v (f_L_law_J149 u0 c x3 x4 x5 (Int64.ofInt (prS (S 0))) (r (S 0)) ((n - shn n : Nat) : Int) ((n - shn n : Nat) : Int) h3) := by
            unfold f_L_law_J149
            rw [if_neg (show ¬ ¬ ((n - shn n : Nat) : Int) = ((n - shn n : Nat) : Int) from fun z => z rfl)]
            obtain ⟨h4, e4, R4⟩ := l_print (by omega) R3
            rw [e4, bd_s, s3, if_neg (by rw [lg_self]; exact fun z => z rfl)]
            rcases hf with x' | rfl
            · exact absurd x' x
            obtain ⟨⟨h5, e5, q5⟩, q6⟩ := o _ (N + 1) B S3 h4 (by omega) (by omega) (by omega) (by rw [s3]; exact i) R4
            rw [s3] at e5 q5 q6
            dsimp only at e5
            rw [e5, bd_s, if_neg (show ¬ ¬ r (S 0) = r (S 0) from fun z => z rfl)]
            unfold f_L_law_J164
            rcases q5 with ⟨y, -⟩ | ⟨-, R5⟩
            · omega
            · refine go h5 ⟨t (S 0), ?_, i1⟩
              rw [show N + 1 + 1 = N + 2 by omega] at R5
              exact R5.nw
          by_cases y : n = 4
          · have sn : shn (n : Int) = 1 := by unfold shn; rw [if_pos (by omega)]
            rw [if_pos (by omega)]
            rw [show ((n - shn n : Nat) : Int) = 3 by omega] at again ⊢
            exact again
          · have sn : shn (n : Int) = 0 := by unfold shn; rw [if_neg (by omega)]
            rw [if_neg (by omega)]
            rw [show ((n - shn n : Nat) : Int) = (n : Int) by omega] at again ⊢
            exact again
        · rw [if_pos z]
          exact go h2 g2
    by_cases y : n = 4
    · have sn : shn (n : Int) = 1 := by unfold shn; rw [if_pos (by omega)]
      rw [if_pos (by omega)]
      unfold f_L_law_J125
      rw [if_neg (by omega)]
      exact fin
    · have sn : shn (n : Int) = 0 := by unfold shn; rw [if_neg (by omega)]
      rw [if_neg (by omega), wr_id (by omega) (by omega)]
      unfold f_L_law_J125
      rw [if_neg (by omega)]
      exact fin
theorem l_round {c : Int → Hp → Option (Int × Hp)} {u0 : Nat} {x3 x4 x5 : Int} {h : Hp} (hN : 0 ≤ N ∧ N + 2 < 1000000) (hB : B + 1 ≤ 100000) (g : Gd N B h)
    (k : ∀ h', Gd (N + 3) (B + 1) h' → Fin Q v (c 1 h')) : Fin Q v (f_L_law_J35 u0 c x3 x4 x5 h) := by
  obtain ⟨s, ⟨n, S, R, rfl⟩, i⟩ := g
  unfold f_L_law_J35
  refine Fin.go (cnt_13 (by omega) R) (fun h1 R1 _ => ?_)
  obtain ⟨h2, e2, R2⟩ := l_print (by omega) R1
  rw [e2, bd_s]
  unfold ll
  dsimp only
  by_cases c1 : 3 ≤ x3
  · rw [if_pos c1]
    by_cases c2 : 6 ≤ x3
    · rw [if_pos c2]
      exact l_96 hN hB (o_act x4 x5) (Or.inr rfl) i R2 k
    · rw [if_neg c2]
      refine Fin.low (by omega) (by omega) (fun a a1 a2 => ?_)
      refine Fin.low (by omega) (by omega) (fun b b1 b2 => ?_)
      refine Fin.low (by omega) (by omega) (fun d d1 d2 => ?_)
      refine Fin.low (by omega) (by omega) (fun e e1 e2 => ?_)
      exact l_96 hN hB (o_claim _ _ _ _) (Or.inl (by omega)) i R2 k
  · rw [if_neg c1]
    refine Fin.low (by omega) (by omega) (fun a a1 a2 => ?_)
    refine Fin.low (by omega) (by omega) (fun b b1 b2 => ?_)
    refine Fin.low (by omega) (by omega) (fun d d1 d2 => ?_)
    refine Fin.low (by omega) (by omega) (fun e e1 e2 => ?_)
    exact l_96 hN hB (o_find _ _ _ _) (Or.inl (by omega)) i R2 k
end Round26

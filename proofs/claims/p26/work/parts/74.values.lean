/-! what the questions answer, one by one -/
section Values26
/-- a piece of the law comes to its end with v, and then Q holds -/
def Fin (Q : Hp → Prop) (v : Int) (e : Option (Int × Hp)) : Prop := ∃ h', e = some (v, h') ∧ Q h'
theorem Fin.go {Q : Hp → Prop} {v r N : Int} {n : Nat} {S : Nat → Rw} {h : Hp} {e : Option (Int × Hp)} {K : Int → Hp → Option (Int × Hp)} (d : Rd n N S h e r) (k : ∀ h', St n N S h' → FrC h h' → Fin Q v (K r h')) : Fin Q v (bd e K) := by
  obtain ⟨h', a, b, c⟩ := d
  rw [a, bd_s]
  exact k h' b c
theorem Fin.ret {Q : Hp → Prop} {v : Int} {h : Hp} (q : Q h) : Fin Q v (some (v, h)) := ⟨h, rfl, q⟩
variable {n : Nat} {N : Int} {S : Nat → Rw} {h : Hp} {u c w : Nat}
theorem u_cell (hN : N ≤ 1000000) (R : St n N S h) (hu : (u : Int) < S 0 15) (hw : w ≤ 4) : Rd n N S h (f_X4_umbrella (u : Int) (w : Int) h) (S 0 (18 + 5 * u + w)) := by
  have q := q_umbrella (x := (u : Int)) (w := (w : Int)) hN R
  unfold vU at q
  rw [if_pos ⟨⟨by omega, hu⟩, by omega, by omega⟩, if_pos (by omega), show ((u : Int)).toNat = u by omega, show ((w : Int)).toNat = w by omega] at q
  exact q
theorem u_odd (hN : N ≤ 1000000) (R : St n N S h) (hu : (u : Int) < S 0 15) : Rd n N S h (f_X4_umbrella (u : Int) 8 h) (odt (S 0) u) := by
  have q := q_umbrella (x := (u : Int)) (w := 8) hN R
  unfold vU at q
  rw [if_pos ⟨⟨by omega, hu⟩, by omega, by omega⟩, if_neg (by omega), if_pos rfl, show ((u : Int)).toNat = u by omega] at q
  exact q
theorem u_suit (hN : N ≤ 1000000) (R : St n N S h) (hu : (u : Int) < S 0 15) : Rd n N S h (f_X4_umbrella (u : Int) 7 h) (sm (fS (S 0) (u : Int) (-1)) 144) := by
  have q := q_umbrella (x := (u : Int)) (w := 7) hN R
  unfold vU at q
  rw [if_pos ⟨⟨by omega, hu⟩, by omega, by omega⟩, if_neg (by omega), if_neg (by omega), if_pos rfl] at q
  exact q
theorem u_mate (hN : N ≤ 1000000) (R : St n N S h) (hu : (u : Int) < S 0 15) : Rd n N S h (f_X4_umbrella (u : Int) 5 h) (nf ((mtA (S 0)).1 u)) := by
  have q := q_umbrella (x := (u : Int)) (w := 5) hN R
  unfold vU at q
  rw [if_pos ⟨⟨by omega, hu⟩, by omega, by omega⟩, if_neg (by omega), if_neg (by omega), if_neg (by omega), if_pos (show (5 : Int) = 5 from rfl), show ((u : Int)).toNat = u by omega] at q
  exact q
def mpt (s : Rw) (u : Nat) : Int := if (mtA s).1 u = -1 then -1000004 else pts s u ((mtA s).1 u).toNat
theorem u_pts (hN : N ≤ 1000000) (R : St n N S h) (hu : (u : Int) < S 0 15) : Rd n N S h (f_X4_umbrella (u : Int) 6 h) (mpt (S 0) u) := by
  have q := q_umbrella (x := (u : Int)) (w := 6) hN R
  unfold vU at q
  rw [if_pos ⟨⟨by omega, hu⟩, by omega, by omega⟩, if_neg (by omega), if_neg (by omega), if_neg (by omega), if_neg (show ¬ (6 : Int) = 5 by omega), show ((u : Int)).toNat = u by omega] at q
  exact q
theorem l_cell (hN : N ≤ 1000000) (R : St n N S h) (hc : (c : Int) < S 0 16) (hw : w < 4) : Rd n N S h (f_X4_claimOf (c : Int) (w : Int) h) (nf (S 0 (78 + 6 * c + w))) := by
  have q := q_claimOf (x := (c : Int)) (w := (w : Int)) hN R
  unfold vC at q
  rw [if_pos ⟨⟨by omega, hc⟩, by omega, by omega⟩, if_pos (by omega), show ((c : Int)).toNat = c by omega, show ((w : Int)).toNat = w by omega] at q
  exact q
theorem l_mate (hN : N ≤ 1000000) (R : St n N S h) (hc : (c : Int) < S 0 16) : Rd n N S h (f_X4_claimOf (c : Int) 5 h) (nf ((mtA (S 0)).2.1 c)) := by
  have q := q_claimOf (x := (c : Int)) (w := 5) hN R
  unfold vC at q
  rw [if_pos ⟨⟨by omega, hc⟩, by omega, by omega⟩, if_neg (by omega), if_neg (by omega), if_neg (by omega), if_pos rfl, show ((c : Int)).toNat = c by omega] at q
  exact q
theorem l_suit (hN : N ≤ 1000000) (R : St n N S h) (hc : (c : Int) < S 0 16) : Rd n N S h (f_X4_claimOf (c : Int) 6 h) (sm (fS (S 0) (-1) (c : Int)) 144) := by
  have q := q_claimOf (x := (c : Int)) (w := 6) hN R
  unfold vC at q
  rw [if_pos ⟨⟨by omega, hc⟩, by omega, by omega⟩, if_neg (by omega), if_neg (by omega), if_neg (by omega), if_neg (by omega)] at q
  exact q
theorem l_doubt (hN : N ≤ 1000000) (R : St n N S h) (hc : (c : Int) < S 0 16) : Rd n N S h (f_X4_claimOf (c : Int) 7 h) (S 0 (78 + 6 * c + 5)) := by
  have q := q_claimOf (x := (c : Int)) (w := 7) hN R
  unfold vC at q
  rw [if_pos ⟨⟨by omega, hc⟩, by omega, by omega⟩, if_neg (by omega), if_neg (by omega), if_pos rfl, show ((c : Int)).toNat = c by omega] at q
  exact q
theorem h_val (R : St n N S h) (hw : w < 4) {v : Int} (hv : 0 ≤ v ∧ v ≤ 9) : Rd n N S h (f_X4_having (w : Int) v h) (cn (S 0) w v (S 0 15).toNat) := by
  have q := q_having (j := (w : Int)) (v := v) R
  unfold vH at q
  rw [if_pos ⟨⟨by omega, by omega⟩, hv⟩, show ((w : Int)).toNat = w by omega] at q
  exact q
theorem cnt_0 (hN : N ≤ 1000000) (R : St n N S h) : Rd n N S h (f_X4_count 0 h) (S 0 0) := q_count hN (by decide) R
theorem cnt_1 (hN : N ≤ 1000000) (R : St n N S h) : Rd n N S h (f_X4_count 1 h) (S 0 15) := q_count hN (by decide) R
theorem cnt_2 (hN : N ≤ 1000000) (R : St n N S h) : Rd n N S h (f_X4_count 2 h) (S 0 16) := q_count hN (by decide) R
theorem cnt_3 (hN : N ≤ 1000000) (R : St n N S h) : Rd n N S h (f_X4_count 3 h) (mtA (S 0)).2.2 := q_count hN (by decide) R
theorem cnt_4 (hN : N ≤ 1000000) (R : St n N S h) : Rd n N S h (f_X4_count 4 h) (mtA (S 0)).2.2 := q_count hN (by decide) R
theorem cnt_5 (hN : N ≤ 1000000) (R : St n N S h) : Rd n N S h (f_X4_count 5 h) (S 0 8) := q_count hN (by decide) R
theorem cnt_6 (hN : N ≤ 1000000) (R : St n N S h) : Rd n N S h (f_X4_count 6 h) (S 0 9) := q_count hN (by decide) R
theorem cnt_7 (hN : N ≤ 1000000) (R : St n N S h) : Rd n N S h (f_X4_count 7 h) (S 0 10) := q_count hN (by decide) R
theorem cnt_8 (hN : N ≤ 1000000) (R : St n N S h) : Rd n N S h (f_X4_count 8 h) (S 0 11) := q_count hN (by decide) R
theorem cnt_9 (hN : N ≤ 1000000) (R : St n N S h) : Rd n N S h (f_X4_count 9 h) (S 0 12) := q_count hN (by decide) R
theorem cnt_10 (hN : N ≤ 1000000) (R : St n N S h) : Rd n N S h (f_X4_count 10 h) (S 0 13) := q_count hN (by decide) R
theorem cnt_11 (hN : N ≤ 1000000) (R : St n N S h) : Rd n N S h (f_X4_count 11 h) (S 0 14) := q_count hN (by decide) R
theorem cnt_12 (hN : N ≤ 1000000) (R : St n N S h) : Rd n N S h (f_X4_count 12 h) (S 0 17) := q_count hN (by decide) R
theorem cnt_13 (hN : N ≤ 1000000) (R : St n N S h) : Rd n N S h (f_X4_count 13 h) (n : Int) := q_count hN (by decide) R
theorem cnt_20 (hN : N ≤ 1000000) (R : St n N S h) : Rd n N S h (f_X4_count 20 h) (S 0 1) := q_count hN (by decide) R
theorem cnt_23 (hN : N ≤ 1000000) (R : St n N S h) : Rd n N S h (f_X4_count 23 h) (S 0 4) := q_count hN (by decide) R
theorem cnt_24 (hN : N ≤ 1000000) (R : St n N S h) : Rd n N S h (f_X4_count 24 h) (S 0 5) := q_count hN (by decide) R
theorem cnt_26 (hN : N ≤ 1000000) (R : St n N S h) : Rd n N S h (f_X4_count 26 h) (S 0 7) := q_count hN (by decide) R
theorem w_why (hN : N ≤ 1000000) (R : St n N S h) (hu : (u : Int) < S 0 15) (hc : (c : Int) < S 0 16) : Rd n N S h (f_X4_why (u : Int) (c : Int) h)
    (if (mtA (S 0)).1 u = (c : Int) then 0 else if S 0 1 < mis (S 0) u c then 1 else if pts (S 0) u c < S 0 4 then 2
     else if (mtA (S 0)).1 u ≠ -1 ∧ (pts (S 0) u c < pts (S 0) u ((mtA (S 0)).1 u).toNat ∨ (pts (S 0) u c = pts (S 0) u ((mtA (S 0)).1 u).toNat ∧ (mtA (S 0)).1 u < (c : Int))) then 3 else 4) := by
  have q := q_why (u := (u : Int)) (c := (c : Int)) hN R
  unfold vW at q
  rw [if_pos ⟨⟨by omega, hu⟩, by omega, hc⟩, show ((u : Int)).toNat = u by omega, show ((c : Int)).toNat = c by omega] at q
  exact q
theorem pts_rng (R : St n N S h) (hN : N ≤ 1000000) (hu : (u : Int) < S 0 15) (hc : (c : Int) < S 0 16) : -1000000000 ≤ pts (S 0) u c ∧ pts (S 0) u c ≤ 52 := by
  obtain ⟨vg, vd, v0⟩ := R.2.2.2.2.1
  have v1 := vg.1
  have v2 := vg.2.1
  refine ⟨?_, pts_b vg vd hu hc⟩
  have s2 := vd.2.2 1 (by omega)
  have s3 := vd.2.2 2 (by omega)
  have dd := (vd.2.1 c hc).2
  rw [show sA 85 1 = 0 from rfl, show sA 86 1 = 20 from rfl, show 1 + 1 = 2 from rfl] at s2
  rw [show sA 85 2 = 0 from rfl, show sA 86 2 = 20 from rfl, show 1 + 2 = 3 from rfl] at s3
  have mb := ms_b (S 0) u c 4
  have m1 : 0 ≤ S 0 2 * mis (S 0) u c ∧ _ := mul_b s2.1 s2.2 mb.1 mb.2
  have m2 := mul_b s3.1 s3.2 dd.1 (show _ ≤ (1000000 : Int) by omega)
  have pb := ps_b (s := S 0) u c vg 4
  unfold pts
  omega
theorem w_pts (hN : N ≤ 1000000) (R : St n N S h) (hu : (u : Int) < S 0 15) (hc : (c : Int) < S 0 16) : Rd n N S h (f_X4_points (u : Int) (c : Int) h) (1000 + pts (S 0) u c) := by
  have q := q_points (u := (u : Int)) (c := (c : Int)) hN R
  have b := pts_rng R hN hu hc
  unfold vP at q
  rw [if_pos ⟨⟨by omega, hu⟩, by omega, hc⟩, show ((u : Int)).toNat = u by omega, show ((c : Int)).toNat = c by omega, wr_id (by omega) (by omega)] at q
  exact q
end Values26

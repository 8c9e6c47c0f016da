/-! umbrellas, claims and pairs hang together: to the end -/
section Hangs2
/-- what the sums keep to: umbrellas found, claims that came, entries -/
def Iv (B : Int) (s : Rw) : Prop := (0 ≤ s 10 ∧ 0 ≤ s 11 ∧ 0 ≤ s 12 ∧ 0 ≤ s 14) ∧ s 8 = s 15 + s 10 + s 11 ∧ s 9 = s 16 + s 10 + s 12 + s 14 ∧ (s 8 ≤ B ∧ s 9 ≤ B) ∧ s 17 = (if s 10 + s 11 + s 12 < 10 then s 10 + s 11 + s 12 else 10) ∧ iR (s 13)
theorem Iv.mono {B B' : Int} {s : Rw} (i : Iv B s) (h : B ≤ B') : Iv B' s := by
  obtain ⟨a, b, c, d, e, f⟩ := i
  exact ⟨a, b, c, by omega, e, f⟩
theorem sm_add (f g : Nat → Int) : ∀ n : Nat, sm (fun k => f k + g k) n = sm f n + sm g n := by
  intro n
  induction n with
  | zero => rfl
  | succ n ih =>
    rw [sm_s, sm_s, sm_s, ih]
    omega
theorem sm_zero : ∀ n : Nat, sm (fun _ => 0) n = 0 := by
  intro n
  induction n with
  | zero => rfl
  | succ n ih => rw [sm_s, ih]; rfl
theorem sm_congr {f g : Nat → Int} : ∀ n : Nat, (∀ k, k < n → f k = g k) → sm f n = sm g n := by
  intro n
  induction n with
  | zero => intro _; rfl
  | succ n ih =>
    intro h
    rw [sm_s, sm_s, ih (fun k hk => h k (by omega)), h n (by omega)]
theorem sm_swap (f : Nat → Nat → Int) (b : Nat) : ∀ a : Nat, sm (fun i => sm (fun k => f i k) b) a = sm (fun k => sm (fun i => f i k) a) b := by
  intro a
  induction a with
  | zero => exact (sm_zero b).symm
  | succ a ih =>
    rw [sm_s, ih, ← sm_add]
    rfl
theorem sm_hot (p : Nat) (P : Prop) [Decidable P] : ∀ a : Nat, sm (fun i => if i = p ∧ P then 1 else 0) a = if p < a ∧ P then 1 else 0 := by
  intro a
  induction a with
  | zero => rw [if_neg (by omega)]; rfl
  | succ a ih =>
    rw [sm_s, ih]
    by_cases hP : P
    · by_cases c : a = p
      · rw [if_neg (by omega), if_pos ⟨c, hP⟩, if_pos ⟨by omega, hP⟩]
        rfl
      · by_cases c2 : p < a
        · rw [if_pos ⟨c2, hP⟩, if_neg (fun q => c q.1), if_pos ⟨by omega, hP⟩]
          rfl
        · rw [if_neg (fun q => c2 q.1), if_neg (fun q => c q.1), if_neg (by omega)]
          rfl
    · rw [if_neg (fun q => hP q.2), if_neg (fun q => hP q.2), if_neg (fun q => hP q.2)]
      rfl
def suK (s : Rw) (k : Nat) : Int := if suP s k then 1 else 0
theorem suU_is {s : Rw} (hV : Vn s) : sm (suU s) (s 15).toNat = sm (suK s) 144 := by
  have v1 := hV.1
  have e : sm (suU s) (s 15).toNat = sm (fun k => sm (fun u => fS s (u : Int) (-1) k) (s 15).toNat) 144 := sm_swap (fun u k => fS s (u : Int) (-1) k) 144 (s 15).toNat
  rw [e]
  refine sm_congr 144 (fun k hk => ?_)
  have e2 : (fun u : Nat => fS s (u : Int) (-1) k) = fun u => if u = k / 12 ∧ suP s k then 1 else 0 := by
    funext u
    unfold fS
    by_cases c : u = k / 12 ∧ suP s k
    · rw [if_pos c, if_pos ⟨by rw [if_neg (show ¬ (u : Int) = -1 by omega)]; omega, c.2⟩]
    · rw [if_neg c, if_neg (fun q => c ⟨by have z := q.1; rw [if_neg (show ¬ (u : Int) = -1 by omega)] at z; omega, q.2⟩)]
  rw [e2, sm_hot]
  unfold suK
  by_cases c : suP s k
  · rw [if_pos c, if_pos ⟨by have := c.1.1; omega, c⟩]
  · rw [if_neg c, if_neg (fun q => c q.2)]
theorem suC_is {s : Rw} (hV : Vn s) : sm (suC s) (s 16).toNat = sm (suK s) 144 := by
  have v1 := hV.2.1
  have e : sm (suC s) (s 16).toNat = sm (fun k => sm (fun c => fS s (-1) (c : Int) k) (s 16).toNat) 144 := sm_swap (fun c k => fS s (-1) (c : Int) k) 144 (s 16).toNat
  rw [e]
  refine sm_congr 144 (fun k hk => ?_)
  have e2 : (fun u : Nat => fS s (-1) (u : Int) k) = fun u => if u = k % 12 ∧ suP s k then 1 else 0 := by
    funext u
    unfold fS
    by_cases c : u = k % 12 ∧ suP s k
    · rw [if_pos c, if_pos ⟨by rw [if_pos rfl]; omega, c.2⟩]
    · rw [if_neg c, if_neg (fun q => c ⟨by have z := q.1; rw [if_pos rfl] at z; omega, q.2⟩)]
  rw [e2, sm_hot]
  unfold suK
  by_cases c : suP s k
  · rw [if_pos c, if_pos ⟨by have := c.1.2; omega, c⟩]
  · rw [if_neg c, if_neg (fun q => c q.2)]
theorem cF_cut {U : Rw} {a : Nat} (ha : a ≤ 12) (h : ∀ j : Nat, U j ≠ -1 → j < a) : sm (cF U) a = cU U := by
  unfold cU
  rw [show 12 = a + (12 - a) by omega, sm_skip (12 - a) (fun k k1 k2 => ?_)]
  unfold cF
  refine if_pos ?_
  by_cases c : U k = -1
  · exact c
  · have := h k c
    omega
theorem mtc_nC {s : Rw} (hV : Vn s) : ∀ (n : Nat) (q : MgQ), q.2.2 = cU q.2.1 → (mtc s n q).2.2 = cU (mtc s n q).2.1 := by
  intro n
  induction n with
  | zero => intro q h; exact h
  | succ n ih =>
    intro q h
    rw [mtc_step]
    by_cases c : bst s q = -1
    · rw [if_pos c]; exact h
    · rw [if_neg c]
      rcases bst_b s q with b | b
      · exact absurd b c
      · refine ih _ ?_
        show q.2.2 + 1 = cU (gup q.2.1 ((bst s q).toNat % 12) (((bst s q).toNat / 12 : Nat) : Int))
        rw [cU_up (by omega) b.2.2.2.2 (by omega), h]
theorem mt_num {s : Rw} (hV : Vn s) : sm (cF (mtA s).1) (s 15).toNat = (mtA s).2.2 ∧ sm (cF (mtA s).2.1) (s 16).toNat = (mtA s).2.2 ∧ 0 ≤ (mtA s).2.2 ∧ (mtA s).2.2 ≤ 12 := by
  have v1 := hV.1
  have v2 := hV.2.1
  obtain ⟨q1, q2⟩ := mt_cut (s := s)
  have e1 : (mtA s).2.2 = cU (mtA s).1 := mtc_n hV 12 mt0 rfl
  have e2 : (mtA s).2.2 = cU (mtA s).2.1 := mtc_nC hV 12 mt0 rfl
  have b := cU_b (mtA s).1
  refine ⟨?_, ?_, by omega, by omega⟩
  · rw [cF_cut (by omega) (fun j hj => by have := q1 j hj; omega)]
    exact e1.symm
  · rw [cF_cut (by omega) (fun j hj => by have := q2 j hj; omega)]
    exact e2.symm
theorem gF_cut {s : Rw} (hV : Vn s) : sm (gF s (mtA s).1) (s 15).toNat = sm (gF s (mtA s).1) 12 := by
  have v1 := hV.1
  obtain ⟨q1, q2⟩ := mt_cut (s := s)
  rw [show 12 = (s 15).toNat + (12 - (s 15).toNat) by omega, sm_skip (12 - (s 15).toNat) (fun k k1 k2 => ?_)]
  unfold gF
  refine if_pos ?_
  by_cases c : (mtA s).1 k = -1
  · exact c
  · have := q1 k c
    omega
variable {N B : Int} {n : Nat} {S : Nat → Rw} {h : Hp}
theorem l_j306 (hN : N ≤ 1000000) (h9 : 0 ≤ S 0 9 ∧ S 0 9 ≤ 1000000) (R : St n N S h) {a b : Int} (e : a = b) : Fin (fun h' => St n N S h') 1 (f_L_hangs_J306 a b h) := by
  unfold f_L_hangs_J306
  rw [if_neg (by omega)]
  obtain ⟨h1, a1, a2⟩ := l_stable hN h9 R
  rw [a1, bd_s, if_neg (by omega)]
  exact Fin.ret a2
theorem l_j237 (hN : N ≤ 1000000) (hB : B ≤ 100000) (i : Iv B (S 0)) (R : St n N S h) : Fin (fun h' => St n N S h') 1 (f_L_hangs_J237 h) := by
  obtain ⟨⟨i1, i2, i3, i4⟩, i5, i6, ⟨i7, i8⟩, i9, -⟩ := i
  have v1 := R.2.2.2.2.1.1.1
  have v2 := R.2.2.2.2.1.1.2.1
  have h9 : 0 ≤ S 0 9 ∧ S 0 9 ≤ 1000000 := by omega
  unfold f_L_hangs_J237 f_L_hangs_J240
  rw [if_neg (by omega)]
  refine Fin.go (cnt_5 hN R) (fun h1 R1 _ => ?_)
  refine Fin.go (cnt_1 hN R1) (fun h2 R2 _ => ?_)
  refine Fin.go (cnt_7 hN R2) (fun h3 R3 _ => ?_)
  refine Fin.go (cnt_8 hN R3) (fun h4 R4 _ => ?_)
  rw [wr_id (z := S 0 15 + S 0 10) (by omega) (by omega), wr_id (z := S 0 15 + S 0 10 + S 0 11) (by omega) (by omega), if_neg (by omega)]
  refine Fin.go (cnt_6 hN R4) (fun h5 R5 _ => ?_)
  refine Fin.go (cnt_2 hN R5) (fun h6 R6 _ => ?_)
  refine Fin.go (cnt_7 hN R6) (fun h7 R7 _ => ?_)
  refine Fin.go (cnt_9 hN R7) (fun h8 R8 _ => ?_)
  refine Fin.go (cnt_11 hN R8) (fun h10 R10 _ => ?_)
  rw [wr_id (z := S 0 16 + S 0 10) (by omega) (by omega), wr_id (z := S 0 16 + S 0 10 + S 0 12) (by omega) (by omega), wr_id (z := S 0 16 + S 0 10 + S 0 12 + S 0 14) (by omega) (by omega), if_neg (by omega)]
  refine Fin.go (cnt_12 hN R10) (fun h11 R11 _ => ?_)
  refine Fin.go (cnt_7 hN R11) (fun h12 R12 _ => ?_)
  refine Fin.go (cnt_8 hN R12) (fun h13 R13 _ => ?_)
  refine Fin.go (cnt_9 hN R13) (fun h14 R14 _ => ?_)
  rw [wr_id (z := S 0 10 + S 0 11) (by omega) (by omega), wr_id (z := S 0 10 + S 0 11 + S 0 12) (by omega) (by omega)]
  by_cases c : 10 ≤ S 0 10 + S 0 11 + S 0 12
  · rw [if_pos c]
    rw [if_neg (by omega)] at i9
    exact l_j306 hN h9 R14 i9
  · rw [if_neg c]
    rw [if_pos (by omega)] at i9
    refine Fin.go (cnt_7 hN R14) (fun h15 R15 _ => ?_)
    refine Fin.go (cnt_8 hN R15) (fun h16 R16 _ => ?_)
    refine Fin.go (cnt_9 hN R16) (fun h17 R17 _ => ?_)
    rw [wr_id (z := S 0 10 + S 0 11) (by omega) (by omega), wr_id (z := S 0 10 + S 0 11 + S 0 12) (by omega) (by omega)]
    exact l_j306 hN h9 R17 i9
theorem l_j220 (hN : N ≤ 1000000) (hB : B ≤ 100000) (i : Iv B (S 0)) (R : St n N S h) {a b : Int} (e : a = b) : Fin (fun h' => St n N S h') 1 (f_L_hangs_J220 (mxo (S 0) (S 0 15).toNat) a b h) := by
  have vg := R.2.2.2.2.1.1
  have v1 := vg.1
  have m := mxo_is vg (S 0 15).toNat
  unfold f_L_hangs_J220
  rw [if_neg (by omega)]
  refine Fin.go (cnt_1 hN R) (fun h1 R1 _ => ?_)
  by_cases c : S 0 15 = 0
  · rw [if_neg (by omega)]
    refine Fin.go (q_oddest R1) (fun h2 R2 _ => ?_)
    rw [if_neg (by
      unfold vO nf
      rcases m with m | m
      · rw [if_pos m.1]
        exact fun z => z rfl
      · omega)]
    exact l_j237 hN hB i R2
  · rw [if_pos c]
    rcases m with m | ⟨m1, m2, m3⟩
    · omega
    obtain ⟨u, hu⟩ : ∃ u : Nat, odB (S 0) (S 0 15).toNat = u := ⟨(odB (S 0) (S 0 15).toNat).toNat, by omega⟩
    have eo : vO (S 0) = (u : Int) := by
      unfold vO nf
      rw [if_neg (by omega), hu]
    refine Fin.go (q_oddest R1) (fun h2 R2 _ => ?_)
    rw [eo]
    refine Fin.go (u_odd (u := u) hN R2 (by omega)) (fun h3 R3 _ => ?_)
    rw [if_neg (by
      rw [m3, hu, show ((u : Int)).toNat = u by omega]
      exact fun z => z rfl)]
    exact l_j237 hN hB i R3
theorem l_hangs (hN : N ≤ 1000000) (hB : B ≤ 100000) (i : Iv B (S 0)) (R : St n N S h) : Fin (fun h' => St n N S h') 1 (f_L_hangs h) := by
  have vg := R.2.2.2.2.1.1
  have vd := R.2.2.2.2.1.2.1
  have v1 := vg.1
  have v2 := vg.2.1
  have := fu_gt
  obtain ⟨n1, n2, n3, n4⟩ := mt_num vg
  have s1 := suU_is vg
  have s2 := suC_is vg
  have sb := sm_b1 (f := suK (S 0)) (fun k => by unfold suK; split <;> omega) 144
  unfold f_L_hangs
  refine l_hL10 hN (S 0 15).toNat fu 0 h (by omega) (by omega) R (fun h1 R1 => ?_)
  rw [n1, s1]
  have k := l_hL126 (Q := fun h' => St n N S h') (v := 1) (x1 := sm (gF (S 0) (mtA (S 0)).1) (S 0 15).toNat) (x4 := mxo (S 0) (S 0 15).toNat) (P := (mtA (S 0)).2.2) (T := sm (suK (S 0)) 144) (c := fun y33 y34 h35 =>
          (f_L_hangs_L170 (sm (gF (S 0) (mtA (S 0)).1) (S 0 15).toNat) y33 y34 (mxo (S 0) (S 0 15).toNat)
            (fun h41 =>
              bd (f_X4_count 3 h41) fun r42 h42 =>
              if ¬ y33 = 0 then
                f_L_hangs_J239  h42
              else
                if ¬ y34 = 0 then
                  f_L_hangs_J239  h42
                else
                  bd (f_X4_count 4 h42) fun r60 h60 =>
                  if ¬ r42 = r60 then
                    f_L_hangs_J239  h60
                  else
                    bd (f_X4_mean  h60) fun r61 h61 =>
                    if ¬ r42 = 0 then
                      bd (f_L_quotient (sm (gF (S 0) (mtA (S 0)).1) (S 0 15).toNat) r42 h61) fun r62 h62 =>
                      f_L_hangs_J220 (mxo (S 0) (S 0 15).toNat) r61 r62 h62
                    else
                      f_L_hangs_J220 (mxo (S 0) (S 0 15).toNat) r61 (-1000004) h61)
             fu 0 h35)) hN (by omega) (by omega) (S 0 16).toNat fu 0 h1 (by omega) (by omega) R1 (fun h2 R2 => ?_)
  · rw [show sm (cF (mtA (S 0)).2.1) 0 = 0 from rfl, show sm (suC (S 0)) 0 = 0 from rfl, Int.sub_zero, Int.sub_zero] at k
    exact k
  · rw [n2, s2, Int.sub_self, Int.sub_self]
    refine l_h170 hN 4 fu 0 h2 (by omega) (by omega) R2 (fun h3 R3 => ?_)
    refine Fin.go (cnt_3 hN R3) (fun h4 R4 _ => ?_)
    rw [if_neg (by omega), if_neg (by omega)]
    refine Fin.go (cnt_4 hN R4) (fun h5 R5 _ => ?_)
    rw [if_neg (by omega)]
    refine Fin.go (q_mean hN R5) (fun h6 R6 _ => ?_)
    unfold vM
    by_cases c : (mtA (S 0)).2.2 = 0
    · rw [if_neg (by omega), if_pos c]
      exact l_j220 hN hB i R6 rfl
    · have ss := gF_s vg vd (mtA_I (S 0)).1 12
      rw [show sm (cF (mtA (S 0)).1) 12 = (mtA (S 0)).2.2 from (mtc_n vg 12 mt0 rfl : (mtA (S 0)).2.2 = cU (mtA (S 0)).1).symm] at ss
      rw [if_pos c, if_neg c, gF_cut vg, l_quotient (by omega) n4 ss.1 ss.2, bd_s]
      exact l_j220 hN hB i R6 rfl
end Hangs2

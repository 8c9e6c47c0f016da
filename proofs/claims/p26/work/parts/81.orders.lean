/-! the orders that the law gives: each answers by the office alone -/
section Orders26
theorem and_low (a : Int32) : 0 ≤ (a &&& Int32.ofInt 2147483647).toInt ∧ (a &&& Int32.ofInt 2147483647).toInt ≤ 2147483647 := by
  have e : (a &&& Int32.ofInt 2147483647).toInt = (a.toBitVec &&& (Int32.ofInt 2147483647).toBitVec).toInt := rfl
  have m : (a.toBitVec &&& (Int32.ofInt 2147483647).toBitVec).msb = false := by
    rw [BitVec.msb_and, show (Int32.ofInt 2147483647).toBitVec.msb = false from by decide, Bool.and_false]
  have l := BitVec.toInt_lt (x := a.toBitVec &&& (Int32.ofInt 2147483647).toBitVec)
  rw [e]
  refine ⟨?_, by omega⟩
  rw [BitVec.toInt_eq_msb_cond, m]
  simp
theorem low_ok (x : Int) {n : Int} (h1 : 0 < n) (h2 : n ≤ 1000) : ∃ r, (0 ≤ r ∧ r < n) ∧ ∀ h, f_L_low x n h = some (r, h) := by
  obtain ⟨z0, z1⟩ := and_low (Int32.ofInt x)
  refine ⟨(Int32.ofInt x &&& Int32.ofInt 2147483647).toInt % n, ⟨Int.emod_nonneg _ (by omega), Int.emod_lt_of_pos _ h1⟩, fun h => ?_⟩
  unfold f_L_low
  rw [if_pos h1]
  have e := Int.emod_add_ediv_mul (Int32.ofInt x &&& Int32.ofInt 2147483647).toInt n
  have b1 := Int.emod_nonneg (Int32.ofInt x &&& Int32.ofInt 2147483647).toInt (b := n) (by omega)
  have b2 := Int.emod_lt_of_pos (Int32.ofInt x &&& Int32.ofInt 2147483647).toInt h1
  rw [Int.tdiv_eq_ediv_of_nonneg z0, show (Int32.ofInt x &&& Int32.ofInt 2147483647).toInt - (Int32.ofInt x &&& Int32.ofInt 2147483647).toInt / n * n = (Int32.ofInt x &&& Int32.ofInt 2147483647).toInt % n by omega, wr_id (by omega) (by omega)]
theorem Fin.low {Q : Hp → Prop} {v x n : Int} {K : Int → Hp → Option (Int × Hp)} {h : Hp} (h1 : 0 < n) (h2 : n ≤ 1000) (k : ∀ r, 0 ≤ r → r < n → Fin Q v (K r h)) : Fin Q v (bd (f_L_low x n h) K) := by
  obtain ⟨r, ⟨r1, r2⟩, e⟩ := low_ok x h1 h2
  rw [e h, bd_s]
  exact k r r1 r2
/-- an order that answers by the office alone, and what it makes of it -/
def Oq (f : Hp → Option (Int × Hp)) (r : Rw → Int) (t : Rw → Rw) : Prop := ∀ (n : Nat) (N B : Int) (S : Nat → Rw) (h : Hp), 0 ≤ N → N < 1000000 → B < 100000 → Iv B (S 0) → St n N S h → (∃ h', f h = some (r (S 0), h') ∧ Stq n N (N + 1) S (r (S 0)) (t (S 0)) h') ∧ (0 ≤ r (S 0) → Iv (B + 1) (t (S 0)))
def OQ (f : Hp → Option (Int × Hp)) : Prop := ∃ r t, Oq f r t
theorem OQ.low {x n : Int} {K : Int → Hp → Option (Int × Hp)} (h1 : 0 < n) (h2 : n ≤ 1000) (k : ∀ r, 0 ≤ r → r < n → OQ (K r)) : OQ (fun h => bd (f_L_low x n h) K) := by
  obtain ⟨r, ⟨r1, r2⟩, e⟩ := low_ok x h1 h2
  have q : (fun h => bd (f_L_low x n h) K) = K r := funext fun h => by rw [e h, bd_s]
  rw [q]
  exact k r r1 r2
theorem OQ.ret {f : Hp → Option (Int × Hp)} (o : OQ f) : OQ (fun h => bd (f h) fun r h => some (r, h)) := by
  obtain ⟨r, t, o⟩ := o
  refine ⟨r, t, fun n N B S h n1 n2 b i R => ?_⟩
  obtain ⟨⟨h', e, s⟩, v⟩ := o n N B S h n1 n2 b i R
  refine ⟨⟨h', ?_, s⟩, v⟩
  show bd (f h) _ = _
  rw [e, bd_s]
theorem OQ.ite {P : Prop} [Decidable P] {f g : Hp → Option (Int × Hp)} (a : OQ f) (b : OQ g) : OQ (fun h => if P then f h else g h) := by
  by_cases c : P
  · simp only [if_pos c]; exact a
  · simp only [if_neg c]; exact b
theorem Stq.mono {n : Nat} {N N' M r : Int} {S : Nat → Rw} {s : Rw} {h : Hp} (q : Stq n N N' S r s h) (m : N' ≤ M) : Stq n N M S r s h := q.imp id fun z => ⟨z.1, z.2.mono m⟩
theorem o_find (a b c d : Int) : OQ (fun h => f_X4_find a b c d h) := by
  refine ⟨fun s => fiR s a b c d, fun s => fiS s a b c d, fun n N B S h n1 n2 hb i R => ⟨?_, fun p => ?_⟩⟩
  · obtain ⟨h', e, s, -⟩ := q_find (a := a) (b := b) (c := c) (d := d) R
    exact ⟨h', e, s.mono (by omega)⟩
  · dsimp only at p ⊢
    obtain ⟨⟨i1, i2, i3, i4⟩, i5, i6, ⟨i7, i8⟩, i9, i10⟩ := i
    have v := R.2.2.2.2.1.1.1
    have v2 := R.2.2.2.2.1.1.2.1
    have lt : S 0 15 ≤ 11 := by
      unfold fiR at p
      split at p
      · split at p
        · omega
        · omega
      · omega
    have g15 : gup (S 0) 8 (wr (S 0 8 + 1)) 15 ≤ 11 := by
      rw [gup_far (by omega)]
      exact lt
    have far : ∀ k, k ≠ 8 → k ≠ 15 → k < 18 → fiS (S 0) a b c d k = S 0 k := fun k k1 k2 k3 => by
      unfold fiS
      rw [sapU_far g15 k2 (Or.inl k3), gup_far k1]
    have f8 : fiS (S 0) a b c d 8 = S 0 8 + 1 := by
      unfold fiS
      rw [sapU_far g15 (by omega) (by omega), gup_same, wr_id (by omega) (by omega)]
    have f15 : fiS (S 0) a b c d 15 = S 0 15 + 1 := by
      unfold fiS sapU
      rw [if_pos rfl, gup_far (by omega)]
    refine ⟨?_, ?_, ?_, ?_, ?_, ?_⟩
    · rw [far 10 (by omega) (by omega) (by omega), far 11 (by omega) (by omega) (by omega), far 12 (by omega) (by omega) (by omega), far 14 (by omega) (by omega) (by omega)]
      exact ⟨i1, i2, i3, i4⟩
    · rw [f8, f15, far 10 (by omega) (by omega) (by omega), far 11 (by omega) (by omega) (by omega)]; omega
    · rw [far 9 (by omega) (by omega) (by omega), far 10 (by omega) (by omega) (by omega), far 12 (by omega) (by omega) (by omega), far 14 (by omega) (by omega) (by omega), far 16 (by omega) (by omega) (by omega)]; omega
    · rw [f8, far 9 (by omega) (by omega) (by omega)]; omega
    · rw [far 17 (by omega) (by omega) (by omega), far 10 (by omega) (by omega) (by omega), far 11 (by omega) (by omega) (by omega), far 12 (by omega) (by omega) (by omega)]; exact i9
    · rw [far 13 (by omega) (by omega) (by omega)]; exact i10
theorem o_claim (a b c d : Int) : OQ (fun h => f_X4_claim a b c d h) := by
  refine ⟨fun s => clR s a b c d, fun s => clS s a b c d, fun n N B S h n1 n2 hb i R => ⟨?_, fun p => ?_⟩⟩
  · obtain ⟨h', e, s, -⟩ := q_claim (a := a) (b := b) (c := c) (d := d) n1 R
    exact ⟨h', e, s.mono (by omega)⟩
  · dsimp only at p ⊢
    obtain ⟨⟨i1, i2, i3, i4⟩, i5, i6, ⟨i7, i8⟩, i9, i10⟩ := i
    have v := R.2.2.2.2.1.1.1
    have v2 := R.2.2.2.2.1.1.2.1
    have lt : S 0 16 ≤ 11 := by
      unfold clR at p
      split at p
      · split at p
        · omega
        · split at p
          · omega
          · omega
      · omega
    have g16 : gup (S 0) 9 (wr (S 0 9 + 1)) 16 ≤ 11 := by
      rw [gup_far (by omega)]
      exact lt
    have far : ∀ k, k ≠ 9 → k ≠ 16 → k < 18 → clS (S 0) a b c d k = S 0 k := fun k k1 k2 k3 => by
      unfold clS
      rw [sapC_far g16 k2 (by omega), gup_far k1]
    have f8 : clS (S 0) a b c d 9 = S 0 9 + 1 := by
      unfold clS
      rw [sapC_far g16 (by omega) (by omega), gup_same, wr_id (by omega) (by omega)]
    have f15 : clS (S 0) a b c d 16 = S 0 16 + 1 := by
      unfold clS sapC
      rw [if_pos rfl, gup_far (by omega)]
    refine ⟨?_, ?_, ?_, ?_, ?_, ?_⟩
    · rw [far 10 (by omega) (by omega) (by omega), far 11 (by omega) (by omega) (by omega), far 12 (by omega) (by omega) (by omega), far 14 (by omega) (by omega) (by omega)]
      exact ⟨i1, i2, i3, i4⟩
    · rw [far 8 (by omega) (by omega) (by omega), far 15 (by omega) (by omega) (by omega), far 10 (by omega) (by omega) (by omega), far 11 (by omega) (by omega) (by omega)]; omega
    · rw [f8, f15, far 10 (by omega) (by omega) (by omega), far 12 (by omega) (by omega) (by omega), far 14 (by omega) (by omega) (by omega)]; omega
    · rw [f8, far 8 (by omega) (by omega) (by omega)]; omega
    · rw [far 17 (by omega) (by omega) (by omega), far 10 (by omega) (by omega) (by omega), far 11 (by omega) (by omega) (by omega), far 12 (by omega) (by omega) (by omega)]; exact i9
    · rw [far 13 (by omega) (by omega) (by omega)]; exact i10
theorem o_tell (a b c : Int) : OQ (fun h => f_X4_tell a b c h) := by
  refine ⟨fun s => teR s a b c, fun s => teS s a b c, fun n N B S h n1 n2 hb i R => ⟨?_, fun _ => ?_⟩⟩
  · obtain ⟨h', e, s, -⟩ := q_tell (i := a) (j := b) (v := c) ⟨n1, by omega⟩ R
    exact ⟨h', e, s⟩
  · dsimp only
    have far : ∀ k, k < 18 → teS (S 0) a b c k = S 0 k := fun k hk => by
      unfold teS tlS
      rw [gup_far (by omega), gup_far (by omega)]
    have i' := i.mono (show B ≤ B + 1 by omega)
    unfold Iv at i' ⊢
    rw [far 8 (by omega), far 9 (by omega), far 10 (by omega), far 11 (by omega), far 12 (by omega), far 13 (by omega), far 14 (by omega), far 15 (by omega), far 16 (by omega), far 17 (by omega)]
    exact i'
theorem o_drop (a : Int) : OQ (fun h => f_X4_drop a h) := by
  refine ⟨fun s => drR s a, fun s => drS s a, fun n N B S h n1 n2 hb i R => ⟨?_, fun p => ?_⟩⟩
  · obtain ⟨h', e, s, -⟩ := q_drop (i := a) R
    exact ⟨h', e, s.mono (by omega)⟩
  · dsimp only at p ⊢
    obtain ⟨⟨i1, i2, i3, i4⟩, i5, i6, ⟨i7, i8⟩, i9, i10⟩ := i
    have v := R.2.2.2.2.1.1.2.1
    have ok : 0 ≤ a ∧ a < S 0 16 := by
      unfold drR at p
      split at p
      · assumption
      · omega
    have f14 : drS (S 0) a 14 = S 0 14 + 1 := by
      unfold drS
      rw [gup_same, wr_id (by omega) (by omega)]
    have f16 : drS (S 0) a 16 = S 0 16 - 1 := by
      unfold drS cgo
      rw [gup_far (by omega), if_pos rfl]
    have far : ∀ k, k < 18 → k ≠ 14 → k ≠ 16 → drS (S 0) a k = S 0 k := fun k k1 k2 k3 => by
      unfold drS
      rw [gup_far k2, cgo_far v.2 k3 (by omega)]
    unfold Iv
    rw [f14, f16, far 8 (by omega) (by omega) (by omega), far 9 (by omega) (by omega) (by omega), far 10 (by omega) (by omega) (by omega), far 11 (by omega) (by omega) (by omega), far 12 (by omega) (by omega) (by omega), far 13 (by omega) (by omega) (by omega), far 15 (by omega) (by omega) (by omega), far 17 (by omega) (by omega) (by omega)]
    exact ⟨⟨i1, i2, i3, by omega⟩, i5, by omega, ⟨by omega, by omega⟩, i9, i10⟩
theorem o_set (a b : Int) : OQ (fun h => f_X4_set a b h) := by
  refine ⟨fun s => seR s a b, fun s => seS s a b, fun n N B S h n1 n2 hb i R => ⟨?_, fun p => ?_⟩⟩
  · obtain ⟨h', e, s, -⟩ := q_set (k := a) (v := b) R
    exact ⟨h', e, s.mono (by omega)⟩
  · dsimp only at p ⊢
    have ok : 0 ≤ a ∧ a < 7 := by
      unfold seR at p
      split at p
      · rename_i c
        exact ⟨c.1, c.2.1⟩
      · omega
    have far : ∀ k, 8 ≤ k → seS (S 0) a b k = S 0 k := fun k hk => by
      unfold seS
      rw [gup_far (by omega)]
    have i' := i.mono (show B ≤ B + 1 by omega)
    unfold Iv at i' ⊢
    rw [far 8 (by omega), far 9 (by omega), far 10 (by omega), far 11 (by omega), far 12 (by omega), far 13 (by omega), far 14 (by omega), far 15 (by omega), far 16 (by omega), far 17 (by omega)]
    exact i'
theorem o_weeks (a : Int) : OQ (fun h => f_X4_weeks a h) := by
  refine ⟨fun s => weR s a, fun s => weS s a, fun n N B S h n1 n2 hb i R => ⟨?_, fun _ => ?_⟩⟩
  · obtain ⟨h', e, s, -⟩ := q_weeks (x := a) R
    exact ⟨h', e, s.mono (by omega)⟩
  · obtain ⟨x, y, e⟩ := wks_eff (B := B) (by omega) a.toNat (S 0) R.2.2.2.2.1.1 i
    exact (e.iv i).mono (by omega)
theorem o_hand : OQ (fun h => f_X4_hand h) := by
  refine ⟨fun s => haR s, fun s => hdF s, fun n N B S h n1 n2 hb i R => ⟨?_, fun _ => ?_⟩⟩
  · have i0 := i
    obtain ⟨⟨i1, i2, i3, i4⟩, i5, i6, ⟨i7, i8⟩, i9, i10⟩ := i0
    have v1 := R.2.2.2.2.1.1.1
    obtain ⟨h', e, p, s, -⟩ := q_hand (by omega) (by unfold iR; omega) R
    exact ⟨h', e, Or.inr ⟨p, s.mono (by omega)⟩⟩
  · exact (hdF_eff (by omega) R.2.2.2.2.1.1 i).2.2.2.2.2.2.mono (by omega)
theorem o_14 (x2 : Int) {x3 : Int} (h3 : x3 = 4 ∨ x3 = 10) : OQ (fun h => f_L_act_J14 x2 x3 h) := by
  unfold f_L_act_J14
  refine OQ.low (by omega) (by omega) (fun r _ _ => ?_)
  refine OQ.low (by omega) (by omega) (fun r2 _ _ => ?_)
  refine OQ.low (by omega) (by omega) (fun r3 _ _ => ?_)
  refine OQ.low (by omega) (by omega) (fun r4 _ _ => ?_)
  exact OQ.ret (o_find _ _ _ _)
theorem o_35 (x2 : Int) {x3 : Int} (h3 : x3 = 4 ∨ x3 = 10) : OQ (fun h => f_L_act_J35 x2 x3 h) := by
  unfold f_L_act_J35
  have e : wr (x3 + 1) = x3 + 1 := wr_id (by omega) (by omega)
  rw [e]
  refine OQ.low (by omega) (by omega) (fun r _ _ => ?_)
  refine OQ.low (by omega) (by omega) (fun r2 _ _ => ?_)
  refine OQ.low (by omega) (by omega) (fun r3 _ _ => ?_)
  refine OQ.low (by omega) (by omega) (fun r4 _ _ => ?_)
  exact OQ.ret (o_claim _ _ _ _)
theorem o_72 (x1 x2 : Int) {x3 : Int} (h3 : x3 = 4 ∨ x3 = 10) : OQ (fun h => f_L_act_J72 x1 x2 x3 h) := by
  unfold f_L_act_J72
  refine OQ.low (by omega) (by omega) (fun r _ _ => ?_)
  refine OQ.low (by omega) (by omega) (fun r2 _ _ => ?_)
  refine OQ.low (by omega) (by omega) (fun r3 _ _ => ?_)
  exact OQ.ret (o_tell _ _ _)
theorem o_118 (s1 s2 : Int) {s3 : Int} (h3 : s3 = 2 ∨ s3 = 20) : OQ (fun h => f_L_act_J118 s1 s2 s3 h) := by
  unfold f_L_act_J118
  refine OQ.low (by omega) (by omega) (fun r _ _ => ?_)
  exact OQ.ret (o_weeks _)
theorem o_106 (x2 : Int) : OQ (fun h => f_L_act_J106 x2 h) := by
  unfold f_L_act_J106
  refine OQ.low (by omega) (by omega) (fun r _ _ => ?_)
  exact OQ.ite (o_118 _ _ (Or.inl rfl)) (o_118 _ _ (Or.inr rfl))
theorem o_135 (s1 s2 s3 : Int) {s4 : Int} (h3 : s4 = 16 ∨ s4 = 48) : OQ (fun h => f_L_act_J135 s1 s2 s3 s4 h) := by
  unfold f_L_act_J135
  refine OQ.low (by omega) (by omega) (fun r _ _ => ?_)
  exact OQ.ret (o_set _ _)
theorem o_9 (x1 x2 : Int) {s0 : Int} (h3 : s0 = 4 ∨ s0 = 10) : OQ (fun h => f_L_act_J9 x1 x2 s0 h) := by
  unfold f_L_act_J9
  refine OQ.low (by omega) (by omega) (fun r _ _ => ?_)
  refine OQ.ite (o_14 _ h3) (OQ.ite (o_14 _ h3) (OQ.ite (o_14 _ h3) (OQ.ite (o_14 _ h3) ?_)))
  refine OQ.ite (o_35 _ h3) (OQ.ite (o_35 _ h3) (OQ.ite (o_35 _ h3) (OQ.ite (o_35 _ h3) ?_)))
  refine OQ.ite (o_72 _ _ h3) (OQ.ite (o_72 _ _ h3) ?_)
  refine OQ.ite ?_ (OQ.ite (OQ.ret o_hand) (OQ.ite (o_106 _) (OQ.ite (o_106 _) (OQ.ite ?_ ?_))))
  · refine OQ.low (by omega) (by omega) (fun r _ _ => ?_)
    refine OQ.ite (OQ.ret o_hand) ?_
    refine OQ.low (by omega) (by omega) (fun r _ _ => ?_)
    exact OQ.ret (o_drop _)
  · refine OQ.low (by omega) (by omega) (fun r _ _ => ?_)
    exact OQ.ite (o_135 _ _ _ (Or.inl rfl)) (o_135 _ _ _ (Or.inr rfl))
  · refine OQ.low (by omega) (by omega) (fun r _ _ => ?_)
    refine OQ.ite (OQ.ite ?_ ?_) ?_
    · refine OQ.low (by omega) (by omega) (fun r _ _ => ?_)
      exact OQ.ret (o_set _ _)
    · refine OQ.low (by omega) (by omega) (fun r _ _ => ?_)
      exact OQ.ret (o_set _ _)
    · refine OQ.low (by omega) (by omega) (fun r _ _ => ?_)
      exact OQ.ret (o_set _ _)
theorem o_act (x y : Int) : OQ (fun h => f_L_act x y h) := by
  unfold f_L_act
  refine OQ.low (by omega) (by omega) (fun r _ _ => ?_)
  exact OQ.ite (o_9 _ _ (Or.inl rfl)) (o_9 _ _ (Or.inr rfl))
end Orders26

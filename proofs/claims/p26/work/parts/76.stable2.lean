/-! a pair that suits and is not matched has one of its two in a pair ahead of it: the law's own loop -/
section Stable2
theorem FrC.tr {h h1 h2 : Hp} (a : FrC h h1) (b : FrC h1 h2) : FrC h h2 := fun x hx => (b x hx).trans (a x hx)
theorem FrC.rf {h : Hp} : FrC h h := fun _ _ => rfl
/-- the law's two rows, as far as they are filled -/
def SM (s : Rw) (i : Nat) (h : Hp) : Prop := ∀ k, k < i → h 76 k = nf ((mtA s).1 k) ∧ h 77 k = mpt s k
theorem SM.fr {s : Rw} {i : Nat} {h h' : Hp} (a : SM s i h) (f : FrC h h') : SM s i h' := fun k hk => by
  rw [f 76 (by omega), f 77 (by omega)]
  exact a k hk
theorem St.row {n : Nat} {N : Int} {S : Nat → Rw} {h : Hp} {a k : Nat} {x : Int} (R : St n N S h) (ha : a = 76 ∨ a = 77) : St n N S (hup h a k x) := R.far (fun b hb => by
  rw [row_hup (by omega)])
theorem St.zr {n : Nat} {N : Int} {S : Nat → Rw} {h : Hp} {a : Nat} (R : St n N S h) (ha : a = 76 ∨ a = 77) : St n N S (hzr h a) := R.far (fun b hb => by
  funext k
  unfold hzr
  rw [if_neg (by omega)])
theorem l_s16 {Q : Hp → Prop} {v N x2 : Int} {c : Hp → Option (Int × Hp)} {S : Nat → Rw} {n : Nat} (hN : N ≤ 1000000) : ∀ (m nn i : Nat) (h : Hp), (i : Int) + m = S 0 15 → m < nn → St n N S h → SM (S 0) i h →
    (∀ h', St n N S h' → SM (S 0) (S 0 15).toNat h' → Fin Q v (c h')) → Fin Q v (f_L_stable_L16 (S 0 15) x2 c nn (i : Int) h) := by
  intro m
  induction m with
  | zero =>
    intro nn i h hi hn R sm k
    obtain ⟨nn, rfl⟩ : ∃ n', nn = n' + 1 := ⟨nn - 1, by omega⟩
    rw [f_L_stable_L16_s, if_pos (by omega)]
    exact k h R (by rw [show (S 0 15).toNat = i by omega]; exact sm)
  | succ m ih =>
    intro nn i h hi hn R sm k
    obtain ⟨nn, rfl⟩ : ∃ n', nn = n' + 1 := ⟨nn - 1, by omega⟩
    have v1 := R.2.2.2.2.1.1.1
    have hu : (i : Int) < S 0 15 := by omega
    have iu : inb (i : Int) 12 := by unfold inb; omega
    rw [f_L_stable_L16_s, if_neg (by omega)]
    refine Fin.go (u_mate hN R hu) (fun h1 R1 F1 => ?_)
    rw [if_pos iu]
    unfold lt
    refine Fin.go (u_pts hN (R1.row (a := 76) (Or.inl rfl)) hu) (fun h2 R2 F2 => ?_)
    rw [if_pos iu, wr_id (z := (i : Int) + 1) (by omega) (by omega), show ((i : Int)).toNat = i by omega]
    have k2 := ih nn (i + 1) (hup h2 77 i (mpt (S 0) i)) (by omega) (by omega) (R2.row (Or.inr rfl)) (fun j hj => by
      have z := (sm.fr F1)
      by_cases c1 : j = i
      · subst c1
        refine ⟨?_, hup_same⟩
        rw [hup_far (by omega), F2 76 (by omega), show ((j : Int)).toNat = j by omega, hup_same]
      · refine ⟨?_, ?_⟩
        · rw [hup_far (by omega), F2 76 (by omega), hup_far (by omega)]
          exact (z j (by omega)).1
        · rw [hup_far (by omega), F2 77 (by omega), hup_far (by omega)]
          exact (z j (by omega)).2) k
    rw [show ((i + 1 : Nat) : Int) = (i : Int) + 1 by omega] at k2
    exact k2
/-- the misses of a pair -/
theorem l_s76 {Q : Hp → Prop} {v N x1 x2 x7 x8 x9 x10 : Int} {c : Int → Hp → Option (Int × Hp)} {S : Nat → Rw} {n u w : Nat} (hN : N ≤ 1000000) (hu : (u : Int) < S 0 15) (hw : (w : Int) < S 0 16) : ∀ (m nn i : Nat) (h : Hp), i + m = 4 → m < nn → St n N S h →
    (∀ h', St n N S h' → FrC h h' → Fin Q v (c (mis (S 0) u w) h')) → Fin Q v (f_L_stable_L76 x1 x2 (u : Int) (w : Int) x7 x8 x9 x10 c nn (ms (S 0) u w i) (i : Int) h) := by
  intro m
  induction m with
  | zero =>
    intro nn i h hi hn R k
    obtain ⟨nn, rfl⟩ : ∃ n', nn = n' + 1 := ⟨nn - 1, by omega⟩
    obtain rfl : i = 4 := by omega
    rw [f_L_stable_L76_s, if_pos (by omega)]
    exact k h R FrC.rf
  | succ m ih =>
    intro nn i h hi hn R k
    obtain ⟨nn, rfl⟩ : ∃ n', nn = n' + 1 := ⟨nn - 1, by omega⟩
    have vd := R.2.2.2.2.1.2.1
    have cb := (vd.2.1 w hw).1 i (by omega)
    have mb := ms_b (S 0) u w i
    have e : ms (S 0) u w (i + 1) = ms (S 0) u w i + if S 0 (78 + 6 * w + i) = -1 ∨ S 0 (78 + 6 * w + i) = S 0 (18 + 5 * u + i) then 0 else 1 := rfl
    have k2 : ∀ h', St n N S h' → FrC h h' → Fin Q v (f_L_stable_L76 x1 x2 (u : Int) (w : Int) x7 x8 x9 x10 c nn (ms (S 0) u w (i + 1)) ((i : Int) + 1) h') := fun h' R' F' => by
      have z := ih nn (i + 1) h' (by omega) (by omega) R' (fun h9 R9 F9 => k h9 R9 (F'.tr F9))
      rw [show ((i + 1 : Nat) : Int) = (i : Int) + 1 by omega] at z
      exact z
    rw [f_L_stable_L76_s, if_neg (by omega)]
    refine Fin.go (l_cell (w := i) hN R hw (by omega)) (fun h1 R1 F1 => ?_)
    unfold lv
    rw [wr_id (z := (i : Int) + 1) (by omega) (by omega), wr_id (z := ms (S 0) u w i + 0) (by omega) (by omega), wr_id (z := ms (S 0) u w i + 1) (by omega) (by omega)]
    by_cases c1 : S 0 (78 + 6 * w + i) = -1
    · rw [if_pos (by unfold nf; rw [if_pos c1]; omega)]
      rw [e, if_pos (Or.inl c1)] at k2
      exact k2 h1 R1 F1
    · have en : nf (S 0 (78 + 6 * w + i)) = S 0 (78 + 6 * w + i) := by
        unfold nf
        rw [if_neg c1]
      rw [en, if_neg (by omega)]
      refine Fin.go (l_cell (w := i) hN R1 hw (by omega)) (fun h2 R2 F2 => ?_)
      refine Fin.go (u_cell (w := i) hN R2 hu (by omega)) (fun h3 R3 F3 => ?_)
      rw [en]
      by_cases c2 : S 0 (78 + 6 * w + i) = S 0 (18 + 5 * u + i)
      · rw [if_pos c2]
        rw [e, if_pos (Or.inr c2)] at k2
        exact k2 h3 R3 (F1.tr (F2.tr F3))
      · rw [if_neg c2]
        rw [e, if_neg (by omega)] at k2
        exact k2 h3 R3 (F1.tr (F2.tr F3))
def tf (P : Prop) [Decidable P] : Int := if P then 1 else 0
theorem tf_t {P : Prop} [Decidable P] (h : P) : tf P = 1 := if_pos h
theorem tf_f {P : Prop} [Decidable P] (h : ¬ P) : tf P = 0 := if_neg h
variable {c48 : Int → Hp → Option (Int × Hp)} {x1 x2 x5 x6 x7 x8 x9 x10 x11 x12 x13 x14 : Int} {h : Hp}
theorem l_j114 {s0 : Int} (hi : inb x5 12) : f_L_stable_J114 c48 x1 x2 x5 x6 x7 x8 x9 x10 x11 s0 h = f_L_stable_J133 c48 x1 x2 x5 x6 x7 x8 x9 x10 x11 s0 (tf (0 ≤ x9 ∧ (x8 < h 77 x5.toNat ∨ (h 77 x5.toNat = x8 ∧ x9 < x6)))) h := by
  unfold f_L_stable_J114 f_L_stable_J130 f_L_stable_J132
  by_cases c1 : x9 < 0
  · rw [if_pos c1, tf_f (by omega)]
  rw [if_neg c1, if_pos hi]
  by_cases c2 : x8 < h 77 x5.toNat
  · rw [if_pos c2, tf_t ⟨by omega, Or.inl c2⟩]
  rw [if_neg c2, if_pos hi]
  by_cases c3 : h 77 x5.toNat = x8
  · rw [if_neg (by omega)]
    by_cases c4 : x6 ≤ x9
    · rw [if_pos c4, tf_f (by omega)]
    · rw [if_neg c4, tf_t ⟨by omega, Or.inr ⟨c3, by omega⟩⟩]
  · rw [if_pos c3, tf_f (by omega)]
theorem l_j133 {s0 : Int} (hi : 0 ≤ x10 → inb x10 12) : f_L_stable_J133 c48 x1 x2 x5 x6 x7 x8 x9 x10 x11 x12 s0 h = f_L_stable_J152 c48 x1 x2 x5 x6 x7 x9 x11 x12 s0 (tf (0 ≤ x10 ∧ (x8 < h 77 x10.toNat ∨ (h 77 x10.toNat = x8 ∧ x10 < x5)))) h := by
  unfold f_L_stable_J133 f_L_stable_J149 f_L_stable_J151
  by_cases c1 : x10 < 0
  · rw [if_pos c1, tf_f (by omega)]
  have hi := hi (by omega)
  rw [if_neg c1, if_pos hi]
  by_cases c2 : x8 < h 77 x10.toNat
  · rw [if_pos c2, tf_t ⟨by omega, Or.inl c2⟩]
  rw [if_neg c2, if_pos hi]
  by_cases c3 : h 77 x10.toNat = x8
  · rw [if_neg (by omega)]
    by_cases c4 : x5 ≤ x10
    · rw [if_pos c4, tf_f (by omega)]
    · rw [if_neg c4, tf_t ⟨by omega, Or.inr ⟨c3, by omega⟩⟩]
  · rw [if_pos c3, tf_f (by omega)]
theorem l_j152 {Q : Hp → Prop} {v N : Int} {S : Nat → Rw} {n : Nat} (hN : N ≤ 1000000) (R : St n N S h) (b6 : 0 ≤ x6 ∧ x6 ≤ 1000) (A : x7 = 0 ↔ x9 = x6) (B : x7 = 1 ↔ (x9 ≠ x6 ∧ S 0 1 < x11)) (C : (x7 = 1 ∨ x7 = 2) ↔ x12 = 0) (C' : x12 = 0 ∨ x12 = 1) (D : x7 = 3 → x13 = 1) (E : x7 = 4 → x13 = 0 ∧ x14 = 1)
    (k : ∀ h', St n N S h' → FrC h h' → Fin Q v (c48 (x6 + 2) h')) : Fin Q v (f_L_stable_J152 c48 x1 x2 x5 x6 x7 x9 x11 x12 x13 x14 h) := by
  have e2 : wr (x6 + 2) = x6 + 2 := wr_id (by omega) (by omega)
  have j199 : ∀ h', St n N S h' → FrC h h' → Fin Q v (f_L_stable_J199 c48 x1 x2 x5 x6 x7 x13 x14 h') := fun h' R' F' => by
    unfold f_L_stable_J199
    rw [e2]
    by_cases c : x7 = 4
    · have z := E c
      rw [if_neg (by omega), if_neg (by omega), if_pos (by omega)]
      exact k h' R' F'
    · rw [if_pos c]
      exact k h' R' F'
  have j192 : ∀ (s0 : Int) h', (s0 = 1 ↔ (x7 = 1 ∨ x7 = 2)) → (s0 = 0 ∨ s0 = 1) → St n N S h' → FrC h h' → Fin Q v (f_L_stable_J192 c48 x1 x2 x5 x6 x7 x12 x13 x14 s0 h') := fun s0 h' q q' R' F' => by
    unfold f_L_stable_J192
    rw [if_neg (by omega)]
    by_cases c : x7 = 3
    · have z := D c
      rw [if_neg (by omega), if_neg (by omega)]
      exact j199 h' R' F'
    · rw [if_pos c]
      exact j199 h' R' F'
  have j182 : ∀ (s0 s1 : Int) h', s0 = s1 → St n N S h' → FrC h h' → Fin Q v (f_L_stable_J182 c48 x1 x2 x5 x6 x7 x12 x13 x14 s0 s1 h') := fun s0 s1 h' q R' F' => by
    unfold f_L_stable_J182 f_L_stable_J189
    rw [if_neg (by omega)]
    by_cases c1 : x7 = 1
    · rw [if_pos c1]
      exact j192 1 h' (by omega) (by omega) R' F'
    · rw [if_neg c1]
      by_cases c2 : x7 = 2
      · rw [if_neg (by omega)]
        exact j192 1 h' (by omega) (by omega) R' F'
      · rw [if_pos c2]
        exact j192 0 h' (by omega) (by omega) R' F'
  have j171 : ∀ (s0 : Int) h', s0 = tf (x7 = 1) → St n N S h' → FrC h h' → Fin Q v (f_L_stable_J171 c48 x1 x2 x5 x6 x7 x9 x11 x12 x13 x14 s0 h') := fun s0 h' q R' F' => by
    unfold f_L_stable_J171 f_L_stable_J181
    by_cases c1 : x9 = x6
    · rw [if_pos c1]
      exact j182 s0 0 h' (by rw [q, tf_f (by omega)]) R' F'
    · rw [if_neg c1]
      refine Fin.go (cnt_20 hN R') (fun h1 R1 F1 => ?_)
      by_cases c2 : x11 ≤ S 0 1
      · rw [if_pos c2]
        exact j182 s0 0 h1 (by rw [q, tf_f (by omega)]) R1 (F'.tr F1)
      · rw [if_neg c2]
        exact j182 s0 1 h1 (by rw [q, tf_t (by omega)]) R1 (F'.tr F1)
  have j164 : ∀ (s0 s1 : Int), s0 = s1 → Fin Q v (f_L_stable_J164 c48 x1 x2 x5 x6 x7 x9 x11 x12 x13 x14 s0 s1 h) := fun s0 s1 q => by
    unfold f_L_stable_J164
    rw [if_neg (by omega)]
    by_cases c1 : x7 = 1
    · rw [if_neg (by omega)]
      exact j171 1 h (by rw [tf_t c1]) R FrC.rf
    · rw [if_pos c1]
      exact j171 0 h (by rw [tf_f c1]) R FrC.rf
  unfold f_L_stable_J152 f_L_stable_J158
  by_cases c1 : x7 = 0
  · rw [if_neg (by omega), if_neg (by omega)]
    exact j164 1 1 rfl
  · rw [if_pos c1, if_pos (by omega)]
    exact j164 0 0 rfl
/-- one pair -/
theorem l_pair {Q : Hp → Prop} {v N : Int} {S : Nat → Rw} {n u w : Nat} {y1 y2 : Int} (hN : N ≤ 1000000) (R : St n N S h) (hu : (u : Int) < S 0 15) (hw : (w : Int) < S 0 16) (sm : SM (S 0) (S 0 15).toNat h) (r12 : Int)
    (hr : r12 = (if (mtA (S 0)).1 u = (w : Int) then 0 else if S 0 1 < mis (S 0) u w then 1 else if pts (S 0) u w < S 0 4 then 2
     else if (mtA (S 0)).1 u ≠ -1 ∧ (pts (S 0) u w < pts (S 0) u ((mtA (S 0)).1 u).toNat ∨ (pts (S 0) u w = pts (S 0) u ((mtA (S 0)).1 u).toNat ∧ (mtA (S 0)).1 u < (w : Int))) then 3 else 4))
    (s0 : Int) (hs : s0 = tf (mis (S 0) u w ≤ S 0 1 ∧ S 0 4 ≤ pts (S 0) u w))
    (k : ∀ h', St n N S h' → FrC h h' → Fin Q v (c48 ((w : Int) + 2) h')) : Fin Q v (f_L_stable_J114 c48 y1 y2 (u : Int) (w : Int) r12 (pts (S 0) u w) (nf ((mtA (S 0)).1 u)) (nf ((mtA (S 0)).2.1 w)) (mis (S 0) u w) s0 h) := by
  have vg := R.2.2.2.2.1.1
  have vd := R.2.2.2.2.1.2.1
  have v1 := vg.1
  have v2 := vg.2.1
  obtain ⟨I, J⟩ := mtA_I (S 0)
  have sta := mtA_sta vg
  -- the matches of the two
  have mu : (mtA (S 0)).1 u = -1 ∨ ∃ a : Nat, (mtA (S 0)).1 u = a ∧ (a : Int) < S 0 16 := by
    rcases I u with r | r
    · exact Or.inl r
    · exact Or.inr ⟨((mtA (S 0)).1 u).toNat, by omega, by omega⟩
  have mw : (mtA (S 0)).2.1 w = -1 ∨ ∃ a : Nat, (mtA (S 0)).2.1 w = a ∧ (a : Int) < S 0 15 ∧ (mtA (S 0)).1 a = (w : Int) := by
    rcases J w with r | r
    · exact Or.inl r
    · refine Or.inr ⟨((mtA (S 0)).2.1 w).toNat, by omega, by omega, r.2.2.2⟩
  have smu := (sm u (by omega)).2
  have nu : nf ((mtA (S 0)).1 u) = (w : Int) ↔ (mtA (S 0)).1 u = (w : Int) := by
    unfold nf
    split <;> omega
  rw [l_j114 (by unfold inb; omega), l_j133 (fun q => by
    rcases mw with r | ⟨a, r1, r2, -⟩
    · exfalso
      unfold nf at q
      rw [if_pos r] at q
      omega
    · unfold nf
      rw [if_neg (by omega), r1]
      unfold inb
      omega)]
  rw [show ((u : Int)).toNat = u by omega, smu]
  -- the umbrella is in a pair ahead
  have first : (0 ≤ nf ((mtA (S 0)).1 u) ∧ (pts (S 0) u w < mpt (S 0) u ∨ (mpt (S 0) u = pts (S 0) u w ∧ nf ((mtA (S 0)).1 u) < (w : Int)))) ↔ ((mtA (S 0)).1 u ≠ -1 ∧ (pts (S 0) u w < pts (S 0) u ((mtA (S 0)).1 u).toNat ∨ (pts (S 0) u w = pts (S 0) u ((mtA (S 0)).1 u).toNat ∧ (mtA (S 0)).1 u < (w : Int)))) := by
    unfold nf mpt
    rcases mu with r | ⟨a, r1, r2⟩
    · rw [if_pos r]
      constructor
      · intro q; omega
      · intro q; exact absurd r q.1
    · rw [if_neg (by omega), if_neg (by omega)]
      constructor
      · rintro ⟨q1, q2 | ⟨q2, q3⟩⟩
        · exact ⟨by omega, Or.inl q2⟩
        · exact ⟨by omega, Or.inr ⟨q2.symm, q3⟩⟩
      · rintro ⟨q1, q2 | ⟨q2, q3⟩⟩
        · exact ⟨by omega, Or.inl q2⟩
        · exact ⟨by omega, Or.inr ⟨q2.symm, q3⟩⟩
  have kb := r12
  refine l_j152 hN R (by omega) ?_ ?_ ?_ ?_ ?_ ?_ k
  · rw [nu, hr]
    split
    · rename_i z
      exact ⟨fun _ => z, fun _ => rfl⟩
    · rename_i z
      constructor
      · intro q
        exfalso
        split at q
        · omega
        · split at q
          · omega
          · split at q <;> omega
      · intro q
        exact absurd q z
  · rw [show (nf ((mtA (S 0)).1 u) ≠ (w : Int) ∧ S 0 1 < mis (S 0) u w) ↔ (¬ (mtA (S 0)).1 u = (w : Int) ∧ S 0 1 < mis (S 0) u w) from ⟨fun q => ⟨fun z => q.1 (nu.mpr z), q.2⟩, fun q => ⟨fun z => q.1 (nu.mp z), q.2⟩⟩, hr]
    split
    · rename_i z
      constructor
      · intro q; omega
      · intro q; exact absurd z q.1
    · rename_i z
      split
      · rename_i z2
        exact ⟨fun _ => ⟨z, z2⟩, fun _ => rfl⟩
      · rename_i z2
        constructor
        · intro q
          exfalso
          split at q
          · omega
          · split at q <;> omega
        · intro q
          exact absurd q.2 z2
  · rw [hs, hr]
    split
    · rename_i z
      have su : mis (S 0) u w ≤ S 0 1 ∧ S 0 4 ≤ pts (S 0) u w := by
        rcases I u with r | r
        · omega
        · have := r.2.2.2.1
          rw [z, show ((w : Int)).toNat = w by omega] at this
          exact this
      rw [tf_t su]
      omega
    · split
      · rw [tf_f (by omega)]
        omega
      · split
        · rw [tf_f (by omega)]
          omega
        · rw [tf_t ⟨by omega, by omega⟩]
          split <;> omega
  · rw [hs]
    unfold tf
    split
    · exact Or.inr rfl
    · exact Or.inl rfl
  · intro q
    rw [hr] at q
    split at q
    · omega
    · split at q
      · omega
      · split at q
        · omega
        · split at q
          · rename_i z
            exact tf_t (first.mpr z)
          · omega
  · intro q
    rw [hr] at q
    split at q
    · omega
    · rename_i z1
      split at q
      · omega
      · rename_i z2
        split at q
        · omega
        · rename_i z3
          split at q
          · omega
          · rename_i z4
            refine ⟨tf_f (fun z => z4 (first.mp z)), ?_⟩
            -- the claim is in a pair ahead
            have d := dv (u := u) (c := w) (by omega)
            have sk : suP (S 0) (12 * u + w) := ⟨⟨by rw [d.1]; exact hu, by rw [d.2]; exact hw⟩, by rw [d.1, d.2]; exact ⟨by omega, by omega⟩⟩
            have np : ¬ PM (mtA (S 0)).1 (12 * u + w) := fun z => z1 (by
              have z' : (mtA (S 0)).1 ((12 * u + w) / 12) = (((12 * u + w) % 12 : Nat) : Int) := z
              rw [d.1, d.2] at z'
              exact z')
            obtain ⟨j, j1, j2, j3, j4, j5⟩ := sta (12 * u + w) (by omega) sk np
            rw [d.1, d.2] at j5
            have j3' : (mtA (S 0)).1 (j / 12) = ((j % 12 : Nat) : Int) := j3
            have pk : ptP (S 0) (12 * u + w) = pts (S 0) u w := by
              unfold ptP
              rw [d.1, d.2]
            unfold aH at j4
            rw [pk] at j4
            by_cases cu : j / 12 = u
            · exfalso
              apply z4
              rw [cu] at j3'
              have pj : ptP (S 0) j = pts (S 0) u ((mtA (S 0)).1 u).toNat := by
                unfold ptP
                rw [cu, j3', show (((j % 12 : Nat) : Int)).toNat = j % 12 by omega]
              rw [← pj, j3']
              refine ⟨by omega, ?_⟩
              rcases j4 with j4 | ⟨j4, j6⟩
              · exact Or.inl j4
              · exact Or.inr ⟨j4.symm, by omega⟩
            · have cw : j % 12 = w := by omega
              -- the claim's umbrella is that of pair j
              rcases I (j / 12) with r | r
              · omega
              have r5 := r.2.2.2.2
              have r3 := r.2.2.1
              rw [j3', show (((j % 12 : Nat) : Int)).toNat = j % 12 by omega, cw] at r5
              have en : nf ((mtA (S 0)).2.1 w) = ((j / 12 : Nat) : Int) := by
                unfold nf
                rw [r5, if_neg (by omega)]
              have em : h 77 (j / 12) = pts (S 0) (j / 12) w := by
                rw [(sm (j / 12) (by omega)).2]
                unfold mpt
                rw [j3', if_neg (by omega), show (((j % 12 : Nat) : Int)).toNat = j % 12 by omega, cw]
              have pj : ptP (S 0) j = pts (S 0) (j / 12) w := by
                unfold ptP
                rw [cw]
              rw [en, show (((j / 12 : Nat) : Int)).toNat = j / 12 by omega, em, ← pj]
              refine tf_t ⟨by omega, ?_⟩
              rcases j4 with j4 | ⟨j4, j6⟩
              · exact Or.inl j4
              · exact Or.inr ⟨j4, by omega⟩
theorem l_s48 {Q : Hp → Prop} {v N : Int} {c : Hp → Option (Int × Hp)} {S : Nat → Rw} {n u : Nat} (hN : N ≤ 1000000) (hu : (u : Int) < S 0 15) : ∀ (m nn w : Nat) (h : Hp), S 0 16 ≤ (w : Int) + m → m < nn → w ≤ 20 → St n N S h → SM (S 0) (S 0 15).toNat h →
    (∀ h', St n N S h' → SM (S 0) (S 0 15).toNat h' → Fin Q v (c h')) → Fin Q v (f_L_stable_L48 (S 0 15) (S 0 16) (u : Int) c nn (w : Int) h) := by
  intro m
  induction m with
  | zero =>
    intro nn w h hi hn h20 R sm k
    obtain ⟨nn, rfl⟩ : ∃ n', nn = n' + 1 := ⟨nn - 1, by omega⟩
    rw [f_L_stable_L48_s, if_pos (by omega)]
    exact k h R sm
  | succ m ih =>
    intro nn w h hi hn h20 R sm k
    obtain ⟨nn, rfl⟩ : ∃ n', nn = n' + 1 := ⟨nn - 1, by omega⟩
    by_cases hw : (w : Int) < S 0 16
    · have vg := R.2.2.2.2.1.1
      have v1 := vg.1
      have v2 := vg.2.1
      have := fu_gt
      have pb := pts_rng R hN hu hw
      have iu : inb (u : Int) 12 := by unfold inb; omega
      rw [f_L_stable_L48_s, if_neg (by omega)]
      refine Fin.go (w_why hN R hu hw) (fun h1 R1 F1 => ?_)
      generalize hr : (if (mtA (S 0)).1 u = (w : Int) then (0 : Int) else if S 0 1 < mis (S 0) u w then 1 else if pts (S 0) u w < S 0 4 then 2 else if (mtA (S 0)).1 u ≠ -1 ∧ (pts (S 0) u w < pts (S 0) u ((mtA (S 0)).1 u).toNat ∨ (pts (S 0) u w = pts (S 0) u ((mtA (S 0)).1 u).toNat ∧ (mtA (S 0)).1 u < (w : Int))) then 3 else 4) = r12
      refine Fin.go (w_pts hN R1 hu hw) (fun h2 R2 F2 => ?_)
      unfold lv
      dsimp only
      rw [if_pos iu, wr_id (z := 1000 + pts (S 0) u w - 1000) (by omega) (by omega), show 1000 + pts (S 0) u w - 1000 = pts (S 0) u w by omega]
      have sm2 := (sm.fr F1).fr F2
      rw [show ((u : Int)).toNat = u by omega, (sm2 u (by omega)).1]
      refine Fin.go (l_mate hN R2 hw) (fun h3 R3 F3 => ?_)
      have sm3 := sm2.fr F3
      have next : ∀ (h0 h' : Hp), SM (S 0) (S 0 15).toNat h0 → St n N S h' → FrC h0 h' → Fin Q v (f_L_stable_L48 (S 0 15) (S 0 16) (u : Int) c nn ((w : Int) + 2) h') := fun h0 h' s0 R' F' => by
        have z := ih nn (w + 2) h' (by omega) (by omega) (by omega) R' (s0.fr F') k
        rw [show ((w + 2 : Nat) : Int) = (w : Int) + 2 by omega] at z
        exact z
      have go := l_s76 (Q := Q) (v := v) (x1 := S 0 15) (x2 := S 0 16) (x7 := r12) (x8 := pts (S 0) u w) (x9 := nf ((mtA (S 0)).1 u)) (x10 := nf ((mtA (S 0)).2.1 w)) (c := fun y23 h24 => bd (f_X4_count 20 h24) fun r25 h25 =>
            if r25 < y23 then
              f_L_stable_J113 (f_L_stable_L48 (S 0 15) (S 0 16) (u : Int) c nn) (S 0 15) (S 0 16) (u : Int) (w : Int) r12 (pts (S 0) u w) (nf ((mtA (S 0)).1 u)) (nf ((mtA (S 0)).2.1 w)) y23 h25
            else
              bd (f_X4_count 23 h25) fun r27 h27 =>
              if pts (S 0) u w < r27 then
                f_L_stable_J113 (f_L_stable_L48 (S 0 15) (S 0 16) (u : Int) c nn) (S 0 15) (S 0 16) (u : Int) (w : Int) r12 (pts (S 0) u w) (nf ((mtA (S 0)).1 u)) (nf ((mtA (S 0)).2.1 w)) y23 h27
              else
                f_L_stable_J114 (f_L_stable_L48 (S 0 15) (S 0 16) (u : Int) c nn) (S 0 15) (S 0 16) (u : Int) (w : Int) r12 (pts (S 0) u w) (nf ((mtA (S 0)).1 u)) (nf ((mtA (S 0)).2.1 w)) y23 1 h27) hN hu hw 4 fu 0 h3 (by omega) (by omega) R3 (fun h4 R4 F4 => by
        have sm4 := sm3.fr F4
        refine Fin.go (cnt_20 hN R4) (fun h5 R5 F5 => ?_)
        have sm5 := sm4.fr F5
        by_cases c1 : S 0 1 < mis (S 0) u w
        · rw [if_pos c1]
          unfold f_L_stable_J113
          exact l_pair hN R5 hu hw sm5 r12 hr.symm 0 (by rw [tf_f (by omega)]) (fun h' R' F' => next h5 h' sm5 R' F')
        · rw [if_neg c1]
          refine Fin.go (cnt_23 hN R5) (fun h6 R6 F6 => ?_)
          have sm6 := sm5.fr F6
          by_cases c2 : pts (S 0) u w < S 0 4
          · rw [if_pos c2]
            unfold f_L_stable_J113
            exact l_pair hN R6 hu hw sm6 r12 hr.symm 0 (by rw [tf_f (by omega)]) (fun h' R' F' => next h6 h' sm6 R' F')
          · rw [if_neg c2]
            exact l_pair hN R6 hu hw sm6 r12 hr.symm 1 (by rw [tf_t ⟨by omega, by omega⟩]) (fun h' R' F' => next h6 h' sm6 R' F'))
      exact go
    · rw [f_L_stable_L48_s, if_pos (by omega)]
      exact k h R sm
theorem l_s37 {N : Int} {S : Nat → Rw} {n : Nat} (hN : N ≤ 1000000) (h9 : 0 ≤ S 0 9 ∧ S 0 9 ≤ 1000000) : ∀ (m nn u : Nat) (h : Hp), (u : Int) + m = S 0 15 → m < nn → St n N S h → SM (S 0) (S 0 15).toNat h → Fin (fun h' => St n N S h') 1 (f_L_stable_L37 (S 0 15) (S 0 16) nn (u : Int) h) := by
  intro m
  induction m with
  | zero =>
    intro nn u h hi hn R sm
    obtain ⟨nn, rfl⟩ : ∃ n', nn = n' + 1 := ⟨nn - 1, by omega⟩
    rw [f_L_stable_L37_s, if_pos (by omega)]
    exact Fin.ret R
  | succ m ih =>
    intro nn u h hi hn R sm
    obtain ⟨nn, rfl⟩ : ∃ n', nn = n' + 1 := ⟨nn - 1, by omega⟩
    have v1 := R.2.2.2.2.1.1.1
    have v2 := R.2.2.2.2.1.1.2.1
    have := fu_gt
    rw [f_L_stable_L37_s, if_neg (by omega)]
    refine Fin.go (cnt_6 hN R) (fun h1 R1 F1 => ?_)
    unfold lv
    obtain ⟨z, hz⟩ : ∃ z : Nat, (u : Int) + S 0 9 = z := ⟨((u : Int) + S 0 9).toNat, by omega⟩
    have t : Int.tdiv (z : Int) 2 = ((z / 2 : Nat) : Int) := by
      rw [Int.tdiv_eq_ediv_of_nonneg (by omega)]
      omega
    rw [wr_id (z := (u : Int) + S 0 9) (by omega) (by omega), hz, t, wr_id (z := (z : Int) - ((z / 2 : Nat) : Int) * 2) (by omega) (by omega), show (z : Int) - ((z / 2 : Nat) : Int) * 2 = ((z % 2 : Nat) : Int) by omega, wr_id (z := (u : Int) + 1) (by omega) (by omega)]
    refine l_s48 hN (by omega) 12 fu (z % 2) h1 (by omega) (by omega) (by omega) R1 (sm.fr F1) (fun h2 R2 sm2 => ?_)
    have k := ih nn (u + 1) h2 (by omega) (by omega) R2 sm2
    rw [show ((u + 1 : Nat) : Int) = (u : Int) + 1 by omega] at k
    exact k
theorem l_stable {N : Int} {S : Nat → Rw} {n : Nat} {h : Hp} (hN : N ≤ 1000000) (h9 : 0 ≤ S 0 9 ∧ S 0 9 ≤ 1000000) (R : St n N S h) : Fin (fun h' => St n N S h') 1 (f_L_stable h) := by
  have v1 := R.2.2.2.2.1.1.1
  have := fu_gt
  unfold f_L_stable
  refine Fin.go (cnt_1 hN R) (fun h1 R1 F1 => ?_)
  refine Fin.go (cnt_2 hN R1) (fun h2 R2 F2 => ?_)
  unfold lt
  refine l_s16 hN (S 0 15).toNat fu 0 _ (by omega) (by omega) ((R2.zr (Or.inl rfl)).zr (Or.inr rfl)) (fun k hk => by omega) (fun h3 R3 sm3 => ?_)
  exact l_s37 hN h9 (S 0 15).toNat fu 0 h3 (by omega) (by omega) R3 sm3
end Stable2

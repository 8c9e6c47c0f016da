/-! the class alone: where it stands, and what its orders do -/
section State1
/-- the office holds S 0; the n kept states S 1 .. S n, the newest last -/
def St (n : Nat) (N : Int) (S : Nat → Rw) (h : Hp) : Prop := n ≤ 4 ∧ h 0 4 = n ∧ Refs (h 27) ∧ SR h 1 (S 0) ∧ Vg N (S 0) ∧ (∀ j, 1 ≤ j → j ≤ n → SR h (h 27 (j - 1)).toNat (S j) ∧ Vg N (S j)) ∧ L2 h
theorem St.mono {n : Nat} {N M : Int} {S : Nat → Rw} {h : Hp} (R : St n N S h) (q : N ≤ M) : St n M S h := by
  obtain ⟨r1, r2, r3, r4, r5, r6, r7⟩ := R
  exact ⟨r1, r2, r3, r4, r5.mono q, fun j j1 j2 => ⟨(r6 j j1 j2).1, (r6 j j1 j2).2.mono q⟩, r7⟩
/-- a call that reads: only the scratch is written -/
theorem St.read {n : Nat} {N : Int} {S : Nat → Rw} {h h' : Hp} (R : St n N S h) (f : FrT h h') : St n N S h' := by
  obtain ⟨r1, r2, r3, r4, r5, r6, r7⟩ := R
  refine ⟨r1, by rw [f 0 (by omega)]; exact r2, by rw [f 27 (by omega)]; exact r3, r4.rows (fun a _ _ => f a (by omega)), r5, fun j j1 j2 => ?_, fun a k q1 q2 => by rw [f a (by omega)]; exact r7 a k q1 q2⟩
  have io := r3.1 (j - 1) (by omega)
  rw [f 27 (by omega)]
  exact ⟨(r6 j j1 j2).1.rows (fun a _ _ => f a (by unfold IO at io; omega)), (r6 j j1 j2).2⟩
/-- a row of the law is no cell of the class -/
theorem St.far {n : Nat} {N : Int} {S : Nat → Rw} {h h' : Hp} (R : St n N S h) (f : ∀ a, a < 76 ∨ 78 ≤ a → h' a = h a) : St n N S h' := by
  obtain ⟨r1, r2, r3, r4, r5, r6, r7⟩ := R
  refine ⟨r1, by rw [f 0 (by omega)]; exact r2, by rw [f 27 (by omega)]; exact r3, r4.rows (fun a _ _ => f a (by omega)), r5, fun j j1 j2 => ?_, fun a k q1 q2 => by rw [f a (by omega)]; exact r7 a k q1 q2⟩
  have io := r3.1 (j - 1) (by omega)
  rw [f 27 (by omega)]
  exact ⟨(r6 j j1 j2).1.rows (fun a _ _ => f a (by unfold IO at io; omega)), (r6 j j1 j2).2⟩
/-- the states behind an order: the old one is kept -/
def psh (n : Nat) (S : Nat → Rw) (s : Rw) : Nat → Rw := fun j => if j = 0 then s else if j = n - shn n + 1 then S 0 else S (j + shn n)
theorem psh_0 (n : Nat) (S : Nat → Rw) (s : Rw) : psh n S s 0 = s := rfl
theorem psh_n (n : Nat) (S : Nat → Rw) (s : Rw) : psh n S s (n - shn n + 1) = S 0 := by
  unfold psh
  rw [if_neg (by omega), if_pos rfl]
theorem shn_le (n : Nat) : shn (n : Int) ≤ 1 ∧ (n ≤ 4 → n - shn (n : Int) ≤ 3) ∧ (n ≤ 4 → shn (n : Int) ≤ n) := by
  unfold shn
  split <;> omega
/-- an order that comes to its end -/
theorem st_step {n : Nat} {N N' r : Int} {S : Nat → Rw} {s : Rw} {h h1 h2 : Hp} (R : St n N S h) (hN : N ≤ N') (hr : 0 ≤ r) (k1 : SR h1 (h 27 n).toNat (S 0)) (f1 : FrO (h 27 n).toNat h h1) (k2 : SR h2 1 s) (f2 : FrO 1 h1 h2) (hs : Vg N' s) :
    ∃ h3, f_X4_recorded r h2 = some (r, h3) ∧ St (n - shn n + 1) N' (psh n S s) h3 ∧ FrC h h3 := by
  obtain ⟨r1, r2, r3, r4, r5, r6, r7⟩ := R
  have io := r3.1 n (by omega)
  have sh := shn_le n
  have f27 : h2 27 = h 27 := by rw [f2 27 (by omega), f1 27 (by unfold IO at io; omega)]
  have f04 : h2 0 4 = n := by rw [f2 0 (by omega), f1 0 (by omega)]; exact r2
  obtain ⟨h3, a1, c1, c2, c3, c4⟩ := c_rec (h := h2) (n := n) hr (by rw [f27]; exact r3) f04 (by omega) (by omega)
  have fr1 : ∀ a, a ≤ 30 → h1 a = h a := fun a ha => f1 a (by unfold IO at io; omega)
  have fr2 : ∀ a, 10 ≤ a → h2 a = h1 a := fun a ha => f2 a (by omega)
  have fr3 : ∀ a, a ≠ 0 → a ≠ 27 → h3 a = h2 a := fun a q1 q2 => funext fun k => c4 a k (by omega) q2
  refine ⟨h3, a1, ⟨by omega, ?_, c3, ?_, hs, fun j j1 j2 => ?_, fun a k q1 q2 => ?_⟩, fun a ha => ?_⟩
  · rw [c1]; omega
  · exact k2.rows (fun a _ _ => fr3 a (by omega) (by omega))
  · rw [c2 (j - 1) (by omega), fr2 27 (by omega), fr1 27 (by omega)]
    have ix := r3.1 (j - 1 + shn n) (by omega)
    unfold psh
    rw [if_neg (by omega)]
    by_cases c : j = n - shn n + 1
    · rw [if_pos c, show j - 1 + shn n = n by omega]
      exact ⟨(k1.fr f2 (by unfold IO at io; omega)).rows (fun a _ _ => fr3 a (by omega) (by unfold IO at io; omega)), r5.mono hN⟩
    · rw [if_neg c]
      obtain ⟨q1, q2⟩ := r6 (j + shn n) (by omega) (by omega)
      rw [show j + shn n - 1 = j - 1 + shn n by omega] at q1
      exact ⟨((q1.fr f1 (ref_far r3 (by omega) (by omega) (by omega))).fr f2 (by unfold IO at ix; omega)).rows (fun a _ _ => fr3 a (by omega) (by unfold IO at ix; omega)), q2.mono hN⟩
  · rw [fr3 a (by omega) (by omega), fr2 a (by omega), f1 a (by unfold IO at io; omega)]
    exact r7 a k q1 q2
  · rw [fr3 a (by omega) (by omega), fr2 a (by omega), f1 a (by unfold IO at io; omega)]
/-- an order that is refused -/
theorem st_no {n : Nat} {N : Int} {S : Nat → Rw} {h h1 : Hp} (R : St n N S h) (f : FrO (h 27 n).toNat h h1) : St n N S h1 := by
  obtain ⟨r1, r2, r3, r4, r5, r6, r7⟩ := R
  have io := r3.1 n (by omega)
  have fr : ∀ a, a ≤ 30 → h1 a = h a := fun a ha => f a (by unfold IO at io; omega)
  refine ⟨r1, by rw [fr 0 (by omega)]; exact r2, by rw [fr 27 (by omega)]; exact r3, r4.rows (fun a _ _ => fr a (by omega)), r5, fun j j1 j2 => ?_, fun a k q1 q2 => by rw [f a (by unfold IO at io; omega)]; exact r7 a k q1 q2⟩
  rw [fr 27 (by omega)]
  exact ⟨(r6 j j1 j2).1.fr f (ref_far r3 (by omega) (by omega) (by omega)), (r6 j j1 j2).2⟩
theorem st_keep {n : Nat} {N : Int} {S : Nat → Rw} {h : Hp} (R : St n N S h) : ∃ h1, f_X4_keepState h = some (0, h1) ∧ SR h1 (h 27 n).toNat (S 0) ∧ SR h1 1 (S 0) ∧ FrO (h 27 n).toNat h h1 ∧ L2 h1 ∧ FrC h h1 := by
  obtain ⟨r1, r2, r3, r4, r5, r6, r7⟩ := R
  have io := r3.1 n (by omega)
  obtain ⟨h1, a1, a2, a3⟩ := c_keep r4 r5.1 r3 r2 (by omega) (by omega)
  rw [show ((n : Int)).toNat = n by omega] at a2 a3
  exact ⟨h1, a1, a2, r4.fr a3 (by unfold IO at io; omega), a3, fun a k q1 q2 => by rw [a3 a (by unfold IO at io; omega)]; exact r7 a k q1 q2, fun a ha => a3 a (by unfold IO at io; omega)⟩
/-- what an order leaves: r its answer, s the office if it is not refused -/
def Stq (n : Nat) (N N' : Int) (S : Nat → Rw) (r : Int) (s : Rw) (h' : Hp) : Prop := (r < 0 ∧ St n N S h') ∨ (0 ≤ r ∧ St (n - shn n + 1) N' (psh n S s) h')
/-- the way of an order -/
theorem st_way {n : Nat} {N N' r : Int} {S : Nat → Rw} {s : Rw} {h : Hp} {op : Hp → Option (Int × Hp)} (R : St n N S h) (hN : N ≤ N') (go : ∀ h1, SR h1 1 (S 0) → L2 h1 → ∃ h2, op h1 = some (r, h2) ∧ ((r < 0 ∧ h2 = h1) ∨ (0 ≤ r ∧ SR h2 1 s ∧ FrO 1 h1 h2 ∧ Vg N' s))) :
    ∃ h', (bd (f_X4_keepState h) fun _ h1 => bd (op h1) fun r2 h2 => bd (f_X4_recorded r2 h2) fun r3 h3 => some (r3, h3)) = some (r, h') ∧ Stq n N N' S r s h' ∧ FrC h h' := by
  obtain ⟨h1, a1, a2, a3, a4, a5, a6⟩ := st_keep R
  obtain ⟨h2, b1, b2⟩ := go h1 a3 a5
  rw [a1, bd_s, b1, bd_s]
  rcases b2 with ⟨b2, rfl⟩ | ⟨b2, b3, b4, b5⟩
  · rw [c_rec_bad b2, bd_s]
    exact ⟨h2, rfl, Or.inl ⟨b2, st_no R a4⟩, a6⟩
  · obtain ⟨h3, d1, d2, d3⟩ := st_step R hN b2 a2 a4 b3 b4 b5
    rw [d1, bd_s]
    exact ⟨h3, rfl, Or.inr ⟨b2, d2⟩, d3⟩
/-! the orders: what each answers, and the office behind it -/
def fiR (s : Rw) (a b c d : Int) : Int := if ok4 0 a b c d then (if s 15 = 12 then -1000003 else s 15) else -1000001
noncomputable def fiS (s : Rw) (a b c d : Int) : Rw := sapU (gup s 8 (wr (s 8 + 1))) a b c d
theorem q_find {n : Nat} {N a b c d : Int} {S : Nat → Rw} {h : Hp} (R : St n N S h) : ∃ h', f_X4_find a b c d h = some (fiR (S 0) a b c d, h') ∧ Stq n N N S (fiR (S 0) a b c d) (fiS (S 0) a b c d) h' ∧ FrC h h' := by
  obtain ⟨w1, w2, w3⟩ := R.2.2.2.2.1
  have v := w1.1
  unfold f_X4_find
  refine st_way (op := fun h1 => f_X1_takeUmbrella 1 a b c d h1) R (Int.le_refl N) (fun h1 k3 _ => ?_)
  unfold fiR
  by_cases c1 : ok4 0 a b c d
  · rw [if_pos c1]
    by_cases c2 : S 0 15 = 12
    · rw [if_pos c2]
      exact ⟨h1, c_find_full k3 c1 c2, Or.inl ⟨by omega, rfl⟩⟩
    · rw [if_neg c2]
      obtain ⟨h2, z1, z2, z3⟩ := c_find k3 w1 c1 (by omega)
      have g1 := gup_V (i := 8) (x := wr (S 0 8 + 1)) w1 (by omega)
      have g2 := Vd_gup (i := 8) (x := wr (S 0 8 + 1)) w2 w1 (by omega)
      have g15 : gup (S 0) 8 (wr (S 0 8 + 1)) 15 ≤ 11 := by
        rw [gup_far (by omega)]
        omega
      refine ⟨h2, z1, Or.inr ⟨v.1, z2, z3, Vn_sapU g1 g15, Vd_sapU g1 g2 g15 c1, ?_⟩⟩
      unfold fiS
      rw [sapU_far g15 (by omega) (by omega), gup_far (by omega)]
      exact w3
  · rw [if_neg c1]
    exact ⟨h1, c_find_bad c1, Or.inl ⟨by omega, rfl⟩⟩
def clR (s : Rw) (a b c d : Int) : Int := if ok4 (-1) a b c d then (if a = -1 ∧ b = -1 ∧ c = -1 ∧ d = -1 then -1000002 else if s 16 = 12 then -1000003 else s 16) else -1000001
noncomputable def clS (s : Rw) (a b c d : Int) : Rw := sapC (gup s 9 (wr (s 9 + 1))) a b c d
theorem q_claim {n : Nat} {N a b c d : Int} {S : Nat → Rw} {h : Hp} (hN : 0 ≤ N) (R : St n N S h) : ∃ h', f_X4_claim a b c d h = some (clR (S 0) a b c d, h') ∧ Stq n N N S (clR (S 0) a b c d) (clS (S 0) a b c d) h' ∧ FrC h h' := by
  obtain ⟨w1, w2, w3⟩ := R.2.2.2.2.1
  have v := w1.2.1
  unfold f_X4_claim
  refine st_way (op := fun h1 => f_X1_takeClaim 1 a b c d h1) R (Int.le_refl N) (fun h1 k3 _ => ?_)
  unfold clR
  by_cases c1 : ok4 (-1) a b c d
  · rw [if_pos c1]
    by_cases c0 : a = -1 ∧ b = -1 ∧ c = -1 ∧ d = -1
    · rw [if_pos c0]
      exact ⟨h1, by rw [c_claim_ok c1, if_pos c0], Or.inl ⟨by omega, rfl⟩⟩
    rw [if_neg c0]
    by_cases c2 : S 0 16 = 12
    · rw [if_pos c2]
      exact ⟨h1, c_claim_full k3 c1 c0 c2, Or.inl ⟨by omega, rfl⟩⟩
    · rw [if_neg c2]
      obtain ⟨h2, z1, z2, z3⟩ := c_claim k3 w1 c1 c0 (by omega)
      have g1 := gup_V (i := 9) (x := wr (S 0 9 + 1)) w1 (by omega)
      have g2 := Vd_gup (i := 9) (x := wr (S 0 9 + 1)) w2 w1 (by omega)
      have g16 : gup (S 0) 9 (wr (S 0 9 + 1)) 16 ≤ 11 := by
        rw [gup_far (by omega)]
        omega
      refine ⟨h2, z1, Or.inr ⟨v.1, z2, z3, Vn_sapC g1 g16, Vd_sapC hN g1 g2 g16 c1, ?_⟩⟩
      unfold clS
      rw [sapC_far g16 (by omega) (by omega), gup_far (by omega)]
      exact w3
  · rw [if_neg c1]
    exact ⟨h1, c_claim_bad c1, Or.inl ⟨by omega, rfl⟩⟩
noncomputable def teR (s : Rw) (i j v : Int) : Int := if okT s i j v then tlD s i.toNat j.toNat v else -1000001
noncomputable def teS (s : Rw) (i j v : Int) : Rw := tlS s i.toNat j.toNat v
theorem q_tell {n : Nat} {N i j v : Int} {S : Nat → Rw} {h : Hp} (hN : 0 ≤ N ∧ N ≤ 1000000) (R : St n N S h) : ∃ h', f_X4_tell i j v h = some (teR (S 0) i j v, h') ∧ Stq n N (N + 1) S (teR (S 0) i j v) (teS (S 0) i j v) h' ∧ FrC h h' := by
  obtain ⟨w1, w2, w3⟩ := R.2.2.2.2.1
  have vv := w1.2.1
  unfold f_X4_tell
  refine st_way (op := fun h1 => f_X1_noteDetail 1 i j v h1) R (by omega) (fun h1 k3 _ => ?_)
  unfold teR
  by_cases c1 : okT (S 0) i j v
  · rw [if_pos c1]
    obtain ⟨h2, z1, z2, z3⟩ := c_tell k3 w1 c1
    have q := c1.1
    have q2 := c1.2.1
    refine ⟨h2, z1, Or.inr ⟨tl_0 w2 hN.2 c1, z2, z3, ?_, Vd_tlS w1 w2 hN.2 c1, ?_⟩⟩
    · unfold teS tlS
      exact gup_V (gup_V w1 (by omega)) (by omega)
    · unfold teS tlS
      rw [gup_far (by omega), gup_far (by omega)]
      exact w3
  · rw [if_neg c1]
    exact ⟨h1, c_tell_bad k3 c1, Or.inl ⟨by omega, rfl⟩⟩
def drR (s : Rw) (i : Int) : Int := if 0 ≤ i ∧ i < s 16 then s 16 - 1 else -1000001
noncomputable def drS (s : Rw) (i : Int) : Rw := gup (cgo s i.toNat) 14 (wr (s 14 + 1))
theorem q_drop {n : Nat} {N i : Int} {S : Nat → Rw} {h : Hp} (R : St n N S h) : ∃ h', f_X4_drop i h = some (drR (S 0) i, h') ∧ Stq n N N S (drR (S 0) i) (drS (S 0) i) h' ∧ FrC h h' := by
  obtain ⟨w1, w2, w3⟩ := R.2.2.2.2.1
  have vv := w1.2.1
  unfold f_X4_drop
  refine st_way (op := fun h1 => f_X1_dropClaim 1 i h1) R (by omega) (fun h1 k3 _ => ?_)
  unfold drR
  by_cases c : 0 ≤ i ∧ i < S 0 16
  · rw [if_pos c]
    obtain ⟨h2, z1, z2, z3⟩ := c_drop k3 w1 c
    have d1 := cgo_V (u := i.toNat) w1 (by omega)
    refine ⟨h2, z1, Or.inr ⟨by omega, z2, z3, gup_V d1 (by omega), Vd_gup (Vd_cgo w2 w1) d1 (by omega), ?_⟩⟩
    unfold drS
    rw [gup_far (by omega), cgo_far w1.2.1.2 (by omega) (by omega)]
    exact w3
  · rw [if_neg c]
    exact ⟨h1, c_drop_bad k3 c, Or.inl ⟨by omega, rfl⟩⟩
def seR (s : Rw) (k v : Int) : Int := if 0 ≤ k ∧ k < 7 ∧ sA 85 k.toNat ≤ v ∧ v ≤ sA 86 k.toNat then s (1 + k.toNat) else -1000001
def seS (s : Rw) (k v : Int) : Rw := gup s (1 + k.toNat) v
theorem q_set {n : Nat} {N k v : Int} {S : Nat → Rw} {h : Hp} (R : St n N S h) : ∃ h', f_X4_set k v h = some (seR (S 0) k v, h') ∧ Stq n N N S (seR (S 0) k v) (seS (S 0) k v) h' ∧ FrC h h' := by
  obtain ⟨w1, w2, w3⟩ := R.2.2.2.2.1
  unfold f_X4_set
  refine st_way (op := fun h1 => f_X1_changeSetting 1 k v h1) R (by omega) (fun h1 k3 hL => ?_)
  unfold seR
  by_cases c : okS k v
  · have c9 := c
    obtain ⟨⟨q1, q2⟩, q3, q4⟩ := c9
    rw [if_pos ⟨q1, q2, q3, q4⟩]
    obtain ⟨h2, z1, z2, z3⟩ := c_set hL k3 w1 c
    have rp := (w2.2.2 k.toNat (by omega)).1
    have rq := sA_pos (j := k.toNat) (by omega)
    refine ⟨h2, z1, Or.inr ⟨by omega, z2, z3, gup_V w1 (by omega), Vd_set w2 c, ?_⟩⟩
    unfold seS
    rw [gup_far (by omega)]
    exact w3
  · rw [if_neg (fun q => c ⟨⟨q.1, q.2.1⟩, q.2.2.1, q.2.2.2⟩)]
    exact ⟨h1, c_set_bad hL c, Or.inl ⟨by omega, rfl⟩⟩
noncomputable def weR (s : Rw) (x : Int) : Int := if 1 ≤ x ∧ x ≤ 20 then (if s 0 + x ≤ 999 then s 15 - wks x.toNat s 15 else -1000003) else -1000001
noncomputable def weS (s : Rw) (x : Int) : Rw := wks x.toNat s
theorem q_weeks {n : Nat} {N x : Int} {S : Nat → Rw} {h : Hp} (R : St n N S h) : ∃ h', f_X4_weeks x h = some (weR (S 0) x, h') ∧ Stq n N N S (weR (S 0) x) (weS (S 0) x) h' ∧ FrC h h' := by
  obtain ⟨w1, w2, w3⟩ := R.2.2.2.2.1
  unfold f_X4_weeks
  refine st_way (op := fun h1 => f_X1_passWeeks 1 x 999 h1) R (by omega) (fun h1 k3 hL => ?_)
  unfold weR
  by_cases c1 : 1 ≤ x ∧ x ≤ 20
  · rw [if_pos c1]
    have e := wr_id (z := S 0 0 + x) (by omega) (by omega)
    by_cases c2 : S 0 0 + x ≤ 999
    · rw [if_pos c2]
      obtain ⟨h2, z1, z2, z3⟩ := c_weeks (m := 999) k3 w1 c1 (by rw [e]; exact c2)
      obtain ⟨y1, y2, y3⟩ := Vd_wks x.toNat (S 0) w1 w2 w3.1 (by omega)
      obtain ⟨u1, u2, u3⟩ := wks_sold x.toNat (S 0) w1 w2
      rw [u1] at z1
      refine ⟨h2, z1, Or.inr ⟨by omega, z2, z3, y1, y2, ?_⟩⟩
      unfold weS
      rw [y3]
      omega
    · rw [if_neg c2]
      exact ⟨h1, c_weeks_full k3 c1 (by rw [e]; omega), Or.inl ⟨by omega, rfl⟩⟩
  · rw [if_neg c1]
    exact ⟨h1, c_weeks_bad c1, Or.inl ⟨by omega, rfl⟩⟩
noncomputable def haR (s : Rw) : Int := (mtA s).2.2
theorem q_hand {n : Nat} {N : Int} {S : Nat → Rw} {h : Hp} (hN : N ≤ 1000000) (h10 : iR (S 0 10)) (R : St n N S h) : ∃ h', f_X4_hand h = some (haR (S 0), h') ∧ 0 ≤ haR (S 0) ∧ St (n - shn n + 1) N (psh n S (hdF (S 0))) h' ∧ FrC h h' := by
  have R0 := R
  obtain ⟨r1, r2, r3, r4, r5, r6, r7⟩ := R0
  obtain ⟨w1, w2, w3⟩ := r5
  obtain ⟨h1, a1, a2, a3, a4, a5, a6⟩ := st_keep R
  obtain ⟨h2, b1, b2, b3, b4⟩ := c_matchAll (o := 1) (by omega) w1 w2 hN a3
  obtain ⟨h3, d1, d2, d3⟩ := c_hand (o := 1) (by omega) w1 w2 (a3.scr b4 (by omega)) b2 h10
  obtain ⟨x1, x2, x3⟩ := hdF_V w1 w2
  have io := r3.1 n (by omega)
  have h0 : 0 ≤ haR (S 0) := by
    unfold haR
    rw [show (mtA (S 0)).2.2 = cU (mtA (S 0)).1 from mtc_n w1 12 mt0 rfl]
    exact (cU_b _).1
  -- the scratch is set back
  have R2 : St n N S (sc h h2) := R.read (fun a ha => by
    unfold sc
    rw [if_neg (by omega)])
  have s27 : sc h h2 27 = h 27 := by
    unfold sc
    rw [if_neg (by omega)]
  obtain ⟨h4, e1, e2, e3⟩ := st_step (N' := N) (s := hdF (S 0)) (h := sc h h2) (h1 := h2) (h2 := h3) R2 (Int.le_refl N) h0 (by rw [s27]; exact a2.scr b4 (by unfold IO at io; omega)) (by
      rw [s27]
      intro a ha
      unfold sc
      by_cases c : 19 ≤ a ∧ a < 27
      · rw [if_pos c]
      · rw [if_neg c, b4 a (by omega), a4 a ha]) d2 d3 ⟨x1, x2, by rw [x3]; exact w3⟩
  unfold f_X4_hand
  rw [a1, bd_s, b1, bd_s, d1, bd_s]
  show ∃ h', (bd (f_X4_recorded (haR (S 0)) h3) fun r3 h3 => some (r3, h3)) = _ ∧ _
  rw [e1, bd_s]
  refine ⟨h4, rfl, h0, e2, fun a ha => ?_⟩
  rw [e3 a ha]
  unfold sc
  rw [if_neg (by omega)]
/-- undo takes a change back -/
def pop (n : Nat) (S : Nat → Rw) : Nat → Rw := fun j => if j = 0 then S n else S j
theorem q_undo {m : Nat} {N : Int} {S : Nat → Rw} {h : Hp} (R : St (m + 1) N S h) : ∃ h', f_X4_undo h = some ((m : Int), h') ∧ St m N (pop (m + 1) S) h' ∧ FrC h h' := by
  obtain ⟨r1, r2, r3, r4, r5, r6, r7⟩ := R
  have io := r3.1 m (by omega)
  unfold f_X4_undo
  rw [r2, if_neg (by omega), if_pos (by omega)]
  unfold lt
  dsimp only
  rw [wr_id (by omega) (by omega), hup_same, show ((m + 1 : Nat) : Int) - 1 = (m : Int) by omega]
  obtain ⟨q1, q2⟩ := r6 (m + 1) (by omega) (by omega)
  rw [show m + 1 - 1 = m by omega] at q1
  rw [if_pos (by
    have := okA_ref (h := hup h 0 4 (m : Int)) (x := (m : Int)) (by rw [row_hup (by omega)]; exact r3) (by omega) (by omega)
    exact this), row_hup (by omega)]
  have q3 : SR (hup h 0 4 (m : Int)) (h 27 m).toNat (S (m + 1)) := q1.rows (fun a p1 p2 => row_hup (by omega))
  obtain ⟨h', b1, b2, b3⟩ := c_become (d := 1) q3 q2.1 (by unfold IO at io; omega)
  rw [show ((m : Int)).toNat = m by omega, b1, bd_s]
  have e04 : h' 0 4 = m := by
    rw [b3 0 (by omega), hup_same]
  have fr : ∀ a, 10 ≤ a → h' a = h a := fun a ha => by
    rw [b3 a (by omega), row_hup (by omega)]
  rw [e04]
  refine ⟨h', rfl, ⟨by omega, e04, by rw [fr 27 (by omega)]; exact r3, b2, q2, fun j j1 j2 => ?_, fun a k q1 q2 => by rw [fr a (by omega)]; exact r7 a k q1 q2⟩, fun a ha => fr a (by omega)⟩
  have ix := r3.1 (j - 1) (by omega)
  unfold pop
  rw [if_neg (by omega), fr 27 (by omega)]
  exact ⟨(r6 j j1 (by omega)).1.rows (fun a _ _ => fr a (by unfold IO at ix; omega)), (r6 j j1 (by omega)).2⟩
end State1

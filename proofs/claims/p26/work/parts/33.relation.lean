/-! the pure part: how the class and the model stand to each other -/
section Rel1
def Vg (N : Int) (s : Rw) : Prop := Vn s ∧ Vd N s ∧ 0 ≤ s 0 ∧ s 0 ≤ 999
theorem Vg.ag {N : Int} {s s' : Rw} (q : Vg N s) (e : ag s s') : Vg N s' := by
  obtain ⟨a, b, c⟩ := q
  exact ⟨a.ag e, b.ag a e, by rw [e 0 (by omega)]; exact c⟩
theorem Vg.mono {N M : Int} {s : Rw} (q : Vg N s) (h : N ≤ M) : Vg M s := ⟨q.1, q.2.1.mono h, q.2.2⟩
/-- the text typed -/
def Tx (hC hM : Hp) : Prop := hC 28 1 = hM 76 3 ∧ 0 ≤ hM 76 3 ∧ hM 76 3 ≤ 60 ∧ ∀ k : Nat, (k : Int) < hM 76 3 → hC 29 k = hM 78 k ∧ 32 ≤ hM 78 k ∧ hM 78 k ≤ 126
def Rel (N : Int) (hC hM : Hp) : Prop := ∃ n : Nat, n ≤ 4 ∧ hC 0 4 = n ∧ hM 76 1 = n ∧ Refs (hC 27) ∧ SR hC 1 (gsl (hM 77) 0) ∧ Vg N (gsl (hM 77) 0) ∧ (∀ j, 1 ≤ j → j ≤ n → SR hC (hC 27 (j - 1)).toNat (gsl (hM 77) (190 * j)) ∧ Vg N (gsl (hM 77) (190 * j))) ∧ Tx hC hM
theorem SR.rows {h h' : Hp} {o : Nat} {s : Rw} (R : SR h o s) (e : ∀ a, o + 1 ≤ a → a ≤ o + 8 → h' a = h a) : SR h' o s := by
  obtain ⟨r1, r2, r3, r4, r5⟩ := R
  unfold SR RU RC RE RT RM
  rw [e (o + 1) (by omega) (by omega), e (o + 1 + 1) (by omega) (by omega), e (o + 3) (by omega) (by omega), e (o + 3 + 1) (by omega) (by omega), e (o + 5) (by omega) (by omega), e (o + 5 + 1) (by omega) (by omega), e (o + 7) (by omega) (by omega), e (o + 8) (by omega) (by omega)]
  exact ⟨r1, r2, r3, r4, r5⟩
theorem Rel.cg {N : Int} {hC hM hC' hM' : Hp} (R : Rel N hC hM) (c : ∀ a, a < 76 → hC' a = hC a) (m : ∀ a, 76 ≤ a → hM' a = hM a) : Rel N hC' hM' := by
  obtain ⟨n, r1, r2, r3, r4, r5, r6, r7, r8⟩ := R
  refine ⟨n, r1, ?_, ?_, ?_, ?_, ?_, ?_, ?_⟩
  · rw [c 0 (by omega)]; exact r2
  · rw [m 76 (by omega)]; exact r3
  · rw [c 27 (by omega)]; exact r4
  · rw [m 77 (by omega)]; exact r5.rows (fun a _ _ => c a (by omega))
  · rw [m 77 (by omega)]; exact r6
  · intro j j1 j2
    have io := r4.1 (j - 1) (by omega)
    rw [m 77 (by omega), c 27 (by omega)]
    exact ⟨(r7 j j1 j2).1.rows (fun a _ _ => c a (by omega)), (r7 j j1 j2).2⟩
  · unfold Tx at *
    rw [c 28 (by omega), c 29 (by omega), m 76 (by omega), m 78 (by omega)]
    exact r8
theorem IO_far {x y : Int} (a : IO x) (b : IO y) (c : x ≠ y) : x.toNat + 9 ≤ y.toNat ∨ y.toNat + 9 ≤ x.toNat := by
  unfold IO at *
  omega
/-- the kept state is not one of those before -/
theorem ref_far {g : Rw} {i j : Nat} (q : Refs g) (hi : i < 5) (hj : j < 5) (c : i ≠ j) : (g i).toNat + 9 ≤ (g j).toNat ∨ (g j).toNat + 9 ≤ (g i).toNat :=
  IO_far (q.1 i hi) (q.1 j hj) (fun e => c (q.2 i j hi hj e))
/-- an order that is refused -/
theorem rel_no {N : Int} {hC h1 hM hM' : Hp} {n : Nat} (R : Rel N hC hM) (hn : hC 0 4 = n) (hh : n ≤ 4) (f : FrO (hC 27 n).toNat hC h1)
    (m1 : hM' 76 = hM 76) (m2 : ∀ k, k < 950 → hM' 77 k = hM 77 k) (m3 : hM' 78 = hM 78) : Rel N h1 hM' := by
  obtain ⟨n', r1, r2, r3, r4, r5, r6, r7, r8⟩ := R
  obtain rfl : n' = n := by omega
  have io := r4.1 n' (by omega)
  have fr : ∀ a, a ≤ 31 → h1 a = hC a := fun a ha => f a (by unfold IO at io; omega)
  have sg : ∀ j, j ≤ 4 → ag (gsl (hM 77) (190 * j)) (gsl (hM' 77) (190 * j)) := fun j hj k hk => m2 _ (by omega)
  refine ⟨n', r1, ?_, ?_, ?_, ?_, ?_, ?_, ?_⟩
  · rw [fr 0 (by omega)]; exact r2
  · rw [m1]; exact r3
  · rw [fr 27 (by omega)]; exact r4
  · exact (r5.ag r6.1 (sg 0 (by omega))).rows (fun a _ _ => fr a (by omega))
  · exact r6.ag (sg 0 (by omega))
  · intro j j1 j2
    rw [fr 27 (by omega)]
    obtain ⟨q1, q2⟩ := r7 j j1 j2
    exact ⟨(q1.ag q2.1 (sg j (by omega))).fr f (ref_far r4 (by omega) (by omega) (by omega)), q2.ag (sg j (by omega))⟩
  · unfold Tx at *
    rw [fr 28 (by omega), fr 29 (by omega), m1, m3]
    exact r8
/-- an order that comes to its end -/
theorem rel_yes {N N' : Int} {hC h1 h2 h3 hM hM' : Hp} {n : Nat} {s : Rw} (R : Rel N hC hM) (hN : N ≤ N') (hn : hC 0 4 = n) (hh : n ≤ 4)
    (k1 : SR h1 (hC 27 n).toNat (gsl (hM 77) 0)) (f1 : FrO (hC 27 n).toNat hC h1) (k2 : SR h2 1 s) (f2 : FrO 1 h1 h2) (hs : Vg N' s)
    (c1 : h3 0 4 = n - shn n + 1) (c2 : ∀ j, j ≤ 4 - shn n → h3 27 j = h2 27 (j + shn n)) (c3 : Refs (h3 27)) (c4 : ∀ a k, ¬ (a = 0 ∧ k = 4) → a ≠ 27 → h3 a k = h2 a k)
    (m1 : hM' 76 1 = n - shn n + 1) (m2 : ∀ j k, 1 ≤ j → j ≤ n - shn n → k < 190 → pk hM' j k = pk hM (j + shn n) k) (m3 : ∀ k, k < 190 → pk hM' (n - shn n + 1) k = pk hM 0 k)
    (m4 : ∀ k, k < 190 → pk hM' 0 k = s k) (m5 : ∀ a, a ≠ 77 → a ≠ 76 → hM' a = hM a) (m6 : ∀ k, k ≠ 1 → hM' 76 k = hM 76 k) : Rel N' h3 hM' := by
  obtain ⟨n', r1, r2, r3, r4, r5, r6, r7, r8⟩ := R
  obtain rfl : n' = n := by omega
  have io := r4.1 n' (by omega)
  have sh : shn n' ≤ n' ∧ n' - shn n' ≤ 3 ∧ shn n' ≤ 1 := by
    unfold shn
    split <;> omega
  have fr1 : ∀ a, a ≤ 31 → h1 a = hC a := fun a ha => f1 a (by unfold IO at io; omega)
  have fr2 : ∀ a, 10 ≤ a → h2 a = h1 a := fun a ha => f2 a (by omega)
  have fr3 : ∀ a, a ≠ 0 → a ≠ 27 → h3 a = h2 a := fun a q1 q2 => funext fun k => c4 a k (by omega) q2
  refine ⟨n' - shn n' + 1, by omega, ?_, ?_, c3, ?_, ?_, ?_, ?_⟩
  · rw [c1]; omega
  · rw [m1]; omega
  · exact (k2.ag hs.1 (fun k hk => m4 k hk)).rows (fun a _ _ => fr3 a (by omega) (by omega))
  · exact hs.ag (fun k hk => m4 k hk)
  · intro j j1 j2
    rw [c2 (j - 1) (by omega), fr2 27 (by omega), fr1 27 (by omega)]
    have ix := r4.1 (j - 1 + shn n') (by omega)
    by_cases c : j = n' - shn n' + 1
    · rw [show j - 1 + shn n' = n' by omega]
      have e : ag (gsl (hM 77) 0) (gsl (hM' 77) (190 * j)) := fun k hk => by
        rw [c]
        exact m3 k hk
      exact ⟨((k1.fr f2 (by unfold IO at io; omega)).rows (fun a _ _ => fr3 a (by omega) (by unfold IO at io; omega))).ag r6.1 e, (r6.mono hN).ag e⟩
    · obtain ⟨q1, q2⟩ := r7 (j + shn n') (by omega) (by omega)
      rw [show j + shn n' - 1 = j - 1 + shn n' by omega] at q1
      have e : ag (gsl (hM 77) (190 * (j + shn n'))) (gsl (hM' 77) (190 * j)) := fun k hk => m2 j k j1 (by omega) hk
      exact ⟨(((q1.fr f1 (ref_far r4 (by omega) (by omega) (by omega))).fr f2 (by unfold IO at ix; omega)).rows (fun a _ _ => fr3 a (by omega) (by unfold IO at ix; omega))).ag q2.1 e, (q2.mono hN).ag e⟩
  · unfold Tx at *
    rw [fr3 28 (by omega) (by omega), fr3 29 (by omega) (by omega), fr2 28 (by omega), fr2 29 (by omega), fr1 28 (by omega), fr1 29 (by omega), m6 3 (by omega), m5 78 (by omega) (by omega)]
    exact r8
/-- a slice laid elsewhere: its 190 numbers, and behind them those of the place -/
def cut (h : Hp) (b : Nat) (s : Rw) : Rw := fun k => if k < 190 then s k else h 77 (b + k)
theorem hi_cut (h : Hp) (b : Nat) (s : Rw) : hiR h b (cut h b s) := by
  intro k hk
  unfold cut
  rw [if_neg (by omega)]
theorem ag_cut (h : Hp) (b : Nat) (s : Rw) : ag s (cut h b s) := by
  intro k hk
  unfold cut
  rw [if_pos hk]
theorem mst_cut (h : Hp) (b : Nat) (s : Rw) : mst b h (cut h b s) = mst b h s := by
  unfold mst
  congr 1
  funext k
  unfold gat cut
  by_cases c : b ≤ k ∧ k < b + 190
  · rw [if_pos c, if_pos c, if_pos (by omega)]
  · rw [if_neg c, if_neg c]
/-- the state that an order is tried on -/
noncomputable abbrev tr0 (h : Hp) : Rw := cut h 950 (gsl (h 77) 0)
theorem m_tried {h : Hp} : f_X5_tried h = some (950, mst (Int.toNat 950) h (tr0 h)) := by
  unfold f_X5_tried
  rw [p_copies (by omega) (by omega) (by omega), bd_s]
  show some (950, mst 950 h (gsl (h 77) 0)) = some (950, mst 950 h (cut h 950 (gsl (h 77) 0)))
  rw [mst_cut]
theorem mst_row {b : Nat} {h : Hp} {s : Rw} {a : Nat} (q : a ≠ 77) : mst b h s a = h a := hrow_far q
theorem mst_lo {b k : Nat} {h : Hp} {s : Rw} (q : k < b) : mst b h s 77 k = h 77 k := by
  unfold mst
  rw [hrow_get]
  unfold gat
  rw [if_neg (by omega)]
theorem mst_in {b k : Nat} {h : Hp} {s : Rw} (q : k < 190) : mst b h s 77 (b + k) = s k := by
  unfold mst
  rw [hrow_get]
  unfold gat
  rw [if_pos (by omega)]
  congr 1
  omega
/-- frames -/
def FrC (h h' : Hp) : Prop := ∀ a, 76 ≤ a → h' a = h a
def FrM (h h' : Hp) : Prop := ∀ a, a < 76 → h' a = h a
/-- a call: the class and the model answer alike, and stand as before -/
def Call (N N' : Int) (hC hM : Hp) (e e' : Option (Int × Hp)) : Prop := ∃ r hC' hM', e = some (r, hC') ∧ e' = some (r, hM') ∧ Rel N' hC' hM' ∧ FrC hC hC' ∧ FrM hM hM'
/-- the way of an order -/
theorem call_way {N N' x r : Int} {hC hM h1 h2 : Hp} {s : Rw} {n : Nat} {op : Int → Hp → Option (Int × Hp)} (R : Rel N hC hM) (hN : N ≤ N') (hn : hC 0 4 = n) (hh : n ≤ 4)
    (e1 : f_X4_keepState hC = some (x, h1)) (k1 : SR h1 (hC 27 n).toNat (gsl (hM 77) 0)) (f1 : FrO (hC 27 n).toNat hC h1)
    (e2 : (r < 0 ∧ h2 = h1 ∧ s = tr0 hM) ∨ (0 ≤ r ∧ SR h2 1 s ∧ FrO 1 h1 h2 ∧ Vg N' s))
    (e3 : op 950 (mst (Int.toNat 950) hM (tr0 hM)) = some (r, mst (Int.toNat 950) hM s)) :
    Call N N' hC hM (bd (f_X4_recorded r h2) fun r3 h3 => some (r3, h3)) (bd (f_X5_tried hM) fun r1 h1 => bd (op r1 h1) fun r2 h2 => bd (f_X5_done r2 h2) fun r3 h3 => some (r3, h3)) := by
  have R' := R
  obtain ⟨n', r1, r2, r3, r4, r5, r6, r7, r8⟩ := R'
  obtain rfl : n' = n := by omega
  have io := r4.1 n' (by omega)
  rw [m_tried, bd_s, e3, bd_s]
  have fr1 : FrC hC h1 := fun a ha => f1 a (by unfold IO at io; omega)
  rcases e2 with ⟨q1, rfl, rfl⟩ | ⟨q1, q2, q3, q4⟩
  · rw [c_rec_bad q1, m_done_bad q1, bd_s, bd_s]
    refine ⟨r, h2, _, rfl, rfl, ?_, fr1, fun a ha => mst_row (by omega)⟩
    obtain ⟨n9, z1, z2, z3, z4, z5, z6, z7, z8⟩ := rel_no R hn hh f1 (mst_row (by omega) : mst 950 hM (tr0 hM) 76 = hM 76) (fun k hk => mst_lo hk) (mst_row (by omega))
    exact ⟨n9, z1, z2, z3, z4, z5, z6.mono hN, fun j j1 j2 => ⟨(z7 j j1 j2).1, (z7 j j1 j2).2.mono hN⟩, z8⟩
  · have f27 : h2 27 = hC 27 := by rw [q3 27 (by omega), f1 27 (by unfold IO at io; omega)]
    have f04 : h2 0 4 = n' := by rw [q3 0 (by omega), f1 0 (by omega)]; exact r2
    obtain ⟨h3, a1, a2, a3, a4, a5⟩ := c_rec (h := h2) (n := n') q1 (by rw [f27]; exact r4) f04 (by omega) (by omega)
    obtain ⟨hM', b1, b2, b3, b4, b5, b6, b7⟩ := m_done (h := mst 950 hM s) (n := n') q1 (by rw [mst_row (by omega)]; exact r3) hh
    rw [a1, show mst (Int.toNat 950) hM s = mst 950 hM s from rfl, b1, bd_s, bd_s]
    refine ⟨r, h3, hM', rfl, rfl, ?_, fun a ha => ?_, fun a ha => ?_⟩
    · refine rel_yes R hN hn hh k1 f1 q2 q3 q4 a2 a3 a4 a5 b2 (fun j k j1 j2 hk => ?_) (fun k hk => ?_) (fun k hk => ?_) (fun a p1 p2 => ?_) (fun k hk => ?_)
      · rw [b3 j k j1 j2 hk]
        have : shn (n' : Int) ≤ 1 := by unfold shn; split <;> omega
        have : n' - shn (n' : Int) ≤ 3 := by unfold shn; split <;> omega
        exact mst_lo (by omega)
      · rw [b4 k hk]
        exact mst_lo (by omega)
      · rw [b5 k hk]
        exact mst_in hk
      · rw [b6 a p1 p2]
        exact mst_row p1
      · rw [b7 k hk, mst_row (by omega)]
    · rw [show h3 a = h2 a from funext fun k => a5 a k (by omega) (by omega), q3 a (by omega)]
      exact fr1 a ha
    · rw [b6 a (by omega) (by omega)]
      exact mst_row (by omega)
theorem rel_v {N : Int} {hC hM : Hp} (R : Rel N hC hM) : ∃ n : Nat, n ≤ 4 ∧ hC 0 4 = n ∧ (∃ h1, f_X4_keepState hC = some (0, h1) ∧ SR h1 (hC 27 n).toNat (gsl (hM 77) 0) ∧ SR h1 1 (tr0 hM) ∧ FrO (hC 27 n).toNat hC h1 ∧ FrC hC h1) ∧ Vg N (tr0 hM) ∧ hiR hM (Int.toNat 950) (tr0 hM) := by
  obtain ⟨n, r1, r2, r3, r4, r5, r6, r7, r8⟩ := R
  have io := r4.1 n (by omega)
  obtain ⟨h1, a1, a2, a3⟩ := c_keep r5 r6.1 r4 r2 (by omega) (by omega)
  rw [show ((n : Int)).toNat = n by omega] at a2 a3
  exact ⟨n, r1, r2, ⟨h1, a1, a2, (r5.fr a3 (by unfold IO at io; omega)).ag r6.1 (ag_cut hM 950 _), a3, fun a ha => a3 a (by unfold IO at io; omega)⟩, r6.ag (ag_cut hM 950 _), hi_cut hM 950 _⟩
end Rel1

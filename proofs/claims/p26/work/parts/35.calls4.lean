/-! the pure part: weeks, drop, set, undo, as calls -/
section Calls4
theorem wr_add {a b c p q : Int} (h1 : wr (a - b) = p) (h2 : wr (b - c) = q) (h3 : 0 ≤ p + q) (h4 : p + q ≤ 100) : wr (a - c) = p + q := by
  rw [wr_def] at *
  omega
theorem sel_sold : ∀ (n u : Nat) (s : Rw), Vn s → (u : Int) + n = s 15 → wr (sel n u s 11 - s 11) = s 15 - sel n u s 15 ∧ sel n u s 15 ≤ s 15 ∧ 0 ≤ sel n u s 15 := by
  intro n
  induction n with
  | zero =>
    intro u s hV hn
    have v := hV.1
    refine ⟨?_, Int.le_refl _, v.1⟩
    show wr (s 11 - s 11) = s 15 - s 15
    rw [wr_id (by omega) (by omega)]
    omega
  | succ n ih =>
    intro u s hV hn
    rw [sel_step]
    by_cases c : s (18 + 5 * u + 4) < s 6
    · rw [if_pos c]
      exact ih (u + 1) s hV (by omega)
    · rw [if_neg c]
      have v3 := hV.2.2
      have v1 := hV.1
      have w1 := wri_V (x := 1) (y := s (18 + 5 * u + 4)) (z := s 7) hV
      have w2 := gup_V (i := 11) (x := wr (s 11 + 1)) w1 (by omega)
      have f15 : gup (wri s 1 (s (18 + 5 * u + 4)) (s 7)) 11 (wr (s 11 + 1)) 15 = s 15 := by
        rw [gup_far (by omega), wri_lo v3.1 (by omega) (by omega) (by omega)]
      have e15 : ugo (gup (wri s 1 (s (18 + 5 * u + 4)) (s 7)) 11 (wr (s 11 + 1))) u 15 = s 15 - 1 := by
        unfold ugo
        rw [if_pos rfl, f15]
      have e11 : ugo (gup (wri s 1 (s (18 + 5 * u + 4)) (s 7)) 11 (wr (s 11 + 1))) u 11 = wr (s 11 + 1) := by
        rw [ugo_far w2.1.2 (by omega) (by omega), gup_eq rfl]
      have w3 := ugo_V (u := u) w2 (by rw [f15]; omega)
      obtain ⟨k1, k2, k3⟩ := ih u _ w3 (by rw [e15]; omega)
      rw [e11, e15] at k1
      rw [e15] at k2
      refine ⟨?_, by omega, k3⟩
      have k0 : wr (wr (s 11 + 1) - s 11) = 1 := by
        rw [wr_def, wr_def]
        omega
      rw [wr_add k1 k0 (by omega) (by omega)]
      omega
theorem lap_same : ∀ (n u : Nat) (s : Rw), Vn s → (u : Int) + n = s 16 → lap n u s 11 = s 11 ∧ lap n u s 15 = s 15 := by
  intro n
  induction n with
  | zero => intro u s hV hn; exact ⟨rfl, rfl⟩
  | succ n ih =>
    intro u s hV hn
    rw [lap_step]
    by_cases c : s (78 + 6 * u + 4) < s 6
    · rw [if_pos c]
      exact ih (u + 1) s hV (by omega)
    · rw [if_neg c]
      have v3 := hV.2.2
      have w1 := wri_V (x := 2) (y := s (78 + 6 * u + 4)) (z := 0) hV
      have w2 := gup_V (i := 12) (x := wr (s 12 + 1)) w1 (by omega)
      have f : ∀ k, k < 150 → k ≠ 13 → k ≠ 17 → k ≠ 12 → gup (wri s 2 (s (78 + 6 * u + 4)) 0) 12 (wr (s 12 + 1)) k = s k := fun k q1 q2 q3 q4 => by
        rw [gup_far q4, wri_lo v3.1 q1 q2 q3]
      have e16 : cgo (gup (wri s 2 (s (78 + 6 * u + 4)) 0) 12 (wr (s 12 + 1))) u 16 = s 16 - 1 := by
        unfold cgo
        rw [if_pos rfl, f 16 (by omega) (by omega) (by omega) (by omega)]
      have w3 := cgo_V (u := u) w2 (by rw [f 16 (by omega) (by omega) (by omega) (by omega)]; omega)
      obtain ⟨k1, k2⟩ := ih u _ w3 (by rw [e16]; omega)
      rw [k1, k2, cgo_far w2.2.1.2 (by omega) (by omega), cgo_far w2.2.1.2 (by omega) (by omega), f 11 (by omega) (by omega) (by omega) (by omega), f 15 (by omega) (by omega) (by omega) (by omega)]
      exact ⟨rfl, rfl⟩
theorem wk1_sold {N : Int} {s : Rw} (hV : Vn s) (q : Vd N s) : wr (wk1 s 11 - s 11) = s 15 - wk1 s 15 ∧ wk1 s 15 ≤ s 15 ∧ 0 ≤ wk1 s 15 := by
  have c : ∀ k, 1 ≤ k → k < 18 → agp (gup s 0 (wr (s 0 + 1))) 12 k = s k := fun k k1 k2 => by
    rw [agp_c _ _ _ k2, gup_far (by omega)]
  have v0 := gup_V (i := 0) (x := wr (s 0 + 1)) hV (by omega)
  have d0 := Vd_gup (i := 0) (x := wr (s 0 + 1)) q hV (by omega)
  have v1 : Vn (agp (gup s 0 (wr (s 0 + 1))) 12) := by
    unfold Vn at hV ⊢
    rw [c 15 (by omega) (by omega), c 16 (by omega) (by omega), c 17 (by omega) (by omega)]
    exact hV
  have d1 := Vd_agp (p := 12) d0 v0 (by omega)
  have u0 : ((0 : Nat) : Int) + ((s 15).toNat : Int) = agp (gup s 0 (wr (s 0 + 1))) 12 15 := by
    rw [c 15 (by omega) (by omega)]
    have := hV.1
    omega
  obtain ⟨a1, a2, a3⟩ := sel_sold (s 15).toNat 0 _ v1 u0
  obtain ⟨v2, d2, e2⟩ := Vd_sel (s 15).toNat 0 _ v1 u0 d1
  obtain ⟨b1, b2⟩ := lap_same ((sel (s 15).toNat 0 (agp (gup s 0 (wr (s 0 + 1))) 12)) 16).toNat 0 _ v2 (by have := v2.2.1; omega)
  rw [c 11 (by omega) (by omega), c 15 (by omega) (by omega)] at a1
  rw [c 15 (by omega) (by omega)] at a2
  unfold wk1
  rw [b1, b2]
  exact ⟨a1, a2, a3⟩
theorem wks_sold {N : Int} : ∀ (n : Nat) (s : Rw), Vn s → Vd N s → wr (wks n s 11 - s 11) = s 15 - wks n s 15 ∧ wks n s 15 ≤ s 15 ∧ 0 ≤ wks n s 15 := by
  intro n
  induction n with
  | zero =>
    intro s hV q
    have v := hV.1
    refine ⟨?_, Int.le_refl _, v.1⟩
    show wr (s 11 - s 11) = s 15 - s 15
    rw [wr_id (by omega) (by omega)]
    omega
  | succ n ih =>
    intro s hV q
    obtain ⟨a1, a2, a3⟩ := wk1_sold hV q
    obtain ⟨v3, d3, -⟩ := Vd_wk1 hV q
    obtain ⟨b1, b2, b3⟩ := ih _ v3 d3
    have v := hV.1
    rw [wks_step]
    refine ⟨?_, by omega, b3⟩
    rw [wr_add b1 a1 (by omega) (by omega)]
    omega
theorem k_weeks {N x : Int} {hC hM : Hp} (R : Rel N hC hM) : Call N N hC hM (f_X4_weeks x hC) (f_X5_weeks x hM) := by
  obtain ⟨n, n1, n2, ⟨h1, k1, k2, k3, k4, k5⟩, v1, v2⟩ := rel_v R
  obtain ⟨w1, w2, w3⟩ := v1
  have e3 := p_weeksIn (e := 950) (x := x) (h := hM) (s := tr0 hM) (by omega) v2 w1
  have go : ∀ r h2 s, f_X1_passWeeks 1 x 999 h1 = some (r, h2) → ((r < 0 ∧ h2 = h1 ∧ s = tr0 hM) ∨ (0 ≤ r ∧ SR h2 1 s ∧ FrO 1 h1 h2 ∧ Vg N s)) → f_X5_weeksIn 950 x (mst (Int.toNat 950) hM (tr0 hM)) = some (r, mst (Int.toNat 950) hM s) → Call N N hC hM (f_X4_weeks x hC) (f_X5_weeks x hM) := by
    intro r h2 s q1 q2 q3
    unfold f_X4_weeks f_X5_weeks
    rw [k1, bd_s, q1, bd_s]
    exact call_way (op := fun r h => f_X5_weeksIn r x h) R (by omega) n2 n1 k1 k2 k4 q2 q3
  by_cases c1 : 1 ≤ x ∧ x ≤ 20
  · rw [if_pos c1] at e3
    by_cases c2 : wr (tr0 hM 0 + x) ≤ 999
    · rw [if_pos c2] at e3
      obtain ⟨h2, z1, z2, z3⟩ := c_weeks k3 w1 c1 c2
      rw [wr_id (by omega) (by omega)] at c2
      obtain ⟨y1, y2, y3⟩ := Vd_wks x.toNat (tr0 hM) w1 w2 w3.1 (by omega)
      obtain ⟨u1, u2, u3⟩ := wks_sold x.toNat (tr0 hM) w1 w2
      refine go _ _ _ z1 (Or.inr ⟨?_, z2, z3, y1, y2, ?_⟩) e3
      · rw [u1]
        omega
      · rw [y3]
        omega
    · rw [if_neg c2] at e3
      exact go _ _ _ (c_weeks_full k3 c1 (by omega)) (Or.inl ⟨by omega, rfl, rfl⟩) e3
  · rw [if_neg c1] at e3
    exact go _ _ _ (c_weeks_bad c1) (Or.inl ⟨by omega, rfl, rfl⟩) e3
/-- the way of an order that the model does on the office itself -/
theorem call_here {N N' r : Int} {hC hM h1 h2 hM' : Hp} {s : Rw} {n : Nat} (R : Rel N hC hM) (hN : N ≤ N') (hn : hC 0 4 = n) (hh : n ≤ 4)
    (k1 : SR h1 (hC 27 n).toNat (gsl (hM 77) 0)) (f1 : FrO (hC 27 n).toNat hC h1) (hr : 0 ≤ r) (q2 : SR h2 1 s) (q3 : FrO 1 h1 h2) (q4 : Vg N' s)
    (m1 : hM' 76 1 = n - shn n + 1) (m2 : ∀ j k, 1 ≤ j → j ≤ n - shn n → k < 190 → pk hM' j k = pk hM (j + shn n) k) (m3 : ∀ k, k < 190 → pk hM' (n - shn n + 1) k = pk hM 0 k)
    (m4 : ∀ k, k < 190 → pk hM' 0 k = s k) (m5 : ∀ a, a ≠ 77 → a ≠ 76 → hM' a = hM a) (m6 : ∀ k, k ≠ 1 → hM' 76 k = hM 76 k) :
    Call N N' hC hM (bd (f_X4_recorded r h2) fun r3 h3 => some (r3, h3)) (some (r, hM')) := by
  have R' := R
  obtain ⟨n', r1, r2, r3, r4, r5, r6, r7, r8⟩ := R'
  obtain rfl : n' = n := by omega
  have io := r4.1 n' (by omega)
  have f27 : h2 27 = hC 27 := by rw [q3 27 (by omega), f1 27 (by unfold IO at io; omega)]
  have f04 : h2 0 4 = n' := by rw [q3 0 (by omega), f1 0 (by omega)]; exact r2
  obtain ⟨h3, a1, a2, a3, a4, a5⟩ := c_rec (h := h2) (n := n') hr (by rw [f27]; exact r4) f04 (by omega) (by omega)
  rw [a1, bd_s]
  refine ⟨r, h3, hM', rfl, rfl, rel_yes R hN hn hh k1 f1 q2 q3 q4 a2 a3 a4 a5 m1 m2 m3 m4 m5 m6, fun a ha => ?_, fun a ha => m5 a (by omega) (by omega)⟩
  rw [show h3 a = h2 a from funext fun k => a5 a k (by omega) (by omega), q3 a (by omega), f1 a (by unfold IO at io; omega)]
/-- a refused order that the model leaves the office for -/
theorem call_no {N N' r : Int} {hC hM h1 : Hp} {n : Nat} (R : Rel N hC hM) (hN : N ≤ N') (hn : hC 0 4 = n) (hh : n ≤ 4) (f1 : FrO (hC 27 n).toNat hC h1) (hr : r < 0) :
    Call N N' hC hM (bd (f_X4_recorded r h1) fun r3 h3 => some (r3, h3)) (some (r, hM)) := by
  have R' := R
  obtain ⟨n', r1, r2, r3, r4, r5, r6, r7, r8⟩ := R'
  obtain rfl : n' = n := by omega
  have io := r4.1 n' (by omega)
  rw [c_rec_bad hr, bd_s]
  obtain ⟨n9, z1, z2, z3, z4, z5, z6, z7, z8⟩ := rel_no (hM' := hM) R hn hh f1 rfl (fun k hk => rfl) rfl
  exact ⟨r, h1, hM, rfl, rfl, ⟨n9, z1, z2, z3, z4, z5, z6.mono hN, fun j j1 j2 => ⟨(z7 j j1 j2).1, (z7 j j1 j2).2.mono hN⟩, z8⟩, fun a ha => f1 a (by unfold IO at io; omega), fun a ha => rfl⟩
theorem mst_hi {b k : Nat} {h : Hp} {s : Rw} (q : b + 190 ≤ k) : mst b h s 77 k = h 77 k := by
  unfold mst
  rw [hrow_get]
  unfold gat
  rw [if_neg (by omega)]
theorem ag_cgo {s s' : Rw} {u : Nat} (q : ag s s') (hV : Vn s) : ag (cgo s u) (cgo s' u) := by
  have v := hV.2.1
  intro k hk
  unfold cgo
  rw [q 16 (by omega), q k hk]
  by_cases c1 : k = 16
  · rw [if_pos c1, if_pos c1]
  · rw [if_neg c1, if_neg c1]
    by_cases c2 : 78 + 6 * u ≤ k ∧ k < 78 + 6 * (s 16 - 1).toNat
    · rw [if_pos c2, if_pos c2, q _ (by omega)]
    · rw [if_neg c2, if_neg c2]
theorem ag_gup {s s' : Rw} {i : Nat} {x : Int} (q : ag s s') : ag (gup s i x) (gup s' i x) := by
  intro k hk
  unfold gup
  rw [q k hk]
theorem k_drop {N x : Int} {hC hM : Hp} (R : Rel N hC hM) : Call N N hC hM (f_X4_drop x hC) (f_X5_drop x hM) := by
  have R' := R
  obtain ⟨n, r1, r2, r3, r4, r5, r6, r7, r8⟩ := R'
  have io := r4.1 n (by omega)
  obtain ⟨h1, a1, a2, a3⟩ := c_keep r5 r6.1 r4 r2 (by omega) (by omega)
  rw [show ((n : Int)).toNat = n by omega] at a2 a3
  have k3 : SR h1 1 (gsl (hM 77) 0) := r5.fr a3 (by unfold IO at io; omega)
  obtain ⟨w1, w2, w3⟩ := r6
  have e0 := p_isC (e := 0) (i := x) (h := hM) (s := gsl (hM 77) 0) (by omega) (hi_sl hM 0) w1
  rw [show mst (Int.toNat 0) hM (gsl (hM 77) 0) = hM from mst_self 0 hM] at e0
  unfold f_X4_drop f_X5_drop
  rw [a1, bd_s, e0, bd_s]
  by_cases c : 0 ≤ x ∧ x < gsl (hM 77) 0 16
  · rw [if_pos c, if_pos (by decide)]
    obtain ⟨h2, b1, b2, b3⟩ := c_drop k3 w1 c
    obtain ⟨g, g1, g2, g3, g4, g5, g6, g7⟩ := m_records r3 r1
    have sg : ag (gsl (hM 77) 0) (gsl (g 77) 0) := fun k hk => g5 _ (by omega)
    have wg := w1.ag sg
    rw [b1, bd_s, g1, bd_s, p_cgo2 (b := 0) (by omega) c.1 (by rw [show Int.toNat 0 = 0 from rfl, sg 16 (by omega)]; exact c.2) (by exact wg.2.1.2), bd_s, if_pos (by unfold inb; omega), if_pos (by unfold inb; omega)]
    unfold lt
    dsimp only
    have q1 : hiR g 0 (cgo (gsl (g 77) 0) x.toNat) := hi_cgo (hi_sl g 0) wg.2.1.2
    have eh := hup_m2 (b := 0) (c := 14) (x := wr (mst (Int.toNat 0) g (cgo (gsl (g 77) (Int.toNat 0)) x.toNat) 77 (Int.toNat 14) + 1)) (by omega) (by omega) (by omega) q1
    rw [show (0 : Int) + 14 = 14 from rfl] at eh
    rw [if_pos (by unfold inb; omega)]
    rw [show (Int.toNat 0) = 0 from rfl] at *
    rw [eh]
    have e14 : mst 0 g (cgo (gsl (g 77) 0) x.toNat) 77 (Int.toNat 14) = gsl (hM 77) 0 14 := by
      have := mst_in (b := 0) (k := 14) (h := g) (s := cgo (gsl (g 77) 0) x.toNat) (by omega)
      rw [show Int.toNat 14 = 0 + 14 from rfl, this, ag_cgo sg w1 14 (by omega), cgo_far w1.2.1.2 (by omega) (by omega)]
    rw [e14]
    have e16 : mst 0 g (gup (cgo (gsl (g 77) 0) x.toNat) (Int.toNat 14) (wr (gsl (hM 77) 0 14 + 1))) 77 (Int.toNat 16) = gsl (hM 77) 0 16 - 1 := by
      have := mst_in (b := 0) (k := 16) (h := g) (s := gup (cgo (gsl (g 77) 0) x.toNat) (Int.toNat 14) (wr (gsl (hM 77) 0 14 + 1))) (by omega)
      rw [show Int.toNat 16 = 0 + 16 from rfl, this, gup_far (by decide), ag_cgo sg w1 16 (by omega)]
      unfold cgo
      rw [if_pos rfl]
    rw [e16]
    have d1 := cgo_V (u := x.toNat) w1 (by omega)
    refine call_here R (by omega) r2 r1 a2 a3 (by omega) b2 b3 ⟨gup_V d1 (by omega), Vd_gup (Vd_cgo w2 w1) d1 (by omega), ?_⟩ ?_ (fun j k j1 j2 hk => ?_) (fun k hk => ?_) (fun k hk => ?_) (fun a p1 p2 => ?_) (fun k hk => ?_)
    · rw [gup_far (by omega), cgo_far w1.2.1.2 (by omega) (by omega)]
      exact w3
    · rw [mst_row (by omega), g2]
    · exact (mst_hi (by omega)).trans (g3 j k j1 j2 hk)
    · exact (mst_hi (by omega)).trans (g4 k hk)
    · show mst 0 g _ 77 (0 + k) = _
      rw [mst_in hk]
      exact ag_gup (ag_cgo sg w1) k hk
    · rw [mst_row p1]
      exact g6 a p1 p2
    · rw [mst_row (by omega)]
      exact g7 k hk
  · rw [if_neg c, if_neg (by decide), c_drop_bad k3 c, bd_s]
    exact call_no R (by omega) r2 r1 a3 (by omega)
theorem set_h {k v lo hi : Int} {h : Hp} (e : okS k v ↔ (lo ≤ v ∧ v ≤ hi)) : (bd (f_X5_in v lo hi h) fun r1 h1 => if isB r1 then some (r1, h1) else none) = some (if okS k v then 1 else 0, h) := by
  rw [p_in, bd_s]
  by_cases c : lo ≤ v ∧ v ≤ hi
  · rw [if_pos c, if_pos (e.2 c), if_pos (Or.inr rfl)]
  · rw [if_neg c, if_neg (fun x => c (e.1 x)), if_pos (Or.inl rfl)]
theorem p_isSet {k v : Int} {h : Hp} : f_X5_isSetting k v h = some (if okS k v then 1 else 0, h) := by
  unfold f_X5_isSetting
  by_cases k0 : k = 0
  · rw [if_pos k0]
    subst k0
    exact set_h (by show ((0 : Int) ≤ 0 ∧ (0 : Int) < 7) ∧ (0 : Int) ≤ v ∧ v ≤ (3 : Int) ↔ _; omega)
  rw [if_neg k0]
  by_cases k1 : k = 1
  · rw [if_pos k1]
    subst k1
    exact set_h (by show ((0 : Int) ≤ 1 ∧ (1 : Int) < 7) ∧ (0 : Int) ≤ v ∧ v ≤ (20 : Int) ↔ _; omega)
  rw [if_neg k1]
  by_cases k2 : k = 2
  · rw [if_pos k2]
    subst k2
    exact set_h (by show ((0 : Int) ≤ 2 ∧ (2 : Int) < 7) ∧ (0 : Int) ≤ v ∧ v ≤ (20 : Int) ↔ _; omega)
  rw [if_neg k2]
  by_cases k3 : k = 3
  · rw [if_pos k3]
    subst k3
    exact set_h (by show ((0 : Int) ≤ 3 ∧ (3 : Int) < 7) ∧ (1 : Int) ≤ v ∧ v ≤ (48 : Int) ↔ _; omega)
  rw [if_neg k3]
  by_cases k4 : k = 4
  · rw [if_pos k4]
    subst k4
    exact set_h (by show ((0 : Int) ≤ 4 ∧ (4 : Int) < 7) ∧ (0 : Int) ≤ v ∧ v ≤ (9 : Int) ↔ _; omega)
  rw [if_neg k4]
  by_cases k5 : k = 5
  · rw [if_pos k5]
    subst k5
    exact set_h (by show ((0 : Int) ≤ 5 ∧ (5 : Int) < 7) ∧ (1 : Int) ≤ v ∧ v ≤ (20 : Int) ↔ _; omega)
  rw [if_neg k5]
  by_cases k6 : k = 6
  · rw [if_pos k6]
    subst k6
    exact set_h (by show ((0 : Int) ≤ 6 ∧ (6 : Int) < 7) ∧ (1 : Int) ≤ v ∧ v ≤ (20 : Int) ↔ _; omega)
  rw [if_neg k6, if_neg (fun q => by have := q.1; omega)]
theorem sA_pos {j : Nat} (hj : j < 7) : 0 ≤ sA 85 j := by
  have key : ∀ j, j < 7 → 0 ≤ sA 85 j := by decide
  exact key j hj
theorem k_set {N k v : Int} {hC hM : Hp} (hL : L2 hC) (R : Rel N hC hM) : Call N N hC hM (f_X4_set k v hC) (f_X5_set k v hM) := by
  have R' := R
  obtain ⟨n, r1, r2, r3, r4, r5, r6, r7, r8⟩ := R'
  have io := r4.1 n (by omega)
  obtain ⟨h1, a1, a2, a3⟩ := c_keep r5 r6.1 r4 r2 (by omega) (by omega)
  rw [show ((n : Int)).toNat = n by omega] at a2 a3
  have k3 : SR h1 1 (gsl (hM 77) 0) := r5.fr a3 (by unfold IO at io; omega)
  have hL1 : L2 h1 := fun a j q1 q2 => by
    rw [a3 a (by unfold IO at io; omega)]
    exact hL a j q1 q2
  obtain ⟨w1, w2, w3⟩ := r6
  unfold f_X4_set f_X5_set
  rw [a1, bd_s, p_isSet, bd_s]
  by_cases c : okS k v
  · rw [if_pos c, if_pos (by decide)]
    obtain ⟨h2, b1, b2, b3⟩ := c_set hL1 k3 w1 c
    obtain ⟨g, g1, g2, g3, g4, g5, g6, g7⟩ := m_records r3 r1
    have sg : ag (gsl (hM 77) 0) (gsl (g 77) 0) := fun k hk => g5 _ (by omega)
    have cc := c.1
    rw [b1, bd_s, g1, bd_s, wr_id (by omega) (by omega), if_pos (by unfold inb; omega)]
    unfold lv lt
    dsimp only
    rw [if_pos (by unfold inb; omega)]
    have eh := hup_mst (b := 0) (c := 1 + k) (x := v) (h := g) (by omega) (by omega) (by omega)
    rw [show (0 : Int) + (1 + k) = 1 + k by omega, show (Int.toNat 0) = 0 from rfl, show (1 + k).toNat = 1 + k.toNat by omega] at eh
    rw [show (1 + k).toNat = 1 + k.toNat by omega, eh, show g 77 (1 + k.toNat) = gsl (hM 77) 0 (1 + k.toNat) from by
      have := sg (1 + k.toNat) (by omega)
      rw [← this]
      show g 77 _ = g 77 (0 + _)
      rw [Nat.zero_add]]
    have rp := (w2.2.2 k.toNat (by omega)).1
    have rq := sA_pos (j := k.toNat) (by omega)
    refine call_here R (by omega) r2 r1 a2 a3 (by omega) b2 b3 ⟨gup_V w1 (by omega), Vd_set w2 c, ?_⟩ ?_ (fun j k j1 j2 hk => ?_) (fun k hk => ?_) (fun k hk => ?_) (fun a p1 p2 => ?_) (fun k hk => ?_)
    · rw [gup_far (by omega)]
      exact w3
    · rw [mst_row (by omega), g2]
    · exact (mst_hi (by omega)).trans (g3 j k j1 j2 hk)
    · exact (mst_hi (by omega)).trans (g4 k hk)
    · show mst 0 g _ 77 (0 + k) = _
      rw [mst_in hk]
      exact ag_gup sg k hk
    · rw [mst_row p1]
      exact g6 a p1 p2
    · rw [mst_row (by omega)]
      exact g7 k hk
  · rw [if_neg c, if_neg (by decide), c_set_bad hL1 c, bd_s]
    exact call_no R (by omega) r2 r1 a3 (by omega)
theorem k_undo {N : Int} {hC hM : Hp} (R : Rel N hC hM) : Call N N hC hM (f_X4_undo hC) (f_X5_undo hM) := by
  have R' := R
  obtain ⟨n, r1, r2, r3, r4, r5, r6, r7, r8⟩ := R'
  unfold f_X4_undo f_X5_undo
  rw [r2, r3]
  by_cases c : n = 0
  · rw [if_pos (by omega), if_neg (by omega)]
    exact ⟨_, _, _, rfl, rfl, R, fun a ha => rfl, fun a ha => rfl⟩
  · obtain ⟨m, rfl⟩ : ∃ m, n = m + 1 := ⟨n - 1, by omega⟩
    have io := r4.1 m (by omega)
    rw [if_neg (by omega), if_pos (by omega), if_pos (by omega)]
    unfold lt
    dsimp only
    rw [wr_id (by omega) (by omega), hup_same, show ((m + 1 : Nat) : Int) - 1 = (m : Int) by omega]
    obtain ⟨q1, q2⟩ := r7 (m + 1) (by omega) (by omega)
    rw [show m + 1 - 1 = m by omega] at q1
    rw [if_pos (by
      have := okA_ref (h := hup hC 0 4 (m : Int)) (x := (m : Int)) (by rw [row_hup (by omega)]; exact r4) (by omega) (by omega)
      exact this), row_hup (by omega)]
    have q3 : SR (hup hC 0 4 (m : Int)) (hC 27 m).toNat (gsl (hM 77) (190 * (m + 1))) := q1.rows (fun a p1 p2 => row_hup (by omega))
    obtain ⟨h', b1, b2, b3⟩ := c_become (d := 1) q3 q2.1 (by unfold IO at io; omega)
    rw [show ((m : Int)).toNat = m by omega, b1, bd_s]
    obtain ⟨g, g1, g2, g3, g4⟩ := m_copies (f := m + 1) (t := 0) (h := hM) (by omega) (by omega) (by omega)
    rw [show (0 : Int) = ((0 : Nat) : Int) from rfl, g1, bd_s, show g 76 1 = ((m + 1 : Nat) : Int) by rw [g4 76 (by omega)]; exact r3, wr_id (by omega) (by omega), hup_same, show ((m + 1 : Nat) : Int) - 1 = (m : Int) by omega]
    have e04 : h' 0 4 = m := by
      rw [b3 0 (by omega), hup_same]
    have fr : ∀ a, 10 ≤ a → h' a = hC a := fun a ha => by
      rw [b3 a (by omega), row_hup (by omega)]
    rw [e04]
    refine ⟨_, _, _, rfl, rfl, ⟨m, by omega, e04, hup_same, ?_, ?_, ?_, ?_, ?_⟩, fun a ha => fr a (by omega), fun a ha => ?_⟩
    · rw [fr 27 (by omega)]; exact r4
    · rw [row_hup (by omega)]
      exact b2.ag q2.1 (fun k hk => g2 k hk)
    · rw [row_hup (by omega)]
      exact q2.ag (fun k hk => g2 k hk)
    · intro j j1 j2
      rw [row_hup (by omega), fr 27 (by omega)]
      obtain ⟨p1, p2⟩ := r7 j j1 (by omega)
      have ix := r4.1 (j - 1) (by omega)
      have e : ag (gsl (hM 77) (190 * j)) (gsl (g 77) (190 * j)) := fun k hk => g3 _ (by omega)
      exact ⟨(p1.rows (fun a _ _ => fr a (by unfold IO at ix; omega))).ag p2.1 e, p2.ag e⟩
    · unfold Tx at *
      rw [fr 28 (by omega), fr 29 (by omega), hup_far (by omega), row_hup (by omega), g4 76 (by omega), g4 78 (by omega)]
      exact r8
    · rw [row_hup (by omega), g4 a (by omega)]
end Calls4

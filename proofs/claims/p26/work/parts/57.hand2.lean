/-! the pure part: handing out: the model, and the call -/
section Hand2
theorem m_hd1_L {b x2 : Int} {U : Rw} {h0 : Hp} {c44 : Hp → Option (Int × Hp)} (hb : 0 ≤ b ∧ b ≤ 1140) (hU : ∀ j : Nat, j < 12 → h0 79 j = U j) : ∀ (m n u : Nat) (s : Rw), m < n → (u : Int) + m = s 15 → Vn s → hiR h0 b.toNat s →
    f_X5_handsOut_L6 b x2 c44 n (u : Int) (mst b.toNat h0 s) = c44 (mst b.toNat h0 (hdW U m u s)) ∧ hiR h0 b.toNat (hdW U m u s) := by
  intro m
  induction m with
  | zero =>
    intro n u s hn hi hV hh
    obtain ⟨n, rfl⟩ : ∃ n', n = n' + 1 := ⟨n - 1, by omega⟩
    rw [f_X5_handsOut_L6_s, wr_id (z := b + 15) (by omega) (by omega), if_pos (by unfold inb; omega), rd_mst hb.1 (by omega) hh, show Int.toNat 15 = 15 from rfl, if_pos (by omega)]
    exact ⟨rfl, hh⟩
  | succ m ih =>
    intro n u s hn hi hV hh
    obtain ⟨n, rfl⟩ : ∃ n', n = n' + 1 := ⟨n - 1, by omega⟩
    have v1 := hV.1
    have v3 := hV.2.2
    have iu : inb (u : Int) 12 := by unfold inb; omega
    rw [f_X5_handsOut_L6_s, wr_id (z := b + 15) (by omega) (by omega), if_pos (by unfold inb; omega), rd_mst hb.1 (by omega) hh, show Int.toNat 15 = 15 from rfl, if_neg (by omega), if_pos iu, mst_row (by omega), show ((u : Int)).toNat = u by omega, hU u (by omega), wr_id (z := (u : Int) + 1) (by omega) (by omega), hdW_s, show (u : Int) + 1 = ((u + 1 : Nat) : Int) by omega]
    by_cases c : U u = -1
    · rw [if_pos c, if_pos c]
      exact ih n (u + 1) s (by omega) (by omega) hV hh
    · have sl : gsl (mst b.toNat h0 s 77) b.toNat = s := mst_sl hh
      rw [if_neg c, if_neg c, p_uAt hb.1 hb.2 (by omega) (by omega), bd_s, wr_id (z := b + 18 + 5 * (u : Int) + 4) (by omega) (by omega), if_pos (by unfold inb; omega)]
      unfold lv
      dsimp only
      rw [wr_id (z := b + 5) (by omega) (by omega), if_pos (by unfold inb; omega), show b + 18 + 5 * (u : Int) + 4 = b + (18 + 5 * (u : Int) + 4) by omega, rd_mst hb.1 (by omega) hh, rd_mst hb.1 (by omega) hh, show Int.toNat 5 = 5 from rfl, show (18 + 5 * (u : Int) + 4).toNat = 18 + 5 * u + 4 by omega, p_wri hb (by rw [sl]; omega) (by rw [sl]; omega), bd_s, sl, mst_mst]
      exact ih n (u + 1) _ (by omega) (by rw [wri_lo v3.1 (by decide) (by decide) (by decide)]; omega) (wri_V hV) (hi_wri hh (by omega))
theorem m_hd2_L {b x2 : Int} {U C : Rw} {h0 : Hp} {c70 : Hp → Option (Int × Hp)} (hb : 0 ≤ b ∧ b ≤ 1140) (hU : ∀ j : Nat, j < 12 → h0 79 j = U j ∧ h0 80 j = C j) : ∀ (k n : Nat) (s : Rw), k < n → k ≤ 12 → Vn s → hiR h0 b.toNat s → (∀ j, j < k → U j ≠ -1 → (j : Int) < s 15) → (∀ j, j < k → C j ≠ -1 → (j : Int) < s 16) →
    f_X5_handsOut_L46 b x2 c70 n ((k : Int) - 1) (mst b.toNat h0 s) = c70 (mst b.toNat h0 (gB U C k s)) ∧ hiR h0 b.toNat (gB U C k s) := by
  intro k
  induction k with
  | zero =>
    intro n s hn hk hV hh qU qC
    obtain ⟨n, rfl⟩ : ∃ n', n = n' + 1 := ⟨n - 1, by omega⟩
    rw [f_X5_handsOut_L46_s, if_pos (by omega)]
    exact ⟨rfl, hh⟩
  | succ k ih =>
    intro n s hn hk hV hh qU qC
    obtain ⟨n, rfl⟩ : ∃ n', n = n' + 1 := ⟨n - 1, by omega⟩
    have v1 := hV.1
    have v2 := hV.2.1
    have ik : inb (k : Int) 12 := by unfold inb; omega
    have two : ∀ s1, Vn s1 → hiR h0 b.toNat s1 → (∀ j, j < k → U j ≠ -1 → (j : Int) < s1 15) → (∀ j, j < k + 1 → C j ≠ -1 → (j : Int) < s1 16) →
        f_X5_handsOut_J58 (f_X5_handsOut_L46 b x2 c70 n) b x2 (k : Int) (mst b.toNat h0 s1) = c70 (mst b.toNat h0 (gB U C k (if C k = -1 then s1 else cgo s1 k))) ∧ hiR h0 b.toNat (gB U C k (if C k = -1 then s1 else cgo s1 k)) := by
      intro s1 V1 H1 Q1 Q2
      have w1 := V1.1
      have w2 := V1.2.1
      unfold f_X5_handsOut_J58
      rw [if_pos ik, mst_row (by omega), show ((k : Int)).toNat = k by omega, (hU k (by omega)).2, wr_id (z := (k : Int) + -1) (by omega) (by omega), show (k : Int) + -1 = (k : Int) - 1 by omega]
      by_cases c : C k = -1
      · rw [if_pos c, if_pos c]
        exact ih n s1 (by omega) (by omega) V1 H1 Q1 (fun j hj => Q2 j (by omega))
      · have qk := Q2 k (by omega) c
        have sl : gsl (mst b.toNat h0 s1 77) b.toNat = s1 := mst_sl H1
        rw [if_neg c, if_neg c, p_cgo2 hb (by omega) (by rw [sl]; exact qk) (by rw [sl]; omega), bd_s, sl, mst_mst, show ((k : Int)).toNat = k by omega]
        exact ih n (cgo s1 k) (by omega) (by omega) (cgo_V V1 (by omega)) (hi_cgo H1 (by omega)) (fun j hj q => by rw [cgo_far w2.2 (by decide) (by decide)]; exact Q1 j hj q) (fun j hj q => by rw [c16]; omega)
    rw [f_X5_handsOut_L46_s, if_neg (by omega), show ((k + 1 : Nat) : Int) - 1 = (k : Int) by omega, if_pos ik, mst_row (by omega), show ((k : Int)).toNat = k by omega, (hU k (by omega)).1, gB_s]
    by_cases c : U k = -1
    · rw [if_pos c, if_pos c]
      exact two s hV hh (fun j hj => qU j (by omega)) qC
    · have qk := qU k (by omega) c
      have sl : gsl (mst b.toNat h0 s 77) b.toNat = s := mst_sl hh
      rw [if_neg c, if_neg c, p_ugo2 hb (by omega) (by rw [sl]; exact qk) (by rw [sl]; omega), bd_s, sl, mst_mst, show ((k : Int)).toNat = k by omega]
      exact two (ugo s k) (ugo_V hV (by omega)) (hi_ugo hh (by omega)) (fun j hj q => by rw [u15]; omega) (fun j hj q => by rw [ugo_far v1.2 (by decide) (by decide)]; exact qC j hj q)
theorem m_hand {b N : Int} {s : Rw} {h : Hp} (hb : 0 ≤ b ∧ b ≤ 1140) (hV : Vn s) (hD : Vd N s) (hN : N ≤ 1000000) (eg : gsl (h 77) b.toNat = s) :
    ∃ h1, f_X5_handsOut b h = some ((mtA s).2.2, mst b.toNat h1 (hdF s)) ∧ FrX h h1 ∧ hiR h1 b.toNat (hdF s) := by
  have := fu_gt
  have v1 := hV.1
  obtain ⟨q1, q2⟩ := mt_cut (s := s)
  obtain ⟨h1, b1, b2, b3, b4, b5⟩ := m_matches hb hV hD hN eg
  have g1 : gsl (h1 77) b.toNat = s := b5.g.trans eg
  have me : h1 = mst b.toNat h1 s := by rw [← g1, mst_self]
  have hh : hiR h1 b.toNat s := by rw [← g1]; exact hi_sl h1 _
  obtain ⟨w1, w2, w3⟩ := hdW_V (U := (mtA s).1) (s 15).toNat 0 s hV hD
  obtain ⟨y1, y2, y3⟩ := gU_V (U := (mtA s).1) 12 _ w1 w2 (fun j _ q => by rw [w3 15 (by omega) (by omega) (by omega)]; exact q1 j q)
  obtain ⟨z1, z2, z3⟩ := gC_V (C := (mtA s).2.1) 12 _ y1 y2 (fun j _ q => by rw [y3 16 (Or.inr rfl), w3 16 (by omega) (by omega) (by omega)]; exact q2 j q)
  have e10 : gB (mtA s).1 (mtA s).2.1 12 (hdW (mtA s).1 (s 15).toNat 0 s) 10 = s 10 := by
    rw [gB_is 12 _ w1.1.2 w1.2.1.2, z3 10 (by omega), y3 10 (by omega), w3 10 (by omega) (by omega) (by omega)]
  have fin : inb (wr (b + 10)) 1330 := by rw [wr_id (by omega) (by omega)]; unfold inb; omega
  obtain ⟨k1, k2⟩ := m_hd1_L (x2 := (mtA s).2.2) (c44 := fun h5 => (f_X5_handsOut_L46 b (mtA s).2.2 (fun h8 => if inb (wr (b + 10)) 1330 then if inb (wr (b + 10)) 1330 then lt (hup h8 77 (Int.toNat (wr (b + 10))) (wr ((h8 77 (Int.toNat (wr (b + 10)))) + (mtA s).2.2))) fun h9 => some ((mtA s).2.2, h9) else none else none) fu 11 h5)) hb (fun j hj => (b2 j hj).1) (s 15).toNat fu 0 s (by omega) (by omega) hV hh
  obtain ⟨d1, d2⟩ := m_hd2_L (x2 := (mtA s).2.2) (c70 := fun h8 => if inb (wr (b + 10)) 1330 then if inb (wr (b + 10)) 1330 then lt (hup h8 77 (Int.toNat (wr (b + 10))) (wr ((h8 77 (Int.toNat (wr (b + 10)))) + (mtA s).2.2))) fun h9 => some ((mtA s).2.2, h9) else none else none) hb b2 12 fu _ (by omega) (by omega) w1 k2 (fun j _ q => by rw [w3 15 (by omega) (by omega) (by omega)]; exact q1 j q) (fun j _ q => by rw [w3 16 (by omega) (by omega) (by omega)]; exact q2 j q)
  rw [show ((0 : Nat) : Int) = 0 from rfl, ← me] at k1
  rw [show ((12 : Nat) : Int) - 1 = 11 from rfl] at d1
  refine ⟨h1, ?_, b5, ?_⟩
  · unfold f_X5_handsOut
    rw [b1, bd_s, k1, d1, if_pos fin, if_pos fin]
    unfold lt
    dsimp only
    rw [wr_id (z := b + 10) (by omega) (by omega), rd_mst hb.1 (by omega) d2, hup_m2 hb.1 (by omega) (by omega) d2, show Int.toNat 10 = 10 from rfl, e10]
    rfl
  · exact hi_gup d2 (by omega)
theorem call_way0 {N N' r : Int} {hC hM h1 h2 : Hp} {s : Rw} {n : Nat} {op : Int → Hp → Option (Int × Hp)} (R : Rel N hC hM) (hN : N ≤ N') (hn : hC 0 4 = n) (hh : n ≤ 4)
    (k1 : SR h1 (hC 27 n).toNat (gsl (hM 77) 0)) (f1 : FrO (hC 27 n).toNat hC h1)
    (e2 : (r < 0 ∧ h2 = h1 ∧ s = tr0 hM) ∨ (0 ≤ r ∧ SR h2 1 s ∧ FrO 1 h1 h2 ∧ Vg N' s))
    (e3 : op 950 (mst (Int.toNat 950) hM (tr0 hM)) = some (r, mst (Int.toNat 950) hM s)) :
    Call N N' hC hM (bd (f_X4_recorded r h2) fun r3 h3 => some (r3, h3)) (bd (f_X5_tried hM) fun r1 h1 => bd (op r1 h1) fun r2 h2 => bd (f_X5_done r2 h2) fun r3 h3 => some (r3, h3)) := by
  have R' := R
  obtain ⟨n', r1, r2, r3, r4, r5, r6, r7, r8⟩ := R'
  obtain rfl : n' = n := by omega
  have io := r4.1 n' (by omega)
  rw [m_tried, bd_s, e3, bd_s]
  have fr1 : FrC hC h1 := fun a ha => f1 a (by unfold IO at io; omega)
  rcases e2 with ⟨q1, rfl, rfl⟩ | ⟨q1, q2, q3, q4⟩
  · rw [c_rec_bad q1, m_done_bad q1, bd_s, bd_s]
    refine ⟨r, h2, _, rfl, rfl, ?_, fr1, fun a ha => mst_row (by omega)⟩
    obtain ⟨n9, z1, z2, z3, z4, z5, z6, z7, z8⟩ := rel_no R hn hh f1 (mst_row (by omega) : mst 950 hM (tr0 hM) 76 = hM 76) (fun k hk => mst_lo hk) (mst_row (by omega))
    exact ⟨n9, z1, z2, z3, z4, z5, z6.mono hN, fun j j1 j2 => ⟨(z7 j j1 j2).1, (z7 j j1 j2).2.mono hN⟩, z8⟩
  · have f27 : h2 27 = hC 27 := by rw [q3 27 (by omega), f1 27 (by unfold IO at io; omega)]
    have f04 : h2 0 4 = n' := by rw [q3 0 (by omega), f1 0 (by omega)]; exact r2
    obtain ⟨h3, a1, a2, a3, a4, a5⟩ := c_rec (h := h2) (n := n') q1 (by rw [f27]; exact r4) f04 (by omega) (by omega)
    obtain ⟨hM', b1, b2, b3, b4, b5, b6, b7⟩ := m_done (h := mst 950 hM s) (n := n') q1 (by rw [mst_row (by omega)]; exact r3) hh
    rw [a1, show mst (Int.toNat 950) hM s = mst 950 hM s from rfl, b1, bd_s, bd_s]
    refine ⟨r, h3, hM', rfl, rfl, ?_, fun a ha => ?_, fun a ha => ?_⟩
    · refine rel_yes R hN hn hh k1 f1 q2 q3 q4 a2 a3 a4 a5 b2 (fun j k j1 j2 hk => ?_) (fun k hk => ?_) (fun k hk => ?_) (fun a p1 p2 => ?_) (fun k hk => ?_)
      · rw [b3 j k j1 j2 hk]
        have : shn (n' : Int) ≤ 1 := by unfold shn; split <;> omega
        have : n' - shn (n' : Int) ≤ 3 := by unfold shn; split <;> omega
        exact mst_lo (by omega)
      · rw [b4 k hk]
        exact mst_lo (by omega)
      · rw [b5 k hk]
        exact mst_in hk
      · rw [b6 a p1 p2]
        exact mst_row p1
      · rw [b7 k hk, mst_row (by omega)]
    · rw [show h3 a = h2 a from funext fun k => a5 a k (by omega) (by omega), q3 a (by omega)]
      exact fr1 a ha
    · rw [b6 a (by omega) (by omega)]
      exact mst_row (by omega)
/-- a rest of cells that the class's matching writes -/
noncomputable def sc (h h2 : Hp) : Hp := fun a => if 19 ≤ a ∧ a < 27 then h2 a else h a
theorem k_hand {N : Int} {hC hM : Hp} (hN : N ≤ 1000000) (h10 : iR (hM 77 10)) (R : Rel N hC hM) : Call N N hC hM (f_X4_hand hC) (f_X5_hand hM) := by
  obtain ⟨n, n1, n2, ⟨h1, k1, k2, k3, k4, k5⟩, v1, v2⟩ := rel_v R
  obtain ⟨w1, w2, w3⟩ := v1
  have i10 : iR (tr0 hM 10) := by
    have e := ag_cut hM 950 (gsl (hM 77) 0) 10 (by omega)
    have e2 : gsl (hM 77) 0 10 = hM 77 10 := rfl
    rw [show tr0 hM 10 = hM 77 10 from e.trans e2]
    exact h10
  obtain ⟨hM2, a1, a2, a3⟩ := m_hand (b := 950) (s := tr0 hM) (h := mst (Int.toNat 950) hM (tr0 hM)) (by omega) w1 w2 hN (mst_sl v2)
  obtain ⟨h2, b1, b2, b3, b4⟩ := c_matchAll (o := 1) (by omega) w1 w2 hN k3
  obtain ⟨h3, d1, d2, d3⟩ := c_hand (o := 1) (by omega) w1 w2 (k3.scr b4 (by omega)) b2 i10
  obtain ⟨x1, x2, x3⟩ := hdF_V w1 w2
  have io : IO (hC 27 n) := by
    obtain ⟨n9, r1, r2, r3, r4, r5, r6, r7, r8⟩ := R
    exact r4.1 n (by omega)
  -- the model's heap, the trial set back
  have t1 : FrX hM (mst (Int.toNat 950) hM2 (gsl (hM 77) (Int.toNat 950))) := fun a q1 q2 q3 q4 => by
    by_cases c : a = 77
    · subst c
      funext k
      unfold mst
      rw [hrow_get]
      unfold gat
      rw [a2 77 (by omega) (by omega) (by omega) (by omega)]
      by_cases d : Int.toNat 950 ≤ k ∧ k < Int.toNat 950 + 190
      · rw [if_pos d]
        exact congrArg (hM 77) (show Int.toNat 950 + (k - Int.toNat 950) = k by omega)
      · rw [if_neg d]
        unfold mst
        rw [hrow_get]
        unfold gat
        rw [if_neg d]
    · rw [mst_row c, a2 a q1 q2 q3 q4, mst_row c]
  have RM : Rel N (sc hC h2) (mst (Int.toNat 950) hM2 (gsl (hM 77) (Int.toNat 950))) := rel_read R (fun a ha => by
    unfold sc
    rw [if_neg (by omega)]) t1.y
  have e0 : tr0 (mst (Int.toNat 950) hM2 (gsl (hM 77) (Int.toNat 950))) = tr0 hM := by
    show cut _ 950 (gsl _ 0) = cut hM 950 (gsl (hM 77) 0)
    unfold cut
    rw [t1 77 (by omega) (by omega) (by omega) (by omega)]
  have g0 : gsl (mst (Int.toNat 950) hM2 (gsl (hM 77) (Int.toNat 950)) 77) 0 = gsl (hM 77) 0 := t1.g
  have s27 : sc hC h2 27 = hC 27 := by
    unfold sc
    rw [if_neg (by omega)]
  have c4 : sc hC h2 0 4 = n := by
    unfold sc
    rw [if_neg (by omega)]
    exact n2
  have cw := call_way0 (r := (mtA (tr0 hM)).2.2) (h1 := h2) (h2 := h3) (s := hdF (tr0 hM)) (n := n) (op := fun _ _ => some ((mtA (tr0 hM)).2.2, mst (Int.toNat 950) (mst (Int.toNat 950) hM2 (gsl (hM 77) (Int.toNat 950))) (hdF (tr0 hM)))) RM (Int.le_refl N) c4 n1
    (by rw [g0, s27]; exact k2.scr b4 (by unfold IO at io; omega))
    (by
      rw [s27]
      intro a ha
      unfold sc
      by_cases c : 19 ≤ a ∧ a < 27
      · rw [if_pos c]
      · rw [if_neg c, b4 a (by omega), k4 a ha])
    (Or.inr ⟨by
      rw [show (mtA (tr0 hM)).2.2 = cU (mtA (tr0 hM)).1 from mtc_n w1 12 mt0 rfl]
      exact (cU_b _).1, d2, d3, x1, x2, by rw [x3]; exact w3⟩) rfl
  rw [mst_mst] at cw
  unfold f_X4_hand f_X5_hand
  rw [k1, bd_s, b1, bd_s, d1, bd_s, m_tried, bd_s, a1, bd_s]
  rw [m_tried, bd_s, bd_s] at cw
  obtain ⟨r, hC', hM', y1, y2, y3, y4, y5⟩ := cw
  refine ⟨r, hC', hM', y1, y2, y3, fun a ha => ?_, fun a ha => ?_⟩
  · rw [y4 a ha]
    unfold sc
    rw [if_neg (by omega)]
  · rw [y5 a ha]
    exact t1 a (by omega) (by omega) (by omega) (by omega)
end Hand2

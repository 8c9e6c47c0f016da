/-! the pure part: all orders of the text; fault, play, as calls -/
section Text1
def FrP (h h' : Hp) : Prop := (∀ a, 1 ≤ a → a < 11 → h' a = h a) ∧ h' 27 = h 27 ∧ h' 29 = h 29 ∧ (∀ a, 31 ≤ a → h' a = h a) ∧ h' 0 4 = h 0 4 ∧ h' 28 1 = h 28 1
def FrQ (g g' : Hp) : Prop := (∀ a, a < 76 → g' a = g a) ∧ g' 78 = g 78 ∧ g' 76 1 = g 76 1 ∧ g' 76 3 = g 76 3 ∧ ∀ k, k < 1140 → g' 77 k = g 77 k
theorem FrP.rf {h : Hp} : FrP h h := ⟨fun _ _ _ => rfl, rfl, rfl, fun _ _ => rfl, rfl, rfl⟩
theorem FrQ.rf {h : Hp} : FrQ h h := ⟨fun _ _ => rfl, rfl, rfl, rfl, fun _ _ => rfl⟩
theorem FrP.tr {h h1 h2 : Hp} (a : FrP h h1) (b : FrP h1 h2) : FrP h h2 := by
  obtain ⟨a1, a2, a3, a4, a5, a6⟩ := a
  obtain ⟨b1, b2, b3, b4, b5, b6⟩ := b
  exact ⟨fun x x1 x2 => (b1 x x1 x2).trans (a1 x x1 x2), b2.trans a2, b3.trans a3, fun x x1 => (b4 x x1).trans (a4 x x1), b5.trans a5, b6.trans a6⟩
theorem FrQ.tr {h h1 h2 : Hp} (a : FrQ h h1) (b : FrQ h1 h2) : FrQ h h2 := by
  obtain ⟨a1, a2, a3, a4, a5⟩ := a
  obtain ⟨b1, b2, b3, b4, b5⟩ := b
  exact ⟨fun x x1 => (b1 x x1).trans (a1 x x1), b2.trans a2, b3.trans a3, b4.trans a4, fun x x1 => (b5 x x1).trans (a5 x x1)⟩
theorem FrT.p {h h' : Hp} (f : FrT h h') : FrP h h' := ⟨fun a _ a2 => f a (by omega), f 27 (by omega), f 29 (by omega), fun a a1 => f a (by omega), by rw [f 0 (by omega)], by rw [f 28 (by omega)]⟩
theorem FrZ.q {g g' : Hp} (f : FrZ g g') : FrQ g g' := ⟨fun a a1 => f.1 a (by omega) (by omega) (by omega) (by omega) (by omega), f.1 78 (by omega) (by omega) (by omega) (by omega) (by omega), by rw [f.1 76 (by omega) (by omega) (by omega) (by omega) (by omega)], by rw [f.1 76 (by omega) (by omega) (by omega) (by omega) (by omega)], f.2⟩
theorem FrP.tc {h : Hp} {k p : Int} {g : Rw} : FrP h (tc h k p g) := ⟨fun a a1 a2 => tc_row (by omega) (by omega), tc_row (by omega) (by omega), tc_row (by omega) (by omega), fun a a1 => tc_row (by omega) (by omega), by rw [tc_row (by omega) (by omega)], rfl⟩
theorem FrQ.tm {h : Hp} {c p : Int} {g : Rw} : FrQ h (tm h c p g) := ⟨fun a a1 => tm_row (by omega) (by omega), tm_row (by omega) (by omega), rfl, rfl, fun k _ => by rw [tm_row (by omega) (by omega)]⟩
theorem FrP.up {h : Hp} {k : Nat} {x : Int} (hk : k = 6 ∨ k = 7 ∨ k = 8 ∨ k = 9) : FrP h (hup h 0 k x) := ⟨fun a a1 a2 => row_hup (by omega), row_hup (by omega), row_hup (by omega), fun a a1 => row_hup (by omega), hup_far (by omega), hup_far (by omega)⟩
theorem FrQ.up {h : Hp} {k : Nat} {x : Int} (hk : k = 8 ∨ k = 11 ∨ k = 12 ∨ k = 13) : FrQ h (hup h 76 k x) := ⟨fun a a1 => row_hup (by omega), row_hup (by omega), hup_far (by omega), hup_far (by omega), fun j _ => hup_far (by omega)⟩
theorem Tx.fr {h h' g g' : Hp} (t : Tx h g) (a : FrP h h') (b : FrQ g g') : Tx h' g' := by
  unfold Tx at *
  rw [a.2.2.2.2.2, a.2.2.1, b.2.2.2.1, b.2.1]
  exact t
theorem Ok1.fr {N M : Int} {h h' g g' : Hp} (o : Ok1 N h g) (hN : N ≤ M) (e : ∀ a, 11 ≤ a → a ≤ 18 → h' a = h a) (f : g' 77 = g 77) : Ok1 M h' g' := by
  unfold Ok1 Tg at *
  rw [f]
  exact ⟨o.1.rows (fun a a1 a2 => e a (by omega) (by omega)), o.2.1.mono hN, o.2.2⟩
def Res (N : Int) (h' g' : Hp) (q' : Int) : Prop := (h' 0 7 = -1 ∧ g' 76 12 = 0 ∧ h' 0 6 = q' ∧ Ok1 N h' g') ∨ (h' 0 7 ≠ -1 ∧ 0 < g' 76 12 ∧ h' 0 7 = g' 76 11 ∧ h' 0 8 = g' 76 12 ∧ h' 0 9 = g' 76 13)
theorem c_tellF {p x y : Int} {h : Hp} : f_X4_tellFault p x y h = some (0, hup (hup (hup h 0 7 p) 0 8 x) 0 9 y) := rfl
theorem m_J44 {x1 x2 x3 x4 s1 : Int} {c12 : Int → Hp → Option (Int × Hp)} {g : Hp} : f_X5_looks_J44 c12 x1 x2 x3 x4 s1 g = c12 (if s1 = 0 then wr (x1 + 1) else wr (x1 + 0)) (hup (hup (hup g 76 12 s1) 76 11 x2) 76 13 (if x3 = 0 then wr (g 76 8 - x2) else x4)) := by
  unfold f_X5_looks_J44 f_X5_looks_J57 lt lv
  dsimp only
  rw [hup_far (i := 76) (a := 76) (b := 8) (k := 11) (by omega), hup_far (i := 76) (a := 76) (b := 8) (k := 12) (by omega)]
  by_cases c : x3 = 0
  · rw [if_pos c, if_pos c, hup_far (i := 76) (a := 76) (b := 12) (k := 13) (by omega), hup_far (i := 76) (a := 76) (b := 12) (k := 11) (by omega), hup_same]
    by_cases d : s1 = 0
    · rw [if_neg (by omega), if_pos d]
    · rw [if_pos d, if_neg d]
  · rw [if_neg c, if_neg c, hup_far (i := 76) (a := 76) (b := 12) (k := 13) (by omega), hup_far (i := 76) (a := 76) (b := 12) (k := 11) (by omega), hup_same]
    by_cases d : s1 = 0
    · rw [if_neg (by omega), if_pos d]
    · rw [if_pos d, if_neg d]
noncomputable def cF27 : Int → Hp → Option (Int × Hp) := fun y9 h10 => bd (f_X4_tellFault y9 1 (wr ((h10 28 2) - y9)) h10) fun _ h11 => some (0, h11)
theorem l_loop {N0 : Int} (hN : 0 ≤ N0 ∧ N0 ≤ 900000) : ∀ (m n n' : Nat) (h g : Hp) (p q : Int), Tx h g → Ok1 (N0 + p) h g → h 0 6 = q → 0 ≤ q → q ≤ p → h 0 7 = -1 → g 76 12 = 0 → g 76 8 = p → p ≤ g 76 3 → g 76 3 ≤ p + m → m < n → m + 1 < n' →
    ∃ h' g' q', f_X4_tryText_L13 cF27 n p h = some (0, h') ∧ f_X5_looks_L12 n' q g = some (q', g') ∧ FrP h h' ∧ FrQ g g' ∧ 0 ≤ q' ∧ Res (N0 + 60) h' g' q' := by
  intro m
  induction m with
  | zero =>
    intro n n' h g p q t o e6 q0 qp e7 e12 e8 p1 pm hn hn'
    obtain ⟨n, rfl⟩ : ∃ n0, n = n0 + 1 := ⟨n - 1, by omega⟩
    obtain ⟨n', rfl⟩ : ∃ n0, n' = n0 + 1 := ⟨n' - 1, by omega⟩
    have l60 := t.2.2.1
    rw [f_X4_tryText_L13_s, f_X5_looks_L12_s, t.1, e8, e12, if_pos (by omega), if_neg (by omega), if_pos (by omega)]
    exact ⟨h, g, q, rfl, rfl, FrP.rf, FrQ.rf, q0, Or.inl ⟨e7, e12, e6, o.fr (by omega) (fun _ _ _ => rfl) rfl⟩⟩
  | succ m ih =>
    intro n n' h g p q t o e6 q0 qp e7 e12 e8 p1 pm hn hn'
    obtain ⟨n, rfl⟩ : ∃ n0, n = n0 + 1 := ⟨n - 1, by omega⟩
    obtain ⟨n', rfl⟩ : ∃ n0, n' = n0 + 1 := ⟨n' - 1, by omega⟩
    have l60 := t.2.2.1
    rw [f_X4_tryText_L13_s, f_X5_looks_L12_s, t.1, e8, e12, e6]
    by_cases pl : g 76 3 ≤ p
    · rw [if_pos pl, if_neg (by omega), if_pos pl]
      exact ⟨h, g, q, rfl, rfl, FrP.rf, FrQ.rf, q0, Or.inl ⟨e7, e12, e6, o.fr (by omega) (fun _ _ _ => rfl) rfl⟩⟩
    obtain ⟨ok, p', k, c, G, G', a1, a2, r1, r2, r3, r4⟩ := l_order (k0 := h 28 3) (q0 := h 28 2) (c0 := g 76 9) (g := h 30) (g' := g 83) t (by omega) p1
    have gs : tm g (g 76 9) p (g 83) = g := by
      rw [← e8]
      exact tm_self g
    rw [tc_self] at a1
    rw [gs] at a2
    rw [if_neg pl, if_neg (by omega), if_neg (by omega), if_neg pl]
    unfold lv
    dsimp only
    rw [a1, a2, bd_s, bd_s]
    rcases r3 with rfl | rfl
    · obtain ⟨n', rfl⟩ : ∃ n0, n' = n0 + 1 := ⟨n' - 1, by omega⟩
      rw [if_neg (by omega), if_pos rfl]
      unfold cF27 f_X5_looks_J33
      rw [if_neg (by omega), m_J44, c_tellF, bd_s, if_neg (show ¬ (1 : Int) = 0 by omega), if_pos rfl, wr_id (z := q + 0) (by omega) (by omega), f_X5_looks_L12_s, hup_far (i := 76) (a := 76) (b := 12) (k := 13) (by omega), hup_far (i := 76) (a := 76) (b := 12) (k := 11) (by omega), hup_same, if_pos (by omega), tc_28.1, tm_76.1]
      refine ⟨_, _, q + 0, rfl, rfl, ((FrP.tc.tr (FrP.up (by omega))).tr (FrP.up (by omega))).tr (FrP.up (by omega)), ((FrQ.tm.tr (FrQ.up (by omega))).tr (FrQ.up (by omega))).tr (FrQ.up (by omega)), by omega, Or.inr ⟨?_, ?_, ?_, ?_, ?_⟩⟩
      · rw [hup_far (by omega), hup_far (by omega), hup_same]
        omega
      · rw [hup_far (by omega), hup_far (by omega), hup_same]
        omega
      · rw [hup_far (by omega), hup_far (by omega), hup_same, hup_far (by omega), hup_same]
      · rw [hup_far (by omega), hup_same, hup_far (by omega), hup_far (by omega), hup_same]
      · rw [hup_same, hup_same]
    · obtain ⟨pp, kd⟩ := r4 rfl
      have o2 : Ok1 (N0 + p) (tc h k p' G) (tm g c p' G') := o.fr (Int.le_refl _) (fun a a1 a2 => tc_row (by omega) (by omega)) (tm_row (by omega) (by omega))
      obtain ⟨r, h', g', d1, d2, d3, d4, d5⟩ := l_do (by omega) o2 kd
      have h28 : h' 28 2 = p' := by
        rw [d3 28 (by omega)]
        exact tc_28.1
      have h06 : h' 0 6 = q := by
        rw [d3 0 (by omega), tc_row (by omega) (by omega)]
        exact e6
      have h07 : h' 0 7 = -1 := by
        rw [d3 0 (by omega), tc_row (by omega) (by omega)]
        exact e7
      have g76 : g' 76 = tm g c p' G' 76 := d4.1 76 (by omega) (by omega) (by omega) (by omega) (by omega)
      have g8 : g' 76 8 = p' := by
        rw [g76]
        exact tm_76.1
      have g3 : g' 76 3 = g 76 3 := by
        rw [g76]
        exact tm_76.2.2
      have fp : FrP h h' := FrP.tc.tr d3.p
      have fq : FrQ g g' := FrQ.tm.tr d4.q
      rw [if_pos (by omega), if_neg (by omega), d1, d2, bd_s, bd_s]
      unfold f_X5_looks_J33
      rw [if_pos (show ¬ (1 : Int) = 0 by omega)]
      by_cases rr : 0 ≤ r
      · rw [if_pos rr, if_pos rr, m_J44, if_pos rfl, if_neg (by omega), h06, wr_id (z := q + 1) (by omega) (by omega)]
        unfold lt
        dsimp only
        rw [hup_far (i := 0) (a := 28) (by omega), h28]
        obtain ⟨h9, g9, q9, y1, y2, y3, y4, y5, y6⟩ := ih n n' (hup h' 0 6 (q + 1)) (hup (hup (hup g' 76 12 0) 76 11 p) 76 13 r) p' (q + 1) ((t.fr fp fq).fr (FrP.up (by omega)) (((FrQ.up (by omega)).tr (FrQ.up (by omega))).tr (FrQ.up (by omega))))
          ((d5 rr).fr (by omega) (fun a _ _ => row_hup (by omega)) (by rw [row_hup (by omega), row_hup (by omega), row_hup (by omega)])) hup_same (by omega) (by omega) (by rw [hup_far (by omega)]; exact h07) (by rw [hup_far (by omega), hup_far (by omega), hup_same]) (by rw [hup_far (by omega), hup_far (by omega), hup_far (by omega)]; exact g8) (by rw [hup_far (by omega), hup_far (by omega), hup_far (by omega), g3]; exact r2) (by rw [hup_far (by omega), hup_far (by omega), hup_far (by omega), g3]; omega) (by omega) (by omega)
        exact ⟨h9, g9, q9, y1, y2, (fp.tr (FrP.up (by omega))).tr y3, (fq.tr (((FrQ.up (by omega)).tr (FrQ.up (by omega))).tr (FrQ.up (by omega)))).tr y4, y5, y6⟩
      · obtain ⟨n', rfl⟩ : ∃ n0, n' = n0 + 1 := ⟨n' - 1, by omega⟩
        rw [if_neg rr, if_neg rr, m_J44, c_tellF, bd_s, if_neg (show ¬ (2 : Int) = 0 by omega), if_neg (show ¬ (1 : Int) = 0 by omega), wr_id (z := q + 0) (by omega) (by omega), f_X5_looks_L12_s, hup_far (i := 76) (a := 76) (b := 12) (k := 13) (by omega), hup_far (i := 76) (a := 76) (b := 12) (k := 11) (by omega), hup_same, if_pos (by omega)]
        refine ⟨_, _, q + 0, rfl, rfl, ((fp.tr (FrP.up (by omega))).tr (FrP.up (by omega))).tr (FrP.up (by omega)), ((fq.tr (FrQ.up (by omega))).tr (FrQ.up (by omega))).tr (FrQ.up (by omega)), by omega, Or.inr ⟨?_, ?_, ?_, ?_, ?_⟩⟩
        · rw [hup_far (by omega), hup_far (by omega), hup_same]
          omega
        · rw [hup_far (by omega), hup_far (by omega), hup_same]
          omega
        · rw [hup_far (by omega), hup_far (by omega), hup_same, hup_far (by omega), hup_same]
        · rw [hup_far (by omega), hup_same, hup_far (by omega), hup_far (by omega), hup_same]
        · rw [hup_same, hup_same]
theorem rel_text {N : Int} {hC hC' hM hM' : Hp} (R : Rel N hC hM) (f : FrP hC hC') (g : FrQ hM hM') : Rel N hC' hM' := by
  obtain ⟨n, r1, r2, r3, r4, r5, r6, r7, r8⟩ := R
  have t := r8.fr f g
  obtain ⟨f1, f2, f3, f4, f5, f6⟩ := f
  obtain ⟨g1, g2, g3, g4, g5⟩ := g
  have sg : ∀ j, j ≤ 4 → ag (gsl (hM 77) (190 * j)) (gsl (hM' 77) (190 * j)) := fun j hj k hk => g5 _ (by omega)
  refine ⟨n, r1, ?_, ?_, ?_, ?_, ?_, ?_, t⟩
  · rw [f5]; exact r2
  · rw [g3]; exact r3
  · rw [f2]; exact r4
  · exact (r5.ag r6.1 (sg 0 (by omega))).rows (fun a _ _ => f1 a (by omega) (by omega))
  · exact r6.ag (sg 0 (by omega))
  · intro j j1 j2
    have io := r4.1 (j - 1) (by omega)
    rw [f2]
    obtain ⟨q1, q2⟩ := r7 j j1 j2
    exact ⟨(q1.ag q2.1 (sg j (by omega))).rows (fun a _ _ => f4 a (by unfold IO at io; omega)), q2.ag (sg j (by omega))⟩
theorem l_text {N : Int} {hC hM : Hp} (hN : 0 ≤ N ∧ N ≤ 900000) (h10 : iR (hM 77 10)) (R : Rel N hC hM) :
    ∃ h' g' q', f_X4_tryText hC = some (0, h') ∧ f_X5_looks hM = some (q', g') ∧ FrP hC h' ∧ FrQ hM g' ∧ 0 ≤ q' ∧ Res (N + 60) h' g' q' := by
  have := fu_gt
  obtain ⟨sr, vg⟩ := rel_0 R
  have tx : Tx hC hM := by
    obtain ⟨n, r1, r2, r3, r4, r5, r6, r7, r8⟩ := R
    exact r8
  obtain ⟨h1, a1, a2, a3⟩ := c_become (d := 10) sr vg.1 (by omega)
  have cp := p_copies (f := 0) (t := 6) (h := hM) (by omega) (by omega) (by omega)
  have cp2 : f_X5_copies 0 6 hM = some (0, mst (Int.toNat 1140) hM (gsl (hM 77) (Int.toNat 0))) := cp
  have fq1 : FrQ hM (mst (Int.toNat 1140) hM (gsl (hM 77) (Int.toNat 0))) := (FrZ.mst FrX.rf).q
  have i10 : iR (gsl (hM 77) (Int.toNat 0) 10) := h10
  have ok : Ok1 N h1 (mst (Int.toNat 1140) hM (gsl (hM 77) (Int.toNat 0))) := Ok1.mk a2 vg i10
  have fp1 : FrP hC h1 := a3.t.p
  have l0 := tx.2.1
  have l60 := tx.2.2.1
  obtain ⟨h', g', q', y1, y2, y3, y4, y5, y6⟩ := l_loop (N0 := N) hN 60 fu fu (hup (hup h1 0 6 0) 0 7 (-1)) (hup (hup (mst (Int.toNat 1140) hM (gsl (hM 77) (Int.toNat 0))) 76 8 0) 76 12 0) 0 0
    (((tx.fr fp1 fq1).fr (FrP.up (by omega)) (FrQ.up (by omega))).fr (FrP.up (by omega)) (FrQ.up (by omega)))
    (ok.fr (by omega) (fun a _ _ => by rw [row_hup (by omega), row_hup (by omega)]) (by rw [row_hup (by omega), row_hup (by omega)]))
    (by rw [hup_far (by omega), hup_same]) (by omega) (by omega) hup_same hup_same (by rw [hup_far (by omega), hup_same]) (by rw [hup_far (by omega), hup_far (by omega), mst_row (by omega)]; omega) (by rw [hup_far (by omega), hup_far (by omega), mst_row (by omega)]; omega) (by omega) (by omega)
  refine ⟨h', g', q', ?_, ?_, ((fp1.tr (FrP.up (by omega))).tr (FrP.up (by omega))).tr y3, ((fq1.tr (FrQ.up (by omega))).tr (FrQ.up (by omega))).tr y4, y5, y6⟩
  · unfold f_X4_tryText lt
    rw [a1, bd_s]
    exact y1
  · unfold f_X5_looks lt
    rw [cp2, bd_s]
    exact y2
theorem k_fault {N x : Int} {hC hM : Hp} (hN : 0 ≤ N ∧ N ≤ 900000) (h10 : iR (hM 77 10)) (R : Rel N hC hM) : Call N N hC hM (f_X4_fault x hC) (f_X5_fault x hM) := by
  by_cases p : 0 ≤ x ∧ x ≤ 2
  · obtain ⟨h', g', q', y1, y2, y3, y4, y5, y6⟩ := l_text hN h10 R
    have go : ∀ r, Call N N hC hM (some (r, h')) (some (r, g')) := fun r => ⟨r, h', g', rfl, rfl, rel_text R y3 y4, fun a ha => y3.2.2.2.1 a (by omega), y4.1⟩
    unfold f_X4_fault f_X5_fault
    rw [if_neg (show ¬ x < 0 by omega), if_pos (show x ≤ 2 by omega), p_in, bd_s, if_pos p, if_pos (show ¬ (1 : Int) = 0 by omega), y1, bd_s, y2, bd_s]
    rcases y6 with ⟨z1, z2, z3, z4⟩ | ⟨z1, z2, z3, z4, z5⟩
    · rw [if_neg (by omega), if_neg (by omega)]
      exact go _
    · rw [if_pos z1, if_pos (show ¬ g' 76 12 = 0 by omega), z3, z4, z5]
      by_cases c0 : x = 0
      · rw [if_neg (by omega), if_neg (by omega)]
        exact go _
      · rw [if_pos c0, if_pos c0]
        by_cases c1 : x = 1
        · rw [if_neg (by omega), if_neg (by omega)]
          exact go _
        · rw [if_pos c1, if_pos c1]
          exact go _
  · refine call_read R (r := -1000001) (hC' := hC) (hM' := hM) ?_ FrT.rf FrT.rf.c ?_ FrY.rf
    · unfold f_X4_fault
      by_cases c : x < 0
      · rw [if_pos c]
      · rw [if_neg c, if_neg (by omega)]
    · unfold f_X5_fault
      rw [p_in, bd_s, if_neg p, if_neg (by omega)]
theorem k_play {N : Int} {hC hM : Hp} (hN : 0 ≤ N ∧ N ≤ 900000) (h10 : iR (hM 77 10)) (R : Rel N hC hM) : Call N (N + 60) hC hM (f_X4_play hC) (f_X5_play hM) := by
  obtain ⟨h', g', q', y1, y2, y3, y4, y5, y6⟩ := l_text hN h10 R
  have R' := rel_text R y3 y4
  unfold f_X4_play f_X5_play
  rw [y1, bd_s, y2, bd_s]
  rcases y6 with ⟨z1, z2, z3, z4⟩ | ⟨z1, z2, z3, z4, z5⟩
  · rw [if_pos z1, if_pos (by omega)]
    have R2 := R'
    obtain ⟨n, r1, r2, r3, r4, r5, r6, r7, r8⟩ := R2
    have io := r4.1 n (by omega)
    obtain ⟨h2, a1, a2, a3⟩ := c_keep r5 r6.1 r4 r2 (by omega) (by omega)
    rw [show ((n : Int)).toNat = n by omega] at a2 a3
    have o10 : SR h2 10 (Tg g') := z4.1.fr a3 (by unfold IO at io; omega)
    obtain ⟨h3, b1, b2, b3⟩ := c_become (d := 1) o10 z4.2.1.1 (by omega)
    have e6 : h3 0 6 = q' := by
      rw [b3 0 (by omega), a3 0 (by unfold IO at io; omega)]
      exact z3
    have f27 : h3 27 = h' 27 := by rw [b3 27 (by omega), a3 27 (by unfold IO at io; omega)]
    have f04 : h3 0 4 = n := by
      rw [b3 0 (by omega), a3 0 (by unfold IO at io; omega)]
      exact r2
    obtain ⟨h4, d1, d2, d3, d4, d5⟩ := c_rec (h := h3) (n := n) y5 (by rw [f27]; exact r4) f04 (by omega) (by omega)
    obtain ⟨g1, m1, m2, m3, m4, m5, m6, m7⟩ := m_records r3 r1
    obtain ⟨g2, c1, c2, c3, c4⟩ := m_copies (f := 6) (t := 0) (h := g1) (by omega) (by omega) (by omega)
    rw [show (((6 : Nat) : Int)) = 6 from rfl, show (((0 : Nat) : Int)) = 0 from rfl] at c1
    have sl : n - shn n ≤ 3 := by
      unfold shn
      split <;> omega
    rw [a1, bd_s, b1, bd_s, e6, d1, bd_s, m1, bd_s, c1, bd_s]
    refine ⟨q', h4, g2, rfl, rfl, ?_, fun a ha => ?_, fun a ha => ?_⟩
    · refine rel_yes R' (by omega) r2 r1 a2 a3 b2 b3 z4.2.1 d2 d3 d4 d5 ?_ (fun j k j1 j2 hk => ?_) (fun k hk => ?_) (fun k hk => ?_) (fun a q1 q2 => ?_) (fun k hk => ?_)
      · rw [c4 76 (by decide), m2]
      · show g2 77 _ = _
        rw [c3 _ (by omega)]
        exact m3 j k j1 j2 hk
      · show g2 77 _ = _
        rw [c3 _ (by omega)]
        exact m4 k hk
      · rw [c2 k hk]
        show g1 77 (190 * 6 + k) = g' 77 (Int.toNat 1140 + k)
        rw [m5 _ (by omega)]
        rfl
      · rw [c4 a q1, m6 a q1 q2]
      · rw [c4 76 (by decide), m7 k hk]
    · rw [show h4 a = h3 a from funext fun k => d5 a k (by omega) (by omega), b3 a (by omega), a3 a (by unfold IO at io; omega)]
      exact y3.2.2.2.1 a (by omega)
    · rw [c4 a (by omega), m6 a (by omega) (by omega)]
      exact y4.1 a ha
  · rw [if_neg z1, if_neg (by omega)]
    have up : Rel (N + 60) h' g' := by
      obtain ⟨n, r1, r2, r3, r4, r5, r6, r7, r8⟩ := R'
      exact ⟨n, r1, r2, r3, r4, r5, r6.mono (by omega), fun j j1 j2 => ⟨(r7 j j1 j2).1, (r7 j j1 j2).2.mono (by omega)⟩, r8⟩
    exact ⟨-1000002, h', g', rfl, rfl, up, fun a ha => y3.2.2.2.1 a (by omega), y4.1⟩
end Text1

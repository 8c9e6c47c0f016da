/-! the pure part: claims that ask: step by step -/
section Asking2
theorem part_I {s U C : Rw} {n n' : Int} {w : Nat} {d : Nat} (hI : MgI s (U, C, n)) (hJ : MgJ s (U, C, n)) (e : U w = d) : MgI s (gup U w (-1), gup C d (-1), n') ∧ MgJ s (gup U w (-1), gup C d (-1), n') := by
  have cw : C d = w := by
    rcases hI w with r | r
    · have r1 : U w = -1 := r
      omega
    · have := r.2.2.2.2
      have r2 : C (U w).toNat = w := this
      rw [e] at r2
      exact r2
  refine ⟨fun i => ?_, fun c => ?_⟩
  · by_cases q : i = w
    · exact Or.inl (gup_eq q)
    · show gup U w (-1) i = -1 ∨ (0 ≤ gup U w (-1) i ∧ gup U w (-1) i < s 16 ∧ (i : Int) < s 15 ∧ sut s i (gup U w (-1) i).toNat ∧ gup C d (-1) (gup U w (-1) i).toNat = i)
      rw [gup_far q]
      rcases hI i with r | r
      · exact Or.inl r
      · have r5 : C (U i).toNat = i := r.2.2.2.2
        refine Or.inr ⟨r.1, r.2.1, r.2.2.1, r.2.2.2.1, ?_⟩
        rw [gup_far (fun x => by rw [x, cw] at r5; omega)]
        exact r5
  · by_cases q : c = d
    · exact Or.inl (gup_eq q)
    · show gup C d (-1) c = -1 ∨ (0 ≤ gup C d (-1) c ∧ gup C d (-1) c < s 15 ∧ (c : Int) < s 16 ∧ gup U w (-1) (gup C d (-1) c).toNat = c)
      rw [gup_far q]
      rcases hJ c with r | r
      · exact Or.inl r
      · have r5 : U (C c).toNat = c := r.2.2.2
        refine Or.inr ⟨r.1, r.2.1, r.2.2.1, ?_⟩
        rw [gup_far (fun x => by rw [x, e] at r5; omega)]
        exact r5
theorem c_part {h : Hp} {q : MgQ} {w d : Nat} (m : MCq h q) (hw : w < 12) (hd : d < 12) (h0 : 0 ≤ q.2.2) (h1 : q.2.2 ≤ 1000) : ∃ h', f_X0_part (w : Int) (d : Int) h = some (0, h') ∧ MCq h' (gup q.1 w (-1), gup q.2.1 d (-1), q.2.2 - 1) ∧ FrJ h h' := by
  have iw : inb (w : Int) 12 := by unfold inb; omega
  have id : inb (d : Int) 12 := by unfold inb; omega
  unfold f_X0_part
  rw [if_neg (by omega), if_neg (by omega), if_neg (by omega), if_neg (by omega), if_pos iw, show ((w : Int)).toNat = w by omega, show ((d : Int)).toNat = d by omega]
  unfold lt
  dsimp only
  rw [if_pos id]
  have e9 : hup (hup h 25 w (-1)) 26 d (-1) 19 9 = q.2.2 := by
    rw [hup_far (i := 26) (by omega), hup_far (i := 25) (by omega)]
    exact m.2
  rw [e9, wr_id (by omega) (by omega)]
  refine ⟨_, rfl, ⟨fun i hi => ⟨?_, ?_⟩, ?_⟩, fun a b hab => ?_⟩
  · rw [hup_far (i := 19) (by omega), hup_far (i := 26) (by omega)]
    show _ = gup q.1 w _ i
    unfold gup
    by_cases c : i = w
    · rw [hup_eq ⟨rfl, c⟩, if_pos c]
    · rw [hup_far (by omega), if_neg c]
      exact (m.1 i hi).1
  · rw [hup_far (i := 19) (by omega)]
    show _ = gup q.2.1 d _ i
    unfold gup
    by_cases c : i = d
    · rw [hup_eq ⟨rfl, c⟩, if_pos c]
    · rw [hup_far (by omega), hup_far (by omega), if_neg c]
      exact (m.1 i hi).2
  · rw [hup_same]
  · rw [hup_far (i := 19) (by omega), hup_far (i := 26) (by omega), hup_far (i := 25) (by omega)]
theorem c_join2 {h : Hp} {q : MgQ} {w c : Nat} (m : MCq h q) (hw : w < 12) (hc : c < 12) (h0 : 0 ≤ q.2.2) (h1 : q.2.2 ≤ 1000) : ∃ h', f_X0_join (wr (Int.tdiv ((12 * w + c : Nat) : Int) 12)) (wr (((12 * w + c : Nat) : Int) - Int.tdiv ((12 * w + c : Nat) : Int) 12 * 12)) h = some (0, h') ∧ MCq h' (gup q.1 w (c : Int), gup q.2.1 c (w : Int), q.2.2 + 1) ∧ FrJ h h' := by
  obtain ⟨h', a1, a2, a3⟩ := c_join (k := 12 * w + c) m (by omega) h0 h1
  have d := dv (u := w) hc
  unfold stp at a2
  rw [d.1, d.2] at a2
  exact ⟨h', a1, a2, a3⟩
theorem AK.fr {s A : Rw} {h h' : Hp} (a : AK s A h) (f : FrJ h h') : AK s A h' := fun k hk sk => by
  rw [f 23 k (by omega)]
  exact a k hk sk
theorem WA_mark {s : Rw} {k : Nat} {x : Int} {h : Hp} (w : WA s h) : WA s (hup h 23 k x) := by
  obtain ⟨w7, w8, w⟩ := w
  refine ⟨by rw [hup_far (by omega)]; exact w7, by rw [hup_far (by omega)]; exact w8, fun a b ha hb q => ?_⟩
  rw [hup_far (by omega), hup_far (by omega), hup_far (by omega)]
  exact w a b ha hb q
theorem MCq_mark {q : MgQ} {k : Nat} {x : Int} {h : Hp} (m : MCq h q) : MCq (hup h 23 k x) q := by
  refine ⟨fun i hi => ?_, by rw [hup_far (by omega)]; exact m.2⟩
  rw [hup_far (by omega), hup_far (by omega)]
  exact m.1 i hi
theorem AK_mark {s A : Rw} {c w : Nat} {h : Hp} (hS : sok s) (hc : c < 12) (x : nx s c (A c) = w) (a : AK s A h) : AK s (gup A c (A c + 1)) (hup h 23 (12 * w + c) 1) := fun k hk sk => by
  have d := dv (u := w) hc
  by_cases e : k = 12 * w + c
  · have f1 : rk s (k % 12) (k / 12) < gup A c (A c + 1) (k % 12) := by
      rcases nx_b (s := s) (c := c) (a := A c) with r | r
      · omega
      rw [x] at r
      rw [show ((w : Int)).toNat = w by omega] at r
      rw [e, d.1, d.2, gup_same]
      omega
    rw [hup_eq ⟨rfl, e⟩, if_pos f1]
  · rw [hup_far (by omega), a k hk sk]
    have q := as_eq hS sk hk x e
    by_cases c3 : rk s (k % 12) (k / 12) < A (k % 12)
    · rw [if_pos c3, if_pos (q.mpr c3)]
    · rw [if_neg c3, if_neg (fun z => c3 (q.mp z))]
/-- the model's side after asking -/
theorem m_up {s A U : Rw} {c : Nat} {hM : Hp} (a : WM s hM ∧ ∀ j : Nat, j < 12 → hM 79 j = U j ∧ hM 82 j = A j) : WM s (hup hM 82 c (A c + 1)) ∧ ∀ j : Nat, j < 12 → hup hM 82 c (A c + 1) 79 j = U j ∧ hup hM 82 c (A c + 1) 82 j = gup A c (A c + 1) j := by
  refine ⟨fun k hk => ?_, fun j hj => ⟨?_, ?_⟩⟩
  · rw [hup_far (by omega)]
    exact a.1 k hk
  · rw [hup_far (by omega)]
    exact (a.2 j hj).1
  · by_cases cj : j = c
    · rw [hup_eq ⟨rfl, cj⟩, gup_eq cj]
    · rw [hup_far (by omega), gup_far cj]
      exact (a.2 j hj).2
theorem m_up2 {s A U : Rw} {w : Nat} {x : Int} {hM : Hp} (a : WM s hM ∧ ∀ j : Nat, j < 12 → hM 79 j = U j ∧ hM 82 j = A j) : WM s (hup hM 79 w x) ∧ ∀ j : Nat, j < 12 → hup hM 79 w x 79 j = gup U w x j ∧ hup hM 79 w x 82 j = A j := by
  refine ⟨fun k hk => ?_, fun j hj => ⟨?_, ?_⟩⟩
  · rw [hup_far (by omega)]
    exact a.1 k hk
  · by_cases cj : j = w
    · rw [hup_eq ⟨rfl, cj⟩, gup_eq cj]
    · rw [hup_far (by omega), gup_far cj]
      exact (a.2 j hj).1
  · rw [hup_far (by omega)]
    exact (a.2 j hj).2
theorem A_up {A : Rw} {c : Nat} (h : ∀ j, 0 ≤ A j) : ∀ j, 0 ≤ gup A c (A c + 1) j := fun j => by
  have := h c
  by_cases cj : j = c
  · rw [gup_eq cj]
    omega
  · rw [gup_far cj]
    exact h j
theorem gup2 (U : Rw) (w : Nat) (x y : Int) : gup (gup U w x) w y = gup U w y := by
  funext k
  by_cases c : k = w
  · rw [gup_eq c, gup_eq c]
  · rw [gup_far c, gup_far c, gup_far c]
theorem AR_rej {s A U C : Rw} {i c w d : Nat} {hC hM : Hp} (hV : Vn s) (hS : sok s) (a : AR s i A U C hC hM) (hc : (c : Int) < s 16) (e : C c = -1) (x : nx s c (A c) = w) (ud : U w = d) (na : ¬ acc s w c d) :
    ∃ hC', f_X0_askFor ((12 * w + c : Nat) : Int) hC = some (0, hC') ∧ AR s (i + 1) (gup A c (A c + 1)) U C hC' (hup hM 82 c (A c + 1)) ∧ FrS hC hC' := by
  obtain ⟨⟨a1, a2, a3⟩, a4, ⟨aI, aJ⟩, a7, a8, a9⟩ := a
  have v1 := hV.1
  have v2 := hV.2.1
  rcases nx_b (s := s) (c := c) (a := A c) with r | r
  · omega
  rw [x, show ((w : Int)).toNat = w by omega] at r
  have hw := r.2.1
  have spc : suP s (12 * w + c) := (su_is hS).mp r.2.2.1
  rcases aI w with I | I
  · have I1 : U w = -1 := I
    omega
  obtain ⟨I1, I2, I3, I4, I5⟩ := I
  have I2' : U w < s 16 := I2
  have I4' : sut s w (U w).toNat := I4
  have I5' : C (U w).toNat = w := I5
  rw [ud, show ((d : Int)).toNat = d by omega] at I4' I5'
  have dd := dv (u := w) (c := d) (by omega)
  have spd : suP s (12 * w + d) := ⟨⟨by rw [dd.1]; exact I3, by rw [dd.2]; omega⟩, by rw [dd.1, dd.2]; exact I4'⟩
  have dc : d ≠ c := fun z => by rw [z, e] at I5'; omega
  have t : Int.tdiv ((12 * w + c : Nat) : Int) 12 = (w : Int) := by
    rw [Int.tdiv_eq_ediv_of_nonneg (by omega)]
    omega
  have mk := MCq_mark (k := 12 * w + c) (x := 1) a2
  have wk := WA_mark (k := 12 * w + c) (x := 1) a1
  have pp := p_pair (u := w) (c := d) (h := hup hC 23 (12 * w + c) 1) (by rw [wk.1]; exact I3) (by rw [wk.2.1]; omega) (by rw [wk.1]; omega) (by rw [wk.2.1]; omega)
  unfold f_X0_askFor
  rw [if_neg (by omega), if_pos (by omega), if_pos ⟨by unfold inb; omega, by unfold isB; omega⟩, show (((12 * w + c : Nat) : Int)).toNat = 12 * w + c by omega]
  unfold lt lv
  dsimp only
  rw [t, wr_id (z := (w : Int)) (by omega) (by omega), p_clM (by omega), bd_s, show ((w : Int)).toNat = w by omega, (mk.1 w (by omega)).1]
  dsimp only
  rw [if_neg (show ¬ U w = -1 by omega), ud, pp, bd_s, c_ahead2 hV wk spc.1 spd.1, bd_s]
  have n1 : ¬ (if ptP s (12 * w + c) = ptP s (12 * w + d) then (if ((12 * w + c : Nat) : Int) ≤ ((12 * w + d : Nat) : Int) then ((12 * w + c : Nat) : Int) else ((12 * w + d : Nat) : Int)) else if ptP s (12 * w + c) ≤ ptP s (12 * w + d) then ((12 * w + d : Nat) : Int) else ((12 * w + c : Nat) : Int)) = ((12 * w + c : Nat) : Int) := by
    have e1 := (r81_su hS spc).2
    have e2 := (r81_su hS spd).2
    unfold acc at na
    split
    · split <;> omega
    · split <;> omega
  rw [if_neg n1]
  refine ⟨_, rfl, ⟨⟨wk, mk, AK_mark hS (by omega) x a3⟩, m_up a4, ⟨aI, aJ⟩, ?_, A_up a8, BR_new (d := d) (by omega) (by omega) r.2.2.1 r.2.2.2 a9 (fun u _ => rfl) ud (Or.inr (by unfold acc at na ⊢; omega)) (fun d0 h => Or.inl (by omega)) (fun j h => Or.inr ⟨fun z => h (by rw [z]; exact e), rfl⟩)⟩, FrS.up (by omega)⟩
  rw [aF_up hS (by omega) x, a7]
  omega
theorem AR_free {s A U C : Rw} {i c w : Nat} {hC hM : Hp} (hV : Vn s) (hS : sok s) (a : AR s i A U C hC hM) (hc : (c : Int) < s 16) (e : C c = -1) (x : nx s c (A c) = w) (ud : U w = -1) :
    ∃ hC', f_X0_askFor ((12 * w + c : Nat) : Int) hC = some (0, hC') ∧ AR s (i + 1) (gup A c (A c + 1)) (gup U w (c : Int)) (gup C c (w : Int)) hC' (hup (hup hM 82 c (A c + 1)) 79 w (c : Int)) ∧ FrS hC hC' := by
  obtain ⟨⟨a1, a2, a3⟩, a4, ⟨aI, aJ⟩, a7, a8, a9⟩ := a
  have v1 := hV.1
  have v2 := hV.2.1
  rcases nx_b (s := s) (c := c) (a := A c) with r | r
  · omega
  rw [x, show ((w : Int)).toNat = w by omega] at r
  have hw := r.2.1
  have spc : suP s (12 * w + c) := (su_is hS).mp r.2.2.1
  have d := dv (u := w) (c := c) (by omega)
  have t : Int.tdiv ((12 * w + c : Nat) : Int) 12 = (w : Int) := by
    rw [Int.tdiv_eq_ediv_of_nonneg (by omega)]
    omega
  have mk := MCq_mark (k := 12 * w + c) (x := 1) a2
  have wk := WA_mark (k := 12 * w + c) (x := 1) a1
  have cb := cU_b U
  obtain ⟨h', j1, j2, j3⟩ := c_join2 (w := w) (c := c) mk (by omega) (by omega) cb.1 (by show cU U ≤ 1000; omega)
  have st := stp_I (k := 12 * w + c) aI aJ ⟨spc, by rw [d.1]; exact ud, by rw [d.2]; exact e⟩
  unfold stp at st
  rw [d.1, d.2] at st
  have ce : cU U + 1 = cU (gup U w (c : Int)) := (cU_up (by omega) ud (by omega)).symm
  unfold f_X0_askFor f_X0_askFor_J36
  rw [if_neg (by omega), if_pos (by omega), if_pos ⟨by unfold inb; omega, by unfold isB; omega⟩, show (((12 * w + c : Nat) : Int)).toNat = 12 * w + c by omega]
  unfold lt lv
  dsimp only
  rw [t, wr_id (z := (w : Int)) (by omega) (by omega), p_clM (by omega), bd_s, show ((w : Int)).toNat = w by omega, (mk.1 w (by omega)).1]
  dsimp only
  rw [if_pos ud]
  rw [t, wr_id (z := (w : Int)) (by omega) (by omega)] at j1
  rw [j1, bd_s]
  refine ⟨_, rfl, ⟨⟨wk.fr j3, ?_, (AK_mark hS (by omega) x a3).fr j3⟩, m_up2 (m_up a4), ?_, ?_, A_up a8, BR_new (d := c) (by omega) (by omega) r.2.2.1 r.2.2.2 a9 (fun u h => gup_far h) (gup_same _ _ _) (Or.inl rfl) (fun d0 h => by omega) (fun j h => by
    by_cases z : j = c
    · exact Or.inl ⟨z, gup_eq z⟩
    · exact Or.inr ⟨z, gup_far z⟩)⟩, (FrS.up (by omega)).tr j3.s⟩
  · rw [← ce]
    exact j2
  · rw [← ce]
    exact st
  · rw [aF_up hS (by omega) x, a7]
    omega
theorem AR_swap {s A U C : Rw} {i c w d : Nat} {hC hM : Hp} (hV : Vn s) (hS : sok s) (a : AR s i A U C hC hM) (hc : (c : Int) < s 16) (e : C c = -1) (x : nx s c (A c) = w) (ud : U w = d) (ya : acc s w c d) :
    ∃ hC', f_X0_askFor ((12 * w + c : Nat) : Int) hC = some (0, hC') ∧ AR s (i + 1) (gup A c (A c + 1)) (gup U w (c : Int)) (gup (gup C d (-1)) c (w : Int)) hC' (hup (hup hM 82 c (A c + 1)) 79 w (c : Int)) ∧ FrS hC hC' ∧ d ≠ c ∧ C d = w ∧ (d : Int) < s 16 := by
  obtain ⟨⟨a1, a2, a3⟩, a4, ⟨aI, aJ⟩, a7, a8, a9⟩ := a
  have v1 := hV.1
  have v2 := hV.2.1
  rcases nx_b (s := s) (c := c) (a := A c) with r | r
  · omega
  rw [x, show ((w : Int)).toNat = w by omega] at r
  have hw := r.2.1
  have spc : suP s (12 * w + c) := (su_is hS).mp r.2.2.1
  rcases aI w with I | I
  · have I1 : U w = -1 := I
    omega
  obtain ⟨I1, I2, I3, I4, I5⟩ := I
  have I2' : U w < s 16 := I2
  have I4' : sut s w (U w).toNat := I4
  have I5' : C (U w).toNat = w := I5
  rw [ud, show ((d : Int)).toNat = d by omega] at I4' I5'
  have dd := dv (u := w) (c := d) (by omega)
  have dq := dv (u := w) (c := c) (by omega)
  have spd : suP s (12 * w + d) := ⟨⟨by rw [dd.1]; exact I3, by rw [dd.2]; omega⟩, by rw [dd.1, dd.2]; exact I4'⟩
  have dc : d ≠ c := fun z => by rw [z, e] at I5'; omega
  have t : Int.tdiv ((12 * w + c : Nat) : Int) 12 = (w : Int) := by
    rw [Int.tdiv_eq_ediv_of_nonneg (by omega)]
    omega
  have mk := MCq_mark (k := 12 * w + c) (x := 1) a2
  have wk := WA_mark (k := 12 * w + c) (x := 1) a1
  have pp := p_pair (u := w) (c := d) (h := hup hC 23 (12 * w + c) 1) (by rw [wk.1]; exact I3) (by rw [wk.2.1]; omega) (by rw [wk.1]; omega) (by rw [wk.2.1]; omega)
  have cb := cU_b U
  obtain ⟨h1, p1, p2, p3⟩ := c_part (w := w) (d := d) mk (by omega) (by omega) cb.1 (by show cU U ≤ 1000; omega)
  have cd : cU (gup U w (-1)) = cU U - 1 := cU_dn (by omega) (by omega)
  have cb2 := cU_b (gup U w (-1))
  obtain ⟨h', j1, j2, j3⟩ := c_join2 (w := w) (c := c) p2 (by omega) (by omega) (by show 0 ≤ cU U - 1; omega) (by show cU U - 1 ≤ 1000; omega)
  obtain ⟨pI, pJ⟩ := part_I (n' := cU U - 1) aI aJ ud
  have st := stp_I (k := 12 * w + c) pI pJ ⟨spc, by rw [dq.1]; exact gup_same U w (-1), by
    rw [dq.2]
    show gup C d (-1) c = -1
    rw [gup_far (by omega)]
    exact e⟩
  unfold stp at st
  rw [dq.1, dq.2] at st
  have ce : cU U - 1 + 1 = cU (gup U w (c : Int)) := by
    rw [← gup2 U w (-1) (c : Int), cU_up (by omega) (gup_same U w (-1)) (by omega), cd]
  dsimp only at st j2
  rw [gup2] at st j2
  unfold f_X0_askFor f_X0_askFor_J36
  rw [if_neg (by omega), if_pos (by omega), if_pos ⟨by unfold inb; omega, by unfold isB; omega⟩, show (((12 * w + c : Nat) : Int)).toNat = 12 * w + c by omega]
  unfold lt lv
  dsimp only
  rw [t, wr_id (z := (w : Int)) (by omega) (by omega)] at j1
  rw [t, wr_id (z := (w : Int)) (by omega) (by omega), p_clM (by omega), bd_s, show ((w : Int)).toNat = w by omega, (mk.1 w (by omega)).1]
  dsimp only
  rw [if_neg (show ¬ U w = -1 by omega), ud, pp, bd_s, c_ahead2 hV wk spc.1 spd.1, bd_s]
  have n1 : (if ptP s (12 * w + c) = ptP s (12 * w + d) then (if ((12 * w + c : Nat) : Int) ≤ ((12 * w + d : Nat) : Int) then ((12 * w + c : Nat) : Int) else ((12 * w + d : Nat) : Int)) else if ptP s (12 * w + c) ≤ ptP s (12 * w + d) then ((12 * w + d : Nat) : Int) else ((12 * w + c : Nat) : Int)) = ((12 * w + c : Nat) : Int) := by
    have e1 := (r81_su hS spc).2
    have e2 := (r81_su hS spd).2
    unfold acc at ya
    split
    · split <;> omega
    · split <;> omega
  rw [if_pos n1, p1, bd_s, j1, bd_s]
  refine ⟨_, rfl, ⟨⟨(wk.fr p3).fr j3, ?_, ((AK_mark hS (by omega) x a3).fr p3).fr j3⟩, m_up2 (m_up a4), ?_, ?_, A_up a8, BR_new (d := c) (by omega) (by omega) r.2.2.1 r.2.2.2 a9 (fun u h => gup_far h) (gup_same _ _ _) (Or.inl rfl) (fun d0 h => Or.inr (by rw [show d0 = d by omega]; exact ya)) (fun j h => by
    by_cases z : j = c
    · exact Or.inl ⟨z, gup_eq z⟩
    · rw [gup_far z] at h ⊢
      by_cases z2 : j = d
      · rw [gup_eq z2] at h
        exact absurd rfl h
      · exact Or.inr ⟨z, gup_far z2⟩)⟩, ((FrS.up (by omega)).tr p3.s).tr j3.s, dc, I5', by omega⟩
  · rw [← ce]
    exact j2
  · rw [← ce]
    exact st
  · rw [aF_up hS (by omega) x, a7]
    omega
end Asking2

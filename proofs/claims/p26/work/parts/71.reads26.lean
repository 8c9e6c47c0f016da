/-! the class alone: what its questions answer -/
section Reads26
/-- a question: its answer, and the class stands as before -/
def Rd (n : Nat) (N : Int) (S : Nat → Rw) (h : Hp) (e : Option (Int × Hp)) (r : Int) : Prop := ∃ h', e = some (r, h') ∧ St n N S h' ∧ FrC h h'
theorem Rd.of {n : Nat} {N r : Int} {S : Nat → Rw} {h h' : Hp} {e : Option (Int × Hp)} (R : St n N S h) (he : e = some (r, h')) (f : FrT h h') : Rd n N S h e r := ⟨h', he, R.read f, f.c⟩
def nf (x : Int) : Int := if x = -1 then -1000004 else x
theorem p_nf {x : Int} {h : Hp} : f_X4_orNotFound x h = some (nf x, h) := by
  unfold f_X4_orNotFound nf
  by_cases c : x = -1
  · rw [if_neg (by omega), if_pos c]
  · rw [if_pos c, if_neg c]
noncomputable def vP (s : Rw) (u c : Int) : Int := if okP s u c then wr (1000 + pts s u.toNat c.toNat) else -1000001
theorem q_points {n : Nat} {N u c : Int} {S : Nat → Rw} {h : Hp} (hN : N ≤ 1000000) (R : St n N S h) : Rd n N S h (f_X4_points u c h) (vP (S 0) u c) := by
  obtain ⟨vg, vd, v0⟩ := R.2.2.2.2.1
  have sr := R.2.2.2.1
  have e1 := c_isPair (u := u) (c := c) sr
  unfold vP f_X4_points
  by_cases p : okP (S 0) u c
  · obtain ⟨h1, a1, a2, a3⟩ := c_weighAll (o := 1) (by omega) vg vd hN sr
    rw [e1, bd_s, if_pos p, if_pos (by omega), a1, bd_s, c_worth vg a2 p.1.1 p.1.2 p.2.1 p.2.2, bd_s, if_pos p]
    exact Rd.of R rfl a3.t
  · rw [e1, bd_s, if_neg p, if_neg (by omega), if_neg p]
    exact Rd.of R rfl FrT.rf
def vH (s : Rw) (j v : Int) : Int := if (0 ≤ j ∧ j ≤ 3) ∧ okv 0 v then cn s j.toNat v (s 15).toNat else -1000001
theorem q_having {n : Nat} {N j v : Int} {S : Nat → Rw} {h : Hp} (R : St n N S h) : Rd n N S h (f_X4_having j v h) (vH (S 0) j v) := by
  obtain ⟨vg, vd, v0⟩ := R.2.2.2.2.1
  have sr := R.2.2.2.1
  unfold vH f_X4_having
  rw [p_isD, bd_s]
  by_cases c1 : 0 ≤ j ∧ j ≤ 3
  · rw [if_pos c1, if_neg (by omega), p_isV, bd_s]
    by_cases c2 : okv 0 v
    · rw [if_pos c2, if_pos (by omega), c_with sr vg (by omega), bd_s, if_pos ⟨c1, c2⟩]
      exact Rd.of R rfl FrT.rf
    · rw [if_neg c2, if_neg (by omega), if_neg (fun q => c2 q.2)]
      exact Rd.of R rfl FrT.rf
  · rw [if_neg c1, if_pos rfl, if_neg (fun q => c1 q.1)]
    exact Rd.of R rfl FrT.rf
/-- the oddest of the first n umbrellas -/
def odB (s : Rw) : Nat → Int
  | 0 => -1
  | n + 1 => if odB s n = -1 then (n : Int) else if odt s n ≤ odt s (odB s n).toNat then odB s n else (n : Int)
theorem odB_b (s : Rw) : ∀ n : Nat, (odB s n = -1 ∧ n = 0) ∨ (0 ≤ odB s n ∧ odB s n < n) := by
  intro n
  induction n with
  | zero => exact Or.inl ⟨rfl, rfl⟩
  | succ n ih =>
    right
    unfold odB
    by_cases c : odB s n = -1
    · rw [if_pos c]
      omega
    · rw [if_neg c]
      split <;> omega
theorem oddest_q {s : Rw} {hC : Hp} (sr : SR hC 1 s) (hV : Vn s) : ∀ (m n : Nat) (i : Nat), m < n → (i : Int) + m = s 15 →
    f_X4_oddest_L6 n (odB s i) (if odB s i = -1 then 0 else odt s (odB s i).toNat) (i : Int) hC = some (nf (odB s (s 15).toNat), hC) := by
  have eC : hC 2 1 = s 15 := sr.1.1
  have v := hV.1
  intro m
  induction m with
  | zero =>
    intro n i hn hi
    obtain ⟨n, rfl⟩ : ∃ n0, n = n0 + 1 := ⟨n - 1, by omega⟩
    rw [f_X4_oddest_L6_s, eC, if_pos (show s 15 ≤ (i : Int) by omega), p_nf, bd_s, show (s 15).toNat = i by omega]
  | succ m ih =>
    intro n i hn hi
    obtain ⟨n, rfl⟩ : ∃ n0, n = n0 + 1 := ⟨n - 1, by omega⟩
    have k := ih n (i + 1) (by omega) (by omega)
    rw [show ((i + 1 : Nat) : Int) = (i : Int) + 1 by omega, show odB s (i + 1) = if odB s i = -1 then (i : Int) else if odt s i ≤ odt s (odB s i).toNat then odB s i else (i : Int) from rfl] at k
    rw [f_X4_oddest_L6_s, eC, if_neg (show ¬ s 15 ≤ (i : Int) by omega), c_odt sr hV (by omega) (by omega), bd_s, wr_id (by omega) (by omega)]
    by_cases c : odB s i = -1
    · rw [if_pos c, if_neg (show ¬ (i : Int) = -1 by omega)] at k
      rw [if_pos c]
      exact k
    · rw [if_neg c, if_neg c, show ((i : Int)).toNat = i by omega]
      rw [if_neg c] at k
      by_cases c2 : odt s i ≤ odt s (odB s i).toNat
      · rw [if_pos c2, if_neg c] at k
        rw [if_pos c2]
        exact k
      · rw [if_neg c2, if_neg (show ¬ (i : Int) = -1 by omega), show ((i : Int)).toNat = i by omega] at k
        rw [if_neg c2]
        exact k
def vO (s : Rw) : Int := nf (odB s (s 15).toNat)
theorem q_oddest {n : Nat} {N : Int} {S : Nat → Rw} {h : Hp} (R : St n N S h) : Rd n N S h (f_X4_oddest h) (vO (S 0)) := by
  obtain ⟨vg, vd, v0⟩ := R.2.2.2.2.1
  have sr := R.2.2.2.1
  have v := vg.1
  have := fu_gt
  have k := oddest_q sr vg (S 0 15).toNat fu 0 (by omega) (by omega)
  exact Rd.of R k FrT.rf
noncomputable def vU (s : Rw) (x w : Int) : Int :=
  if (0 ≤ x ∧ x < s 15) ∧ 0 ≤ w ∧ w ≤ 8 then
    (if w ≤ 4 then s (18 + 5 * x.toNat + w.toNat) else if w = 8 then odt s x.toNat else if w = 7 then sm (fS s x (-1)) 144
     else if (mtA s).1 x.toNat = -1 then -1000004 else if w = 5 then (mtA s).1 x.toNat else pts s x.toNat ((mtA s).1 x.toNat).toNat)
  else -1000001
theorem q_umbrella {n : Nat} {N x w : Int} {S : Nat → Rw} {h : Hp} (hN : N ≤ 1000000) (R : St n N S h) : Rd n N S h (f_X4_umbrella x w h) (vU (S 0) x w) := by
  obtain ⟨vg, vd, v0⟩ := R.2.2.2.2.1
  have sr := R.2.2.2.1
  have e1 := c_hasU (x := x) sr
  have v1 := vg.1
  have v2 := vg.2.1
  generalize hs : S 0 = s at *
  unfold vU
  by_cases p : 0 ≤ x ∧ x < s 15
  · rw [if_pos p] at e1
    by_cases q : 0 ≤ w ∧ w ≤ 8
    · rw [if_pos ⟨p, q⟩]
      unfold f_X4_umbrella
      rw [e1, bd_s, if_neg (show ¬ (1 : Int) = 0 by omega), if_neg (show ¬ w < 0 by omega), if_pos (show w ≤ 8 by omega)]
      by_cases w4 : w ≤ 4
      · rw [if_neg (show ¬ 4 < w by omega), if_pos w4, show f_X2_cell 2 x w h = _ from c_cellU sr vg p (by omega), bd_s]
        exact Rd.of R rfl FrT.rf
      rw [if_pos (show 4 < w by omega), if_neg w4]
      by_cases w8 : w = 8
      · rw [if_neg (show ¬ ¬ w = 8 by omega), if_pos w8, c_odt sr vg p.1 p.2, bd_s]
        exact Rd.of R rfl FrT.rf
      obtain ⟨h1, a1, a2, a3, a4⟩ := c_matchAll (o := 1) (by omega) vg vd hN sr
      rw [if_pos w8, if_neg w8, a1, bd_s]
      by_cases w7 : w = 7
      · rw [if_neg (show ¬ ¬ w = 7 by omega), if_pos w7, c_cs vg a3 p.1 p.2, bd_s]
        exact Rd.of R rfl a4.t
      obtain ⟨I, J⟩ := mt0_I s
      have mi := (mtc_I 12 mt0 I J).1 x.toNat
      rw [show mtc s 12 mt0 = mtA s from rfl] at mi
      rw [if_pos w7, if_neg w7, p_clM (by omega), bd_s, (a2.1 x.toNat (by omega)).1]
      by_cases c : (mtA s).1 x.toNat = -1
      · rw [if_neg (by omega), if_pos c]
        exact Rd.of R rfl a4.t
      rw [if_pos c, if_neg c]
      by_cases c5 : w = 5
      · rw [if_neg (show ¬ ¬ w = 5 by omega), if_pos c5]
        exact Rd.of R rfl a4.t
      · rcases mi with mi | mi
        · exact absurd mi c
        rw [if_pos c5, if_neg c5, c_worth vg a3 p.1 p.2 mi.1 mi.2.1, bd_s]
        exact Rd.of R rfl a4.t
    · rw [if_neg (fun z => q z.2)]
      unfold f_X4_umbrella
      rw [e1, bd_s, if_neg (show ¬ (1 : Int) = 0 by omega)]
      by_cases c : w < 0
      · rw [if_pos c]
        exact Rd.of R rfl FrT.rf
      · rw [if_neg c, if_neg (show ¬ w ≤ 8 by omega)]
        exact Rd.of R rfl FrT.rf
  · rw [if_neg p] at e1
    rw [if_neg (fun z => p z.1)]
    unfold f_X4_umbrella
    rw [e1, bd_s, if_pos rfl]
    exact Rd.of R rfl FrT.rf
noncomputable def vC (s : Rw) (x w : Int) : Int :=
  if (0 ≤ x ∧ x < s 16) ∧ 0 ≤ w ∧ w ≤ 7 then
    (if w < 4 then nf (s (78 + 6 * x.toNat + w.toNat)) else if w = 4 then s (78 + 6 * x.toNat + 4) else if w = 7 then s (78 + 6 * x.toNat + 5) else if w = 5 then nf ((mtA s).2.1 x.toNat) else sm (fS s (-1) x) 144)
  else -1000001
theorem q_claimOf {n : Nat} {N x w : Int} {S : Nat → Rw} {h : Hp} (hN : N ≤ 1000000) (R : St n N S h) : Rd n N S h (f_X4_claimOf x w h) (vC (S 0) x w) := by
  obtain ⟨vg, vd, v0⟩ := R.2.2.2.2.1
  have sr := R.2.2.2.1
  have e1 := c_hasC (x := x) sr
  have v1 := vg.1
  have v2 := vg.2.1
  generalize hs : S 0 = s at *
  unfold vC
  by_cases p : 0 ≤ x ∧ x < s 16
  · rw [if_pos p] at e1
    by_cases q : 0 ≤ w ∧ w ≤ 7
    · have cell : ∀ j, 0 ≤ j ∧ j < 6 → f_X2_cell 4 x j h = some (s (78 + 6 * x.toNat + j.toNat), h) := fun j hj => c_cellC sr vg p hj
      rw [if_pos ⟨p, q⟩]
      unfold f_X4_claimOf
      rw [e1, bd_s, if_neg (show ¬ (1 : Int) = 0 by omega), if_neg (show ¬ w < 0 by omega), if_pos (show w ≤ 7 by omega)]
      by_cases w4 : w < 4
      · rw [if_neg (show ¬ 4 ≤ w by omega), if_pos w4, cell w (by omega), bd_s]
        unfold nf
        by_cases k : s (78 + 6 * x.toNat + w.toNat) = -1
        · rw [if_neg (by omega), if_pos k]
          exact Rd.of R rfl FrT.rf
        · rw [if_pos k, if_neg k]
          exact Rd.of R rfl FrT.rf
      rw [if_pos (show 4 ≤ w by omega), if_neg w4]
      by_cases c4 : w = 4
      · rw [if_neg (show ¬ ¬ w = 4 by omega), if_pos c4, cell 4 (by omega), bd_s]
        exact Rd.of R rfl FrT.rf
      rw [if_pos c4, if_neg c4]
      by_cases c7 : w = 7
      · rw [if_neg (show ¬ ¬ w = 7 by omega), if_pos c7, cell 5 (by omega), bd_s]
        exact Rd.of R rfl FrT.rf
      obtain ⟨h1, a1, a2, a3, a4⟩ := c_matchAll (o := 1) (by omega) vg vd hN sr
      rw [if_pos c7, if_neg c7, a1, bd_s]
      by_cases c5 : w = 5
      · rw [if_neg (show ¬ ¬ w = 5 by omega), if_pos c5, p_umM (by omega), bd_s, (a2.1 x.toNat (by omega)).2, p_nf, bd_s]
        exact Rd.of R rfl a4.t
      · rw [if_pos c5, if_neg c5, c_us vg a3 p.1 p.2, bd_s]
        exact Rd.of R rfl a4.t
    · rw [if_neg (fun z => q z.2)]
      unfold f_X4_claimOf
      rw [e1, bd_s, if_neg (show ¬ (1 : Int) = 0 by omega)]
      by_cases c : w < 0
      · rw [if_pos c]
        exact Rd.of R rfl FrT.rf
      · rw [if_neg c, if_neg (show ¬ w ≤ 7 by omega)]
        exact Rd.of R rfl FrT.rf
  · rw [if_neg p] at e1
    rw [if_neg (fun z => p z.1)]
    unfold f_X4_claimOf
    rw [e1, bd_s, if_pos rfl]
    exact Rd.of R rfl FrT.rf
noncomputable def vW (s : Rw) (u c : Int) : Int :=
  if okP s u c then
    (if (mtA s).1 u.toNat = c then 0 else if s 1 < mis s u.toNat c.toNat then 1 else if pts s u.toNat c.toNat < s 4 then 2
     else if (mtA s).1 u.toNat ≠ -1 ∧ (pts s u.toNat c.toNat < pts s u.toNat ((mtA s).1 u.toNat).toNat ∨ (pts s u.toNat c.toNat = pts s u.toNat ((mtA s).1 u.toNat).toNat ∧ (mtA s).1 u.toNat < c)) then 3 else 4)
  else -1000001
theorem q_why {n : Nat} {N u c : Int} {S : Nat → Rw} {h : Hp} (hN : N ≤ 1000000) (R : St n N S h) : Rd n N S h (f_X4_why u c h) (vW (S 0) u c) := by
  obtain ⟨vg, vd, v0⟩ := R.2.2.2.2.1
  have sr := R.2.2.2.1
  have e1 := c_isPair (u := u) (c := c) sr
  have v1 := vg.1
  have v2 := vg.2.1
  generalize hs : S 0 = s at *
  unfold vW
  by_cases p : okP s u c
  · rw [if_pos p]
    obtain ⟨h1, a1, a2, a3, a4⟩ := c_matchAll (o := 1) (by omega) vg vd hN sr
    obtain ⟨I, J⟩ := mt0_I s
    have mi := (mtc_I 12 mt0 I J).1 u.toNat
    rw [show mtc s 12 mt0 = mtA s from rfl] at mi
    have sr1 := sr.scr a4 (by omega)
    obtain ⟨w7, w8, w⟩ := a3
    have wk := w u.toNat c.toNat (by omega) (by omega) (by omega)
    have pp := p_pair (u := u.toNat) (c := c.toNat) (h := h1) (by omega) (by omega) (by omega) (by omega)
    rw [show ((u.toNat : Nat) : Int) = u by omega, show ((c.toNat : Nat) : Int) = c by omega] at pp
    have i144 : inb (((12 * u.toNat + c.toNat : Nat) : Int)) 144 := by unfold inb; omega
    unfold f_X4_why f_X0_reasonAgainst
    rw [e1, bd_s, if_pos p, if_pos (show ¬ (1 : Int) = 0 by omega), a1, bd_s, pp, bd_s, p_clM (by omega), bd_s, if_neg (show ¬ ((12 * u.toNat + c.toNat : Nat) : Int) < 0 by omega), if_neg (show ¬ 144 ≤ ((12 * u.toNat + c.toNat : Nat) : Int) by omega), (a2.1 u.toNat (by omega)).1]
    by_cases k0 : (mtA s).1 u.toNat = c
    · rw [if_neg (show ¬ ¬ (mtA s).1 u.toNat = c by omega), if_pos k0, bd_s]
      exact Rd.of R rfl a4.t
    rw [if_pos k0, if_neg k0, if_pos i144, p_setting (by omega) (by omega), bd_s, show (((12 * u.toNat + c.toNat : Nat) : Int)).toNat = 12 * u.toNat + c.toNat by omega, wk.1, wk.2.2, show h1 (1 + 7) (Int.toNat 0) = s 1 from sr1.2.2.2.1 0 (by omega), if_pos i144]
    by_cases k1 : mis s u.toNat c.toNat ≤ s 1
    · rw [if_pos k1, if_neg (show ¬ s 1 < mis s u.toNat c.toNat by omega)]
      by_cases k2 : s 4 ≤ pts s u.toNat c.toNat
      · rw [if_pos (show sut s u.toNat c.toNat from ⟨k1, k2⟩), if_pos (show ¬ (1 : Int) = 0 by omega), if_neg (show ¬ pts s u.toNat c.toNat < s 4 by omega)]
        by_cases k3 : (mtA s).1 u.toNat = -1
        · rw [if_neg (fun z => z.1 k3), k3]
          have pm : f_X0_pairOf u (-1) h1 = some (-1, h1) := by
            unfold f_X0_pairOf
            rw [if_neg (by omega), if_neg (by omega), if_pos (by omega)]
          rw [pm, bd_s]
          unfold f_X0_aheadOf
          rw [if_pos (by omega), bd_s, if_neg (by omega), bd_s]
          exact Rd.of R rfl a4.t
        · rcases mi with mi | mi
          · exact absurd mi k3
          obtain ⟨q0, q1, q2, q3, q4⟩ := mi
          have d := dv (u := u.toNat) (c := ((mtA s).1 u.toNat).toNat) (by omega)
          have pm := p_pair (u := u.toNat) (c := ((mtA s).1 u.toNat).toNat) (h := h1) (by omega) (by omega) (by omega) (by omega)
          rw [show ((u.toNat : Nat) : Int) = u by omega, show (((mtA s).1 u.toNat).toNat : Int) = (mtA s).1 u.toNat by omega] at pm
          have wm := (w u.toNat ((mtA s).1 u.toNat).toNat (by omega) (by omega) (by omega)).2.1
          rw [pm, bd_s]
          unfold f_X0_aheadOf
          rw [if_neg (by omega), if_pos (by omega), if_neg (by omega), if_pos (by omega), if_pos (by unfold inb; omega), if_pos (by unfold inb; omega), show (((12 * u.toNat + c.toNat : Nat) : Int)).toNat = 12 * u.toNat + c.toNat by omega, show (((12 * u.toNat + ((mtA s).1 u.toNat).toNat : Nat) : Int)).toNat = 12 * u.toNat + ((mtA s).1 u.toNat).toNat by omega, wk.2.1, wm]
          by_cases k4 : pts s u.toNat c.toNat < pts s u.toNat ((mtA s).1 u.toNat).toNat
          · rw [if_neg (by omega), if_pos (by unfold inb; omega), if_pos (by unfold inb; omega), if_neg (by omega), bd_s, if_pos (by omega), bd_s, if_pos ⟨k3, Or.inl k4⟩]
            exact Rd.of R rfl a4.t
          · by_cases k5 : pts s u.toNat ((mtA s).1 u.toNat).toNat = pts s u.toNat c.toNat
            · rw [if_pos k5, p_min, bd_s, bd_s]
              by_cases k6 : c ≤ (mtA s).1 u.toNat
              · rw [if_neg (show ¬ ((12 * u.toNat + ((mtA s).1 u.toNat).toNat : Nat) : Int) ≤ ((12 * u.toNat + c.toNat : Nat) : Int) by omega), if_neg (by omega), bd_s, if_neg (fun z => by have := z.2; omega)]
                exact Rd.of R rfl a4.t
              · rw [if_pos (show ((12 * u.toNat + ((mtA s).1 u.toNat).toNat : Nat) : Int) ≤ ((12 * u.toNat + c.toNat : Nat) : Int) by omega), if_pos (by omega), bd_s, if_pos ⟨k3, Or.inr ⟨k5.symm, by omega⟩⟩]
                exact Rd.of R rfl a4.t
            · rw [if_neg k5, if_pos (by unfold inb; omega), if_pos (by unfold inb; omega), if_pos (by omega), bd_s, if_neg (by omega), bd_s, if_neg (fun z => by have := z.2; omega)]
              exact Rd.of R rfl a4.t
      · rw [if_neg (show ¬ sut s u.toNat c.toNat from fun q => k2 q.2), if_neg (show ¬ ¬ (0 : Int) = 0 by omega), bd_s, if_pos (show pts s u.toNat c.toNat < s 4 by omega)]
        exact Rd.of R rfl a4.t
    · rw [if_neg k1, bd_s, if_pos (show s 1 < mis s u.toNat c.toNat by omega)]
      exact Rd.of R rfl a4.t
  · rw [if_neg p]
    unfold f_X4_why
    rw [e1, bd_s, if_neg p, if_neg (by omega)]
    exact Rd.of R rfl FrT.rf
noncomputable def vT (s : Rw) (i j v : Int) : Int := if okT s i j v then nf ((mtA (teS s i j v)).2.1 i.toNat) else -1000001
theorem q_ifTold {n : Nat} {N i j v : Int} {S : Nat → Rw} {h : Hp} (hN : N < 1000000) (R : St n N S h) : Rd n N S h (f_X4_ifTold i j v h) (vT (S 0) i j v) := by
  obtain ⟨vg, vd, v0⟩ := R.2.2.2.2.1
  have sr := R.2.2.2.1
  generalize hs : S 0 = s at *
  obtain ⟨h1, a1, a2, a3⟩ := c_become (d := 10) sr vg (by omega)
  unfold f_X4_ifTold vT
  rw [a1, bd_s]
  by_cases p : okT s i j v
  · obtain ⟨h2, b1, b2, b3⟩ := c_tell a2 vg p
    have v2 := vg.2.1
    have p1 := p.1
    have t := tl_0 vd (by omega) p
    have vg' : Vn (tlS s i.toNat j.toNat v) := by
      have p2 := p.2.1
      unfold tlS
      exact gup_V (gup_V vg (by omega)) (by omega)
    have vd' := Vd_tlS vg vd (by omega) p
    obtain ⟨h3, d1, d2, d3, d4⟩ := c_matchAll (o := 10) (by omega) vg' vd' (by omega) b2
    have fT : FrT h h3 := (a3.t.tr b3.t).tr d4.t
    rw [b1, bd_s, if_pos t, d1, bd_s, p_umM (by omega), bd_s, (d2.1 i.toNat (by omega)).2, p_nf, bd_s, if_pos p]
    exact Rd.of R rfl fT
  · rw [c_tell_bad a2 p, bd_s, if_neg (by omega), if_neg p]
    exact Rd.of R rfl a3.t
noncomputable def vI (s : Rw) (x w : Int) : Int := if (1 ≤ x ∧ x ≤ 20) ∧ 0 ≤ w ∧ w ≤ 2 then (if w = 0 then wr (wks x.toNat s 11 - s 11) else if w = 1 then wr (wks x.toNat s 12 - s 12) else (mtA (wks x.toNat s)).2.2) else -1000001
theorem q_ifWeeks {n : Nat} {N x w : Int} {S : Nat → Rw} {h : Hp} (hN : N ≤ 1000000) (R : St n N S h) : Rd n N S h (f_X4_ifWeeks x w h) (vI (S 0) x w) := by
  obtain ⟨vg, vd, v0⟩ := R.2.2.2.2.1
  have sr := R.2.2.2.1
  generalize hs : S 0 = s at *
  unfold vI
  by_cases p : 1 ≤ x ∧ x ≤ 20
  · by_cases q : 0 ≤ w ∧ w ≤ 2
    · obtain ⟨h1, a1, a2, a3⟩ := c_become (d := 10) sr vg (by omega)
      obtain ⟨h2, b1, b2, b3⟩ := c_weeks (m := 1019) a2 vg p (by rw [wr_id (by omega) (by omega)]; omega)
      have sr2 : SR h2 1 s := (sr.fr a3 (by omega)).fr b3 (by omega)
      obtain ⟨y1, y2, y3⟩ := Vd_wks x.toNat s vg vd v0.1 (by omega)
      have fT : FrT h h2 := a3.t.tr b3.t
      rw [if_pos ⟨p, q⟩]
      unfold f_X4_ifWeeks
      rw [p_isW, bd_s, if_pos p, if_neg (show ¬ (1 : Int) = 0 by omega), if_neg (show ¬ w < 0 by omega), if_pos (show w ≤ 2 by omega), a1, bd_s, b1, bd_s]
      by_cases w0 : w = 0
      · rw [if_neg (show ¬ ¬ w = 0 by omega), if_pos w0, p_sum (by omega) (by omega), bd_s, p_sum (by omega) (by omega), bd_s, show h2 (10 + 8) (Int.toNat 8) = wks x.toNat s 11 from b2.2.2.2.2.2 3 (by omega), show h2 (1 + 8) (Int.toNat 8) = s 11 from sr2.2.2.2.2.2 3 (by omega)]
        exact Rd.of R rfl fT
      rw [if_pos w0, if_neg w0]
      by_cases w1 : w = 1
      · rw [if_neg (show ¬ ¬ w = 1 by omega), if_pos w1, p_sum (by omega) (by omega), bd_s, p_sum (by omega) (by omega), bd_s, show h2 (10 + 8) (Int.toNat 9) = wks x.toNat s 12 from b2.2.2.2.2.2 4 (by omega), show h2 (1 + 8) (Int.toNat 9) = s 12 from sr2.2.2.2.2.2 4 (by omega)]
        exact Rd.of R rfl fT
      rw [if_pos w1, if_neg w1]
      obtain ⟨h3, d1, d2, d3, d4⟩ := c_matchAll (o := 10) (by omega) y1 y2 hN b2
      rw [d1, bd_s, d2.2]
      exact Rd.of R rfl (fT.tr d4.t)
    · rw [if_neg (fun z => q z.2)]
      unfold f_X4_ifWeeks
      rw [p_isW, bd_s, if_pos p, if_neg (show ¬ (1 : Int) = 0 by omega)]
      by_cases c : w < 0
      · rw [if_pos c]
        exact Rd.of R rfl FrT.rf
      · rw [if_neg c, if_neg (show ¬ w ≤ 2 by omega)]
        exact Rd.of R rfl FrT.rf
  · rw [if_neg (fun z => p z.1)]
    unfold f_X4_ifWeeks
    rw [p_isW, bd_s, if_neg p, if_pos rfl]
    exact Rd.of R rfl FrT.rf
def vB (s : Rw) (i c : Int) : Int := if i < 0 ∨ c < 0 ∨ 4 ≤ c then -1000001 else if s 17 ≤ i then -1000004 else s (150 + 4 * (s 17 - 1 - i).toNat + c.toNat)
theorem okF_all {y n : Int} (h1 : 1 ≤ n) (h2 : n ≤ 12) (h3 : n ≤ y) (h4 : y ≤ 52 * n) : okF (fx y n) = true := by
  obtain ⟨z, rfl⟩ : ∃ z : Nat, y = z := ⟨y.toNat, by omega⟩
  rcases (show n = 1 ∨ n = 2 ∨ n = 3 ∨ n = 4 ∨ n = 5 ∨ n = 6 ∨ n = 7 ∨ n = 8 ∨ n = 9 ∨ n = 10 ∨ n = 11 ∨ n = 12 by omega) with rfl | rfl | rfl | rfl | rfl | rfl | rfl | rfl | rfl | rfl | rfl | rfl
  · exact okn_1 z (by omega) (by omega)
  · exact okn_2 z (by omega) (by omega)
  · exact okn_3 z (by omega) (by omega)
  · exact okn_4 z (by omega) (by omega)
  · exact okn_5 z (by omega) (by omega)
  · exact okn_6 z (by omega) (by omega)
  · exact okn_7 z (by omega) (by omega)
  · exact okn_8 z (by omega) (by omega)
  · exact okn_9 z (by omega) (by omega)
  · exact okn_10 z (by omega) (by omega)
  · exact okn_11 z (by omega) (by omega)
  · exact okn_12 z (by omega) (by omega)
theorem mean_v {y n : Int} {h : Hp} (h1 : 1 ≤ n) (h2 : n ≤ 12) (h3 : n ≤ y) (h4 : y ≤ 52 * n) : nN (fx y n) ∧ f_X4_bitsOf (fx y n) h = some ((UInt32.toInt32 (fx y n)).toInt, h) := by
  obtain ⟨m1, v, m2, m3⟩ := mean_bits (hC := h) (hM := h) h1 h2 h3 h4
  have q := okF_all h1 h2 h3 h4
  unfold okF at q
  rw [Bool.and_eq_true, Bool.and_eq_true] at q
  have q2 := of_decide_eq_true q.1.2
  refine ⟨m1, ?_⟩
  unfold f_J_floatToIntBits f_J_isNaN at m3
  rw [if_pos q2, bd_s, if_neg (by omega)] at m3
  rw [m2]
  have := (Prod.mk.inj (Option.some.inj m3)).1
  rw [this]
noncomputable def vM (s : Rw) : Int := if (mtA s).2.2 = 0 then -1000004 else (UInt32.toInt32 (fx (sm (gF s (mtA s).1) 12) (mtA s).2.2)).toInt
theorem q_mean {n : Nat} {N : Int} {S : Nat → Rw} {h : Hp} (hN : N ≤ 1000000) (R : St n N S h) : Rd n N S h (f_X4_mean h) (vM (S 0)) := by
  obtain ⟨vg, vd, v0⟩ := R.2.2.2.2.1
  have sr := R.2.2.2.1
  generalize hs : S 0 = s at *
  obtain ⟨h1, a1, a2, a3, a4⟩ := c_matchAll (o := 1) (by omega) vg vd hN sr
  obtain ⟨I, J⟩ := mt0_I s
  have mi := (mtc_I 12 mt0 I J).1
  have mn : (mtA s).2.2 = cU (mtA s).1 := mtc_n vg 12 mt0 rfl
  rw [show mtc s 12 mt0 = mtA s from rfl] at mi
  have cb := cU_b (mtA s).1
  have ss := gF_s vg vd mi 12
  rw [show sm (cF (mtA s).1) 12 = (mtA s).2.2 from mn.symm] at ss
  have v1 := vg.1
  have := fu_gt
  have kC := c_wm_L vg vd a3 a2.1 mi (s 15).toNat fu 0 (by omega) (by omega)
  rw [show ((0 : Nat) : Int) = 0 from rfl, show sm (gF s (mtA s).1) 0 = 0 from rfl] at kC
  unfold f_X4_mean f_X0_worthOfMatched vM
  rw [a1, bd_s, a2.2]
  unfold lv
  dsimp only
  by_cases c : (mtA s).2.2 = 0
  · rw [if_neg (by omega), if_pos c]
    exact Rd.of R rfl a4.t
  · obtain ⟨m1, m2⟩ := mean_v (y := sm (gF s (mtA s).1) 12) (n := (mtA s).2.2) (h := h1) (by omega) (by omega) ss.1 ss.2
    rw [if_pos (by omega), kC, bd_s, show FP.fdiv (FP.i2f (Int32.ofInt (sm (gF s (mtA s).1) 12))) (FP.i2f (Int32.ofInt (mtA s).2.2)) = fx (sm (gF s (mtA s).1) 12) (mtA s).2.2 from rfl, if_pos m1, m2, bd_s, if_neg c]
    exact Rd.of R rfl a4.t
end Reads26

/-! the two ways of matching: both leave no pair that is ahead of what its two are in; so they are the same -/
section Stable26
/-- pair j is ahead of pair k -/
def aH (s : Rw) (j k : Nat) : Prop := ptP s k < ptP s j ∨ (ptP s j = ptP s k ∧ j < k)
/-- pair k is matched -/
abbrev PM (U : Rw) (k : Nat) : Prop := U (k / 12) = ((k % 12 : Nat) : Int)
def Sta (s U : Rw) : Prop := ∀ k, k < 144 → suP s k → ¬ PM U k → ∃ j, j < 144 ∧ suP s j ∧ PM U j ∧ aH s j k ∧ (j / 12 = k / 12 ∨ j % 12 = k % 12)
theorem pm_su {s : Rw} {q : MgQ} {k : Nat} (hI : MgI s q) (h : PM q.1 k) : suP s k := by
  rcases hI (k / 12) with r | r
  · have h' : q.1 (k / 12) = ((k % 12 : Nat) : Int) := h
    omega
  · have h' : q.1 (k / 12) = ((k % 12 : Nat) : Int) := h
    obtain ⟨r1, r2, r3, r4, r5⟩ := r
    rw [h', show (((k % 12 : Nat) : Int)).toNat = k % 12 by omega] at r4
    exact ⟨⟨r3, by omega⟩, r4⟩
theorem pm_one {s : Rw} {q : MgQ} {j k : Nat} (hI : MgI s q) (a : PM q.1 j) (b : PM q.1 k) (h : j / 12 = k / 12 ∨ j % 12 = k % 12) : j = k := by
  have a' : q.1 (j / 12) = ((j % 12 : Nat) : Int) := a
  have b' : q.1 (k / 12) = ((k % 12 : Nat) : Int) := b
  rcases h with h | h
  · rw [h, b'] at a'
    omega
  · rcases hI (j / 12) with r | r
    · omega
    · rcases hI (k / 12) with t | t
      · omega
      · have r5 := r.2.2.2.2
        have t5 := t.2.2.2.2
        rw [a', show (((j % 12 : Nat) : Int)).toNat = j % 12 by omega] at r5
        rw [b', show (((k % 12 : Nat) : Int)).toNat = k % 12 by omega] at t5
        rw [h, t5] at r5
        omega
def mu (s : Rw) (k : Nat) : Nat := (60 - ptP s k).toNat * 144 + k
theorem pt_b {N : Int} {s : Rw} {k : Nat} (hV : Vn s) (hD : Vd N s) (h : suP s k) : 1 ≤ ptP s k ∧ ptP s k ≤ 52 := by
  have a := r81_su hD.2.2 h
  have b := pts_b hV hD h.1.1 h.1.2
  exact ⟨by omega, b⟩
theorem mu_lt {N : Int} {s : Rw} {j k : Nat} (hV : Vn s) (hD : Vd N s) (hj : suP s j) (hk : suP s k) (j144 : j < 144) (h : aH s j k) : mu s j < mu s k := by
  have a := pt_b hV hD hj
  have b := pt_b hV hD hk
  unfold mu
  rcases h with h | ⟨h1, h2⟩
  · have : (60 - ptP s j).toNat + 1 ≤ (60 - ptP s k).toNat := by omega
    omega
  · rw [h1]
    omega
theorem sta_uniq {N : Int} {s : Rw} {q q' : MgQ} (hV : Vn s) (hD : Vd N s) (hI : MgI s q) (hI' : MgI s q') (h : Sta s q.1) (h' : Sta s q'.1) : ∀ (m k : Nat), mu s k < m → k < 144 → (PM q.1 k ↔ PM q'.1 k) := by
  intro m
  induction m with
  | zero => intro k hk; omega
  | succ m ih =>
    intro k hk k144
    constructor
    · intro a
      by_cases c : PM q'.1 k
      · exact c
      · exfalso
        have sk := pm_su hI a
        obtain ⟨j, j1, j2, j3, j4, j5⟩ := h' k k144 sk c
        have l := mu_lt hV hD j2 sk j1 j4
        have b := (ih j (by omega) j1).mpr j3
        have e := pm_one hI b a j5
        rw [e] at l
        omega
    · intro a
      by_cases c : PM q.1 k
      · exact c
      · exfalso
        have sk := pm_su hI' a
        obtain ⟨j, j1, j2, j3, j4, j5⟩ := h k k144 sk c
        have l := mu_lt hV hD j2 sk j1 j4
        have b := (ih j (by omega) j1).mp j3
        have e := pm_one hI' b a j5
        rw [e] at l
        omega
theorem cU_eq {U U' : Rw} : ∀ n : Nat, (∀ u, u < n → (U u = -1 ↔ U' u = -1)) → sm (cF U) n = sm (cF U') n := by
  intro n
  induction n with
  | zero => intro _; rfl
  | succ n ih =>
    intro h
    rw [sm_s, sm_s, ih (fun u hu => h u (by omega))]
    have := h n (by omega)
    unfold cF
    by_cases c : U n = -1
    · rw [if_pos c, if_pos (this.mp c)]
    · rw [if_neg c, if_neg (fun z => c (this.mpr z))]
theorem mg_range {s : Rw} {q : MgQ} (hV : Vn s) (hI : MgI s q) (u : Nat) : q.1 u = -1 ∨ (u < 12 ∧ ∃ c : Nat, c < 12 ∧ q.1 u = c) := by
  have v1 := hV.1
  have v2 := hV.2.1
  rcases hI u with r | r
  · exact Or.inl r
  · exact Or.inr ⟨by omega, (q.1 u).toNat, by omega, by omega⟩
theorem sta_same {N : Int} {s : Rw} {q q' : MgQ} (hV : Vn s) (hD : Vd N s) (hI : MgI s q) (hI' : MgI s q') (h : Sta s q.1) (h' : Sta s q'.1) : cU q.1 = cU q'.1 := by
  unfold cU
  refine cU_eq 12 (fun u hu => ?_)
  have key : ∀ (p p' : MgQ), MgI s p → MgI s p' → Sta s p.1 → Sta s p'.1 → p.1 u ≠ -1 → p'.1 u ≠ -1 := fun p p' i i' st st' z => by
    rcases mg_range hV i u with r | ⟨-, c, r1, r2⟩
    · exact absurd r z
    · have d := dv (u := u) (c := c) (by omega)
      have pm : PM p.1 (12 * u + c) := by
        show p.1 ((12 * u + c) / 12) = (((12 * u + c) % 12 : Nat) : Int)
        rw [d.1, d.2]
        exact r2
      have k := (sta_uniq hV hD i i' st st' (mu s (12 * u + c) + 1) (12 * u + c) (by omega) (by omega)).mp pm
      have k' : p'.1 ((12 * u + c) / 12) = (((12 * u + c) % 12 : Nat) : Int) := k
      rw [d.1, d.2] at k'
      omega
  constructor
  · intro z
    by_cases c : q'.1 u = -1
    · exact c
    · exact absurd z (key q' q hI' hI h' h c)
  · intro z
    by_cases c : q.1 u = -1
    · exact c
    · exact absurd z (key q q' hI hI' h h' c)
/-! the greedy way -/
def GI (s : Rw) (q : MgQ) : Prop := ∀ k, k < 144 → suP s k → (q.1 (k / 12) ≠ -1 ∨ q.2.1 (k % 12) ≠ -1) → PM q.1 k ∨ ∃ j, j < 144 ∧ suP s j ∧ PM q.1 j ∧ aH s j k ∧ (j / 12 = k / 12 ∨ j % 12 = k % 12)
theorem GI_stp {s : Rw} {q : MgQ} (g : GI s q) (c : bst s q ≠ -1) : GI s (stp (bst s q).toNat q) := by
  rcases bst_b s q with b | b
  · exact absurd b c
  obtain ⟨b0, b1, b2⟩ := b
  intro k hk sk ne
  have keep : ∀ j, PM q.1 j → PM (stp (bst s q).toNat q).1 j := fun j hj => by
    have hj' : q.1 (j / 12) = ((j % 12 : Nat) : Int) := hj
    show gup q.1 ((bst s q).toNat / 12) _ (j / 12) = _
    rw [gup_far (fun z => by rw [z, b2.2.1] at hj'; omega)]
    exact hj
  by_cases el : q.1 (k / 12) = -1 ∧ q.2.1 (k % 12) = -1
  · have bb := bes_best (s := s) (U := q.1) (C := q.2.1) 144 k hk ⟨sk, el.1, el.2⟩
    rw [show bes s q.1 q.2.1 144 = bst s q from rfl] at bb
    have new : PM (stp (bst s q).toNat q).1 (bst s q).toNat := by
      show gup q.1 ((bst s q).toNat / 12) (((bst s q).toNat % 12 : Nat) : Int) ((bst s q).toNat / 12) = _
      rw [gup_same]
    rcases bb.2 with e | e
    · left
      rw [e]
      exact new
    · right
      refine ⟨(bst s q).toNat, by omega, b2.1, new, ?_, ?_⟩
      · rcases e with e | e
        · exact Or.inl e
        · exact Or.inr ⟨e.1.symm, e.2⟩
      · by_cases z1 : (bst s q).toNat / 12 = k / 12
        · exact Or.inl z1
        · right
          rcases ne with ne | ne
          · exfalso
            apply ne
            show gup q.1 ((bst s q).toNat / 12) _ (k / 12) = -1
            rw [gup_far (fun z => z1 z.symm)]
            exact el.1
          · by_cases z2 : (bst s q).toNat % 12 = k % 12
            · exact z2
            · exfalso
              apply ne
              show gup q.2.1 ((bst s q).toNat % 12) _ (k % 12) = -1
              rw [gup_far (fun z => z2 z.symm)]
              exact el.2
  · rcases g k hk sk (by
      by_cases z : q.1 (k / 12) = -1
      · exact Or.inr (fun z2 => el ⟨z, z2⟩)
      · exact Or.inl z) with r | ⟨j, j1, j2, j3, j4, j5⟩
    · exact Or.inl (keep k r)
    · exact Or.inr ⟨j, j1, j2, keep j j3, j4, j5⟩
theorem GI_mtc {s : Rw} : ∀ (n : Nat) (q : MgQ), GI s q → GI s (mtc s n q) := by
  intro n
  induction n with
  | zero => intro q g; exact g
  | succ n ih =>
    intro q g
    rw [mtc_step]
    by_cases c : bst s q = -1
    · rw [if_pos c]; exact g
    · rw [if_neg c]
      exact ih _ (GI_stp g c)
theorem mtA_I (s : Rw) : MgI s (mtA s) ∧ MgJ s (mtA s) := by
  obtain ⟨I, J⟩ := mt0_I s
  exact mtc_I 12 mt0 I J
theorem mtA_sta {s : Rw} (hV : Vn s) : Sta s (mtA s).1 := by
  intro k hk sk np
  have g : GI s (mtA s) := GI_mtc 12 mt0 (fun k _ _ z => by
    rcases z with z | z
    · exact absurd rfl z
    · exact absurd rfl z)
  have e : bst s (mtA s) = -1 := mtc_end hV 12 mt0 (by decide)
  have ne : (mtA s).1 (k / 12) ≠ -1 ∨ (mtA s).2.1 (k % 12) ≠ -1 := by
    by_cases z : (mtA s).1 (k / 12) = -1
    · right
      intro z2
      exact (bes_best (s := s) (U := (mtA s).1) (C := (mtA s).2.1) 144 k hk ⟨sk, z, z2⟩).1 e
    · exact Or.inl z
  rcases g k hk sk ne with r | r
  · exact absurd r np
  · exact r
/-! the way of the claims that ask -/
theorem nx_all {s : Rw} {c : Nat} {a : Int} (h0 : 0 ≤ a) (x : nx s c a = -1) : ∀ (m u : Nat), u < 12 → su s c u → rk s c u < m → rk s c u < a := by
  intro m
  induction m with
  | zero =>
    intro u hu hs h
    have := rk_b s c u
    omega
  | succ m ih =>
    intro u hu hs h
    by_cases z : rk s c u < a
    · exact z
    · exfalso
      have e := rk_min (s := s) (c := c) (w := u) (a := a) h0 (by omega) (fun v hv b => ih v hv b.1 (by
        have := rk_lt (s := s) (c := c) hv b
        omega))
      rcases nx_b (s := s) (c := c) (a := a) with r | r
      · exact r.2 u hu hs e
      · omega
theorem ask_sta {N : Int} {s A U C : Rw} (hV : Vn s) (hD : Vd N s) (hI : MgI s (U, C, cU U)) (hJ : MgJ s (U, C, cU U)) (b : BR s A U C) (h0 : ∀ j, 0 ≤ A j) (ok : ∀ j : Nat, (j : Int) < s 16 → OKc s A C j) : Sta s U := by
  intro k hk sk np
  have hS := hD.2.2
  have v1 := hV.1
  have v2 := hV.2.1
  have k1 := sk.1.1
  have k2 := sk.1.2
  obtain ⟨u, hu⟩ : ∃ u, u = k / 12 := ⟨_, rfl⟩
  obtain ⟨c, hc⟩ : ∃ c, c = k % 12 := ⟨_, rfl⟩
  have ek : k = 12 * u + c := by omega
  have u12 : u < 12 := by omega
  have c12 : c < 12 := by omega
  have np' : U u ≠ (c : Int) := by
    rw [hu, hc]
    exact np
  have su1 : su s c u := (su_is hS).mpr (by rw [← ek]; exact sk)
  have ptk : r81 s (12 * u + c) = ptP s k := by
    rw [← ek]
    exact (r81_su hS sk).2
  -- asked and let go, or never held
  have asked : rk s c u < A c → ∃ j, j < 144 ∧ suP s j ∧ PM U j ∧ aH s j k ∧ (j / 12 = k / 12 ∨ j % 12 = k % 12) := fun q => by
    obtain ⟨d, d1, d2⟩ := b.1 u c u12 c12 su1 q
    rcases d2 with d2 | d2
    · exact absurd (by rw [d1, d2]) np'
    · rcases hI u with r | r
      · have r' : U u = -1 := r
        omega
      · have r2 : U u < s 16 := r.2.1
        have d12 : d < 12 := by omega
        have dd := dv (u := u) (c := d) d12
        have pm : PM U (12 * u + d) := by
          show U ((12 * u + d) / 12) = (((12 * u + d) % 12 : Nat) : Int)
          rw [dd.1, dd.2]
          exact d1
        have sj : suP s (12 * u + d) := pm_su hI pm
        have pj := (r81_su hS sj).2
        refine ⟨12 * u + d, by omega, sj, pm, ?_, Or.inl (by rw [dd.1]; exact hu)⟩
        unfold acc at d2
        unfold aH
        rw [pj, ptk] at d2
        omega
  by_cases cc : C c = -1
  · rcases ok c (by omega) with z | z
    · exact absurd cc z
    · exact asked (nx_all (h0 c) z ((rk s c u).toNat + 1) u u12 su1 (by have := rk_b s c u; omega))
  · rcases hJ c with r | r
    · exact absurd r cc
    · have r0 : 0 ≤ C c := r.1
      have r1 : C c < s 15 := r.2.1
      have r3 : U (C c).toNat = c := r.2.2.2
      obtain ⟨w, hw⟩ : ∃ w : Nat, C c = w := ⟨(C c).toNat, by omega⟩
      have w12 : w < 12 := by omega
      have bw := b.2 c c12 cc
      rw [hw, show ((w : Int)).toNat = w by omega] at r3 bw
      have dd := dv (u := w) (c := c) c12
      have pm : PM U (12 * w + c) := by
        show U ((12 * w + c) / 12) = (((12 * w + c) % 12 : Nat) : Int)
        rw [dd.1, dd.2]
        exact r3
      have sj : suP s (12 * w + c) := pm_su hI pm
      have pj := (r81_su hS sj).2
      have sw : su s c w := (su_is hS).mpr sj
      have uw : u ≠ w := fun z => np' (by rw [z]; exact r3)
      rcases bt_tot su1 sw uw with t | t
      · exact asked (by have := rk_lt (s := s) (c := c) u12 t; omega)
      · refine ⟨12 * w + c, by omega, sj, pm, ?_, Or.inr (by rw [dd.2]; exact hc)⟩
        have t2 := t.2
        unfold aH
        rw [pj, ptk] at t2
        omega
/-- asking and matching by points: as many pairs -/
theorem ask_num {N : Int} {s A U C : Rw} (hV : Vn s) (hD : Vd N s) (hI : MgI s (U, C, cU U)) (hJ : MgJ s (U, C, cU U)) (b : BR s A U C) (h0 : ∀ j, 0 ≤ A j) (ok : ∀ j : Nat, (j : Int) < s 16 → OKc s A C j) : cU U = (mtA s).2.2 := by
  rw [show (mtA s).2.2 = cU (mtA s).1 from mtc_n hV 12 mt0 rfl]
  exact sta_same (q := (U, C, cU U)) (q' := mtA s) hV hD hI (mtA_I s).1 (ask_sta hV hD hI hJ b h0 ok) (mtA_sta hV)
/-- a heap whose row 77 is the office: the model's, for the numbers alone -/
def shd (s : Rw) : Hp := fun a k => if a = 77 then s k else 0
theorem shd_g (s : Rw) : gsl (shd s 77) (Int.toNat 0) = s := by
  funext k
  show shd s 77 (0 + k) = s k
  rw [Nat.zero_add]
  rfl
theorem q_asking {n : Nat} {N : Int} {S : Nat → Rw} {h : Hp} (hN : N ≤ 1000000) (R : St n N S h) : ∃ h', f_X0_matchByAsking 1 h = some (0, h') ∧ h' 19 9 = (mtA (S 0)).2.2 ∧ FrS h h' := by
  obtain ⟨vg, vd, v0⟩ := R.2.2.2.2.1
  obtain ⟨r, h1, h2, a1, a2, a3, -, -, A, U, C, e, I, J, b, h0, ok⟩ := asking vg vd hN R.2.2.2.1 (shd_g (S 0))
  exact ⟨h1, a1, by rw [a2, e]; exact ask_num vg vd I J b h0 ok, a3⟩
/-! the numbers told by count -/
noncomputable def vQ (s : Rw) (n : Nat) (x : Int) : Int :=
  if x = 0 then s 0 else if x = 1 then s 15 else if x = 2 then s 16 else if x = 3 ∨ x = 4 then (mtA s).2.2 else if 5 ≤ x ∧ x ≤ 11 then s (3 + x.toNat) else if x = 12 then s 17 else if x = 13 then n
  else if 20 ≤ x ∧ x ≤ 26 then s (x.toNat - 19) else -1000001
theorem q_count {n : Nat} {N x : Int} {S : Nat → Rw} {h : Hp} (hN : N ≤ 1000000) (hx : x ≠ 14) (R : St n N S h) : Rd n N S h (f_X4_count x h) (vQ (S 0) n x) := by
  obtain ⟨vg, vd, v0⟩ := R.2.2.2.2.1
  have sr := R.2.2.2.1
  have n4 := R.2.1
  have cl : ¬ (20 ≤ x ∧ x ≤ 26) → f_X4_count x h = f_X4_count_J13 x h := fun p => by
    unfold f_X4_count
    by_cases c : x < 20
    · rw [if_pos c]
    · rw [if_neg c, if_pos (by omega)]
  generalize hs : S 0 = s at *
  by_cases p : 20 ≤ x ∧ x ≤ 26
  · unfold vQ f_X4_count
    rw [if_neg (show ¬ x = 0 by omega), if_neg (show ¬ x = 1 by omega), if_neg (show ¬ x = 2 by omega), if_neg (show ¬ (x = 3 ∨ x = 4) by omega), if_neg (show ¬ (5 ≤ x ∧ x ≤ 11) by omega), if_neg (show ¬ x = 12 by omega), if_neg (show ¬ x = 13 by omega), if_pos p, if_neg (by omega), if_neg (by omega), wr_id (by omega) (by omega), p_setting (by omega) (by omega), bd_s, show h (1 + 7) (x - 20).toNat = s (1 + (x - 20).toNat) from sr.2.2.2.1 _ (by omega), show 1 + (x - 20).toNat = x.toNat - 19 by omega]
    exact Rd.of R rfl FrT.rf
  have sumv : ∀ k : Nat, k < 7 → h (1 + 8) (5 + k) = s (8 + k) := fun k hk => sr.2.2.2.2.2 k hk
  rw [cl p]
  unfold f_X4_count_J13 vQ
  by_cases c1 : x = 1
  · rw [if_pos c1, if_neg (show ¬ x = 0 by omega), if_pos c1, show h 2 1 = s 15 from sr.1.1]
    exact Rd.of R rfl FrT.rf
  rw [if_neg c1]
  by_cases c2 : x = 2
  · rw [if_pos c2, if_neg (show ¬ x = 0 by omega), if_neg c1, if_pos c2, show h 4 1 = s 16 from sr.2.1.1]
    exact Rd.of R rfl FrT.rf
  rw [if_neg c2]
  by_cases c3 : x = 3
  · obtain ⟨h1, a1, a2, a3, a4⟩ := c_matchAll (o := 1) (by omega) vg vd hN sr
    rw [if_pos c3, if_neg (show ¬ x = 0 by omega), if_neg c1, if_neg c2, if_pos (Or.inl c3), a1, bd_s, a2.2]
    exact Rd.of R rfl a4.t
  rw [if_neg c3]
  by_cases c4 : x = 4
  · obtain ⟨h1, a1, a2, a3⟩ := q_asking hN R
    rw [if_pos c4, if_neg (show ¬ x = 0 by omega), if_neg c1, if_neg c2, if_pos (Or.inr c4), a1, bd_s, a2, hs]
    exact Rd.of R rfl a3.t
  rw [if_neg c4]
  have n34 : ¬ (x = 3 ∨ x = 4) := by omega
  by_cases c5 : x = 5
  · rw [if_pos c5, if_neg (show ¬ x < 0 by omega), if_neg (show ¬ 12 ≤ x by omega), p_sum (by omega) (by omega), bd_s, if_neg (show ¬ x = 0 by omega), if_neg c1, if_neg c2, if_neg n34, if_pos (show 5 ≤ x ∧ x ≤ 11 by omega), show x.toNat = 5 + 0 by omega, sumv 0 (by omega)]
    exact Rd.of R rfl FrT.rf
  rw [if_neg c5]
  by_cases c6 : x = 6
  · rw [if_pos c6, if_neg (show ¬ x < 0 by omega), if_neg (show ¬ 12 ≤ x by omega), p_sum (by omega) (by omega), bd_s, if_neg (show ¬ x = 0 by omega), if_neg c1, if_neg c2, if_neg n34, if_pos (show 5 ≤ x ∧ x ≤ 11 by omega), show x.toNat = 5 + 1 by omega, sumv 1 (by omega)]
    exact Rd.of R rfl FrT.rf
  rw [if_neg c6]
  by_cases c7 : x = 7
  · rw [if_pos c7, if_neg (show ¬ x < 0 by omega), if_neg (show ¬ 12 ≤ x by omega), p_sum (by omega) (by omega), bd_s, if_neg (show ¬ x = 0 by omega), if_neg c1, if_neg c2, if_neg n34, if_pos (show 5 ≤ x ∧ x ≤ 11 by omega), show x.toNat = 5 + 2 by omega, sumv 2 (by omega)]
    exact Rd.of R rfl FrT.rf
  rw [if_neg c7]
  by_cases c8 : x = 8
  · rw [if_pos c8, if_neg (show ¬ x < 0 by omega), if_neg (show ¬ 12 ≤ x by omega), p_sum (by omega) (by omega), bd_s, if_neg (show ¬ x = 0 by omega), if_neg c1, if_neg c2, if_neg n34, if_pos (show 5 ≤ x ∧ x ≤ 11 by omega), show x.toNat = 5 + 3 by omega, sumv 3 (by omega)]
    exact Rd.of R rfl FrT.rf
  rw [if_neg c8]
  by_cases c9 : x = 9
  · rw [if_pos c9, if_neg (show ¬ x < 0 by omega), if_neg (show ¬ 12 ≤ x by omega), p_sum (by omega) (by omega), bd_s, if_neg (show ¬ x = 0 by omega), if_neg c1, if_neg c2, if_neg n34, if_pos (show 5 ≤ x ∧ x ≤ 11 by omega), show x.toNat = 5 + 4 by omega, sumv 4 (by omega)]
    exact Rd.of R rfl FrT.rf
  rw [if_neg c9]
  by_cases c10 : x = 10
  · rw [if_pos c10, if_neg (show ¬ x < 0 by omega), if_neg (show ¬ 12 ≤ x by omega), p_sum (by omega) (by omega), bd_s, if_neg (show ¬ x = 0 by omega), if_neg c1, if_neg c2, if_neg n34, if_pos (show 5 ≤ x ∧ x ≤ 11 by omega), show x.toNat = 5 + 5 by omega, sumv 5 (by omega)]
    exact Rd.of R rfl FrT.rf
  rw [if_neg c10]
  by_cases c11 : x = 11
  · rw [if_pos c11, if_neg (show ¬ x < 0 by omega), if_neg (show ¬ 12 ≤ x by omega), p_sum (by omega) (by omega), bd_s, if_neg (show ¬ x = 0 by omega), if_neg c1, if_neg c2, if_neg n34, if_pos (show 5 ≤ x ∧ x ≤ 11 by omega), show x.toNat = 5 + 6 by omega, sumv 6 (by omega)]
    exact Rd.of R rfl FrT.rf
  rw [if_neg c11]
  have n511 : ¬ (5 ≤ x ∧ x ≤ 11) := by omega
  by_cases c12 : x = 12
  · rw [if_pos c12, if_neg (show ¬ x = 0 by omega), if_neg c1, if_neg c2, if_neg n34, if_neg n511, if_pos c12, show h 6 1 = s 17 from sr.2.2.1.1]
    exact Rd.of R rfl FrT.rf
  rw [if_neg c12]
  by_cases c13 : x = 13
  · rw [if_pos c13, if_neg (show ¬ x = 0 by omega), if_neg c1, if_neg c2, if_neg n34, if_neg n511, if_neg c12, if_pos c13, n4]
    exact Rd.of R rfl FrT.rf
  rw [if_neg c13, if_neg hx]
  by_cases c0 : x = 0
  · rw [if_neg (show ¬ x < 0 by omega), if_neg (show ¬ 12 ≤ x by omega), if_pos c0, p_sum (by omega) (by omega), bd_s, c0, show h (1 + 8) (Int.toNat 0) = s 0 from sr.2.2.2.2.1]
    exact Rd.of R rfl FrT.rf
  · rw [if_neg c0, if_neg c1, if_neg c2, if_neg n34, if_neg n511, if_neg c12, if_neg c13, if_neg p]
    by_cases c : x < 0
    · rw [if_pos c]
      exact Rd.of R rfl FrT.rf
    · rw [if_neg c, if_pos (show 12 ≤ x by omega)]
      exact Rd.of R rfl FrT.rf
theorem q_book {n : Nat} {N i c : Int} {S : Nat → Rw} {h : Hp} (hi : i ≤ 2147483647) (R : St n N S h) : Rd n N S h (f_X4_book i c h) (vB (S 0) i c) := by
  obtain ⟨vg, vd, v0⟩ := R.2.2.2.2.1
  have sr := R.2.2.2.1
  have v := vg.2.2
  have e17 : h 6 1 = S 0 17 := sr.2.2.1.1
  unfold f_X4_book vB
  by_cases c1 : i < 0
  · rw [if_pos c1, if_pos (Or.inl c1)]
    exact Rd.of R rfl FrT.rf
  rw [if_neg c1]
  by_cases c2 : c < 0
  · rw [if_pos c2, if_pos (Or.inr (Or.inl c2))]
    exact Rd.of R rfl FrT.rf
  rw [if_neg c2]
  by_cases c3 : c < 4
  · rw [if_pos c3, if_neg (show ¬ (i < 0 ∨ c < 0 ∨ 4 ≤ c) by omega), e17]
    unfold lv
    dsimp only
    rw [wr_id (z := S 0 17 - 1) (by omega) (by omega), wr_id (z := S 0 17 - 1 - i) (by omega) (by omega)]
    by_cases c4 : S 0 17 ≤ i
    · rw [if_neg (by omega), if_pos c4]
      exact Rd.of R rfl FrT.rf
    · rw [if_pos (by omega), if_neg c4, p_cell (by rw [e17]; omega), bd_s, e17, if_pos (by omega)]
      have := sr.2.2.1.2 (S 0 17 - 1 - i).toNat c.toNat (by omega) (by omega)
      rw [show ((S 0 17 - 1 - i) * 6 + c).toNat = 6 * (S 0 17 - 1 - i).toNat + c.toNat by omega]
      rw [show h (6 + 1) (6 * (S 0 17 - 1 - i).toNat + c.toNat) = S 0 (150 + 4 * (S 0 17 - 1 - i).toNat + c.toNat) from this]
      exact Rd.of R rfl FrT.rf
  · rw [if_neg c3, if_pos (show i < 0 ∨ c < 0 ∨ 4 ≤ c by omega)]
    exact Rd.of R rfl FrT.rf
end Stable26

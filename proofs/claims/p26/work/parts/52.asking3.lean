/-! the pure part: claims that ask: both to their ends -/
section Asking3
theorem FrX.tr {h h1 h2 : Hp} (a : FrX h h1) (b : FrX h1 h2) : FrX h h2 := fun x q1 q2 q3 q4 => (b x q1 q2 q3 q4).trans (a x q1 q2 q3 q4)
theorem FrX.up {h : Hp} {a k : Nat} {x : Int} (q : 79 ≤ a ∧ a ≤ 82) : FrX h (hup h a k x) := fun b _ _ _ _ => row_hup (by omega)
theorem FrX.rf {h : Hp} : FrX h h := fun _ _ _ _ _ => rfl
theorem c_21 {s A U C : Rw} {o c i n w : Nat} {hC hC' hM : Hp} (hV : Vn s) (hS : sok s) (a : AR s i A U C hC hM) (i144 : i < 144) (hc : (c : Int) < s 16) (q : ∀ j, j < c → OKc s A C j) (e : C c = -1) (x : nx s c (A c) = w) (k : f_X0_askFor ((12 * w + c : Nat) : Int) hC = some (0, hC')) :
    f_X0_matchByAsking_L21 o (n + 1) (i : Int) hC = f_X0_matchByAsking_L21 o n ((i + 1 : Nat) : Int) hC' := by
  obtain ⟨⟨a1, a2, a3⟩, a4, ⟨aI, aJ⟩, a7, a8, a9⟩ := a
  have g := c_na hV hS a1 a2.1 a3 hc a8 q e (by rw [x]; omega)
  rw [x, show 12 * (w : Int) + (c : Int) = ((12 * w + c : Nat) : Int) by omega] at g
  rw [f_X0_matchByAsking_L21_s, if_neg (by omega), g, bd_s, if_pos (by omega), k, bd_s, wr_id (by omega) (by omega), show (i : Int) + 1 = ((i + 1 : Nat) : Int) by omega]
def Post1 (s : Rw) (o : Nat) (c : Nat) (K : Int) (nC i : Nat) (A C : Rw) (hC hM : Hp) (r : Int) (nC' i' : Nat) (A' U' C' : Rw) (hC' hM' : Hp) : Prop :=
  f_X0_matchByAsking_L21 o nC (i : Int) hC = f_X0_matchByAsking_L21 o nC' (i' : Int) hC' ∧ AR s i' A' U' C' hC' hM' ∧ 145 ≤ nC' + i' ∧ FrS hC hC' ∧ FrX hM hM' ∧ OKc s A' C' c ∧ (∀ j : Nat, j ≠ c → (j : Int) ≠ r → C' j = C j ∧ A' j = A j) ∧
  ((r = -1 ∧ ∀ j, A' j ≤ K + 1) ∨ (0 ≤ r ∧ r < s 16 ∧ r ≠ c ∧ C' r.toNat = -1 ∧ C r.toNat ≠ -1 ∧ i < i' ∧ ∀ j, A' j ≤ K))
theorem A_le {A : Rw} {c : Nat} {K : Int} (h : ∀ j, A j ≤ K) (q : A c + 1 ≤ K) : ∀ j, gup A c (A c + 1) j ≤ K := fun j => by
  by_cases cj : j = c
  · rw [gup_eq cj]
    exact q
  · rw [gup_far cj]
    exact h j
theorem ask_1 {N K : Int} {s : Rw} {o : Nat} (hV : Vn s) (hD : Vd N s) (hK : 13 ≤ K ∧ K ≤ 1000) {c : Nat} (hc : (c : Int) < s 16) : ∀ (m n nC i : Nat) (A U C : Rw) (hC hM : Hp), AR s i A U C hC hM → C c = -1 → (∀ j, j < c → OKc s A C j) → 13 ≤ A c + m → m < n → (∀ j, A j ≤ K) → 145 ≤ nC + i →
    ∃ r nC' i' A' U' C' hC' hM', (bd (f_X5_asks (c : Int) hM) fun r1 h1 => f_X5_asksOn_L4 (c : Int) n r1 h1) = some (r, hM') ∧ Post1 s o c K nC i A C hC hM r nC' i' A' U' C' hC' hM' := by
  have hS := hD.2.2
  have v1 := hV.1
  have v2 := hV.2.1
  intro m
  induction m with
  | zero =>
    intro n nC i A U C hC hM a e q hm hn hA hF
    obtain ⟨n, rfl⟩ : ∃ n', n = n' + 1 := ⟨n - 1, by omega⟩
    have hAc := hA c
    rcases nx_b (s := s) (c := c) (a := A c) with r | r
    · have g := m_asks hV hD a.2.1.1 (by omega) (a.2.1.2 c (by omega)).2 (a.2.2.2.2.1 c) (by omega)
      rw [r.1] at g
      rw [g, bd_s, f_X5_asksOn_L4_s, if_pos rfl]
      refine ⟨-1, nC, i, gup A c (A c + 1), U, C, hC, _, rfl, rfl, a.no hS (by omega) r.1, hF, FrS.rf, FrX.up (by omega), Or.inr ?_, fun j j1 _ => ⟨rfl, gup_far j1⟩, Or.inl ⟨rfl, A_le (fun j => by have := hA j; omega) (by omega)⟩⟩
      rw [gup_same]
      rcases nx_b (s := s) (c := c) (a := A c + 1) with z | z
      · exact z.1
      · have := rk_b s c (nx s c (A c + 1)).toNat
        omega
    · have := rk_b s c (nx s c (A c)).toNat
      omega
  | succ m ih =>
    intro n nC i A U C hC hM a e q hm hn hA hF
    obtain ⟨n, rfl⟩ : ∃ n', n = n' + 1 := ⟨n - 1, by omega⟩
    have hAc := hA c
    have g := m_asks hV hD a.2.1.1 (by omega) (a.2.1.2 c (by omega)).2 (a.2.2.2.2.1 c) (by omega)
    rcases nx_b (s := s) (c := c) (a := A c) with r | r
    · rw [r.1] at g
      rw [g, bd_s, f_X5_asksOn_L4_s, if_pos rfl]
      refine ⟨-1, nC, i, gup A c (A c + 1), U, C, hC, _, rfl, rfl, a.no hS (by omega) r.1, hF, FrS.rf, FrX.up (by omega), Or.inr ?_, fun j j1 _ => ⟨rfl, gup_far j1⟩, Or.inl ⟨rfl, A_le (fun j => by have := hA j; omega) (by omega)⟩⟩
      rw [gup_same]
      rcases nx_b (s := s) (c := c) (a := A c + 1) with z | z
      · exact z.1
      · have k1 := rk_lt (s := s) (c := c) (v := (nx s c (A c + 1)).toNat) (w := 0)
        by_cases y : ∃ v, v < 12 ∧ su s c v ∧ rk s c v = A c
        · obtain ⟨v, y1, y2, y3⟩ := y
          exact absurd y3 (r.2 v y1 y2)
        · have t := rk_min (s := s) (c := c) (w := (nx s c (A c + 1)).toNat) (a := A c) (a.2.2.2.2.1 c) (by omega) (fun u hu b => by
            by_cases x : rk s c u < A c
            · exact x
            · have := rk_lt (s := s) (c := c) hu b
              exact absurd ⟨u, hu, b.1, by omega⟩ y)
          omega
    · obtain ⟨w, hw⟩ : ∃ w : Nat, nx s c (A c) = w := ⟨(nx s c (A c)).toNat, by omega⟩
      rw [hw] at r g
      rw [show ((w : Int)).toNat = w by omega] at r
      have rb := rk_b s c w
      have d := dv (u := w) (c := c) (by omega)
      have i144 : i < 144 := by
        have u := aF_up hS (by omega) hw
        have b := sm_b1 (aF_b s (gup A c (A c + 1))) 144
        have := a.2.2.2.1
        omega
      obtain ⟨nC, rfl⟩ : ∃ n', nC = n' + 1 := ⟨nC - 1, by omega⟩
      have spc : suP s (12 * w + c) := (su_is hS).mp r.2.2.1
      obtain ⟨w1, w2⟩ := m_up (c := c) a.2.1
      have iw : inb (w : Int) 12 := by unfold inb; omega
      have ec : wr ((wr (12 * (w : Int))) + (c : Int)) = ((12 * w + c : Nat) : Int) := by
        rw [wr_id (z := 12 * (w : Int)) (by omega) (by omega), wr_id (by omega) (by omega)]
        omega
      have ic : inb ((12 * w + c : Nat) : Int) 144 := by unfold inb; omega
      rw [g, bd_s, f_X5_asksOn_L4_s, if_neg (by omega), if_pos iw, show ((w : Int)).toNat = w by omega, (w2 w (by omega)).1]
      unfold lv
      dsimp only
      rw [ec, if_pos ic, show (((12 * w + c : Nat) : Int)).toNat = 12 * w + c by omega, w1 _ (by omega)]
      by_cases ud : U w = -1
      · obtain ⟨h', k1, k2, k3⟩ := AR_free hV hS a hc e hw ud
        rw [if_neg (show ¬ ¬ U w = -1 by omega), ud]
        unfold f_X5_asksOn_J34 lt
        dsimp only
        rw [if_pos rfl, if_pos iw, show ((w : Int)).toNat = w by omega]
        refine ⟨-1, nC, i + 1, _, _, _, h', _, rfl, c_21 hV hS a i144 hc q e hw k1, k2, by omega, k3, (FrX.up (by omega)).tr (FrX.up (by omega)), Or.inl (by rw [gup_same]; omega), fun j j1 _ => ⟨gup_far j1, gup_far j1⟩, Or.inl ⟨rfl, A_le (fun j => by have := hA j; omega) (by omega)⟩⟩
      · rcases a.2.2.1.1 w with I | I
        · have I1 : U w = -1 := I
          exact absurd I1 ud
        obtain ⟨I1, I2, I3, I4, I5⟩ := I
        have I1' : 0 ≤ U w := I1
        have I2' : U w < s 16 := I2
        obtain ⟨dd, hd⟩ : ∃ dd : Nat, U w = dd := ⟨(U w).toNat, by omega⟩
        have I4' : sut s w (U w).toNat := I4
        rw [hd, show ((dd : Int)).toNat = dd by omega] at I4'
        have d2 := dv (u := w) (c := dd) (by omega)
        have spd : suP s (12 * w + dd) := ⟨⟨by rw [d2.1]; exact I3, by rw [d2.2]; omega⟩, by rw [d2.1, d2.2]; exact I4'⟩
        have ed : wr ((wr (12 * (w : Int))) + (dd : Int)) = ((12 * w + dd : Nat) : Int) := by
          rw [wr_id (z := 12 * (w : Int)) (by omega) (by omega), wr_id (by omega) (by omega)]
          omega
        have id : inb ((12 * w + dd : Nat) : Int) 144 := by unfold inb; omega
        rw [if_pos ud, hd, ed, if_pos id, show (((12 * w + dd : Nat) : Int)).toNat = 12 * w + dd by omega, w1 _ (by omega)]
        have yes : acc s w c dd → ∃ r nC' i' A' U' C' hC' hM', (if inb (w : Int) 12 then lt (hup (hup hM 82 c (A c + 1)) 79 (Int.toNat (w : Int)) (c : Int)) fun h5 => some ((dd : Int), h5) else none) = some (r, hM') ∧ Post1 s o c K (nC + 1) i A C hC hM r nC' i' A' U' C' hC' hM' := fun ya => by
          obtain ⟨h', k1, k2, k3, k4, k5, k6⟩ := AR_swap hV hS a hc e hw hd ya
          unfold lt
          dsimp only
          rw [if_pos iw, show ((w : Int)).toNat = w by omega]
          refine ⟨(dd : Int), nC, i + 1, _, _, _, h', _, rfl, c_21 hV hS a i144 hc q e hw k1, k2, by omega, k3, (FrX.up (by omega)).tr (FrX.up (by omega)), Or.inl (by rw [gup_same]; omega), fun j j1 j2 => ⟨?_, gup_far j1⟩, Or.inr ⟨by omega, k6, by omega, ?_, ?_, by omega, A_le hA (by omega)⟩⟩
          · rw [gup_far j1, gup_far (by omega)]
          · rw [show ((dd : Int)).toNat = dd by omega, gup_far k4, gup_same]
          · rw [show ((dd : Int)).toNat = dd by omega, k5]
            omega
        have no : ¬ acc s w c dd → ∃ r nC' i' A' U' C' hC' hM', (bd (f_X5_asks (c : Int) (hup hM 82 c (A c + 1))) fun r1 h1 => f_X5_asksOn_L4 (c : Int) n r1 h1) = some (r, hM') ∧ Post1 s o c K (nC + 1) i A C hC hM r nC' i' A' U' C' hC' hM' := fun na => by
          obtain ⟨h', k1, k2, k3⟩ := AR_rej hV hS a hc e hw hd na
          obtain ⟨r', nC', i', A', U', C', hC', hM', z1, z2, z3, z4, z5, z6, z7, z8, z9⟩ := ih n nC (i + 1) (gup A c (A c + 1)) U C h' (hup hM 82 c (A c + 1)) k2 e (fun j hj => by
            rcases q j hj with y | y
            · exact Or.inl y
            · refine Or.inr ?_
              rw [gup_far (by omega)]
              exact y) (by rw [gup_same]; omega) (by omega) (A_le hA (by omega)) (by omega)
          refine ⟨r', nC', i', A', U', C', hC', hM', z1, (c_21 hV hS a i144 hc q e hw k1).trans z2, z3, z4, k3.tr z5, (FrX.up (by omega)).tr z6, z7, fun j j1 j2 => ?_, ?_⟩
          · obtain ⟨y1, y2⟩ := z8 j j1 j2
            exact ⟨y1, y2.trans (gup_far j1)⟩
          · rcases z9 with z | z
            · exact Or.inl z
            · exact Or.inr ⟨z.1, z.2.1, z.2.2.1, z.2.2.2.1, z.2.2.2.2.1, by omega, z.2.2.2.2.2.2⟩
        unfold f_X5_asksOn_J34
        rw [if_neg (show ¬ (dd : Int) = -1 by omega)]
        by_cases c1 : r81 s (12 * w + dd) < r81 s (12 * w + c)
        · rw [if_pos c1]
          exact yes (Or.inl c1)
        · rw [if_neg c1]
          by_cases c2 : r81 s (12 * w + c) = r81 s (12 * w + dd)
          · rw [if_neg (show ¬ ¬ r81 s (12 * w + c) = r81 s (12 * w + dd) by omega)]
            by_cases c3 : (dd : Int) ≤ (c : Int)
            · rw [if_pos c3]
              exact no (fun z => by unfold acc at z; omega)
            · rw [if_neg c3]
              exact yes (Or.inr ⟨by omega, by omega⟩)
          · rw [if_pos c2]
            exact no (fun z => by unfold acc at z; omega)
/-- until none is let go -/
theorem ask_2 {N K : Int} {s : Rw} {o : Nat} {c23 : Hp → Option (Int × Hp)} (hV : Vn s) (hD : Vd N s) (hK : 13 ≤ K ∧ K ≤ 999) {p : Nat} (hp : (p : Int) < s 16) : ∀ (m n nC i c : Nat) (A U C : Rw) (hC hM : Hp), AR s i A U C hC hM → c ≤ p → C c = -1 → (∀ j, j ≤ p → j ≠ c → OKc s A C j) → (∀ j, p < j → C j = -1) → 145 ≤ i + m → m + 1 < n → (∀ j, A j ≤ K) → 145 ≤ nC + i →
    ∃ (nC' i' : Nat) (A' U' C' : Rw) (hC' hM' : Hp), f_X5_byAsking_L15 0 (p : Int) c23 n (c : Int) hM = c23 hM' ∧ f_X0_matchByAsking_L21 o nC (i : Int) hC = f_X0_matchByAsking_L21 o nC' (i' : Int) hC' ∧ AR s i' A' U' C' hC' hM' ∧ 145 ≤ nC' + i' ∧ FrS hC hC' ∧ FrX hM hM' ∧ (∀ j, j ≤ p → OKc s A' C' j) ∧ (∀ j, p < j → C' j = -1) ∧ ∀ j, A' j ≤ K + 1 := by
  have v2 := hV.2.1
  intro m
  induction m with
  | zero =>
    intro n nC i c A U C hC hM a
    have := a.le
    intro _ _ _ _ h
    omega
  | succ m ih =>
    intro n nC i c A U C hC hM a cp e q1 q2 hm hn hA hF
    obtain ⟨n, rfl⟩ : ∃ n', n = n' + 1 := ⟨n - 1, by omega⟩
    have := fu_gt
    have cA := a.2.2.2.2.1 c
    obtain ⟨r, nC', i', A', U', C', hC', hM', z1, z2, z3, z4, z5, z6, z7, z8, z9⟩ := ask_1 (K := K) (o := o) hV hD (by omega) (c := c) (by omega) 13 fu nC i A U C hC hM a e (fun j hj => q1 j (by omega) (by omega)) (by omega) (by omega) hA hF
    have one : f_X5_asksOn (c : Int) hM = some (r, hM') := by
      unfold f_X5_asksOn
      exact z1
    rw [f_X5_byAsking_L15_s, if_neg (by omega), one, bd_s]
    rcases z9 with ⟨r1, r2⟩ | ⟨r1, r2, r3, r4, r5, r6, r7⟩
    · obtain ⟨n, rfl⟩ : ∃ n', n = n' + 1 := ⟨n - 1, by omega⟩
      rw [f_X5_byAsking_L15_s, if_pos r1]
      refine ⟨nC', i', A', U', C', hC', hM', rfl, z2, z3, z4, z5, z6, fun j hj => ?_, fun j hj => ?_, r2⟩
      · by_cases jc : j = c
        · rw [jc]
          exact z7
        · obtain ⟨y1, y2⟩ := z8 j jc (by omega)
          have := q1 j hj jc
          unfold OKc at this ⊢
          rw [y1, y2]
          exact this
      · rw [(z8 j (by omega) (by omega)).1]
        exact q2 j hj
    · obtain ⟨d, hd⟩ : ∃ d : Nat, r = d := ⟨r.toNat, by omega⟩
      rw [hd] at r1 r2 r3 r4 r5 z8 ⊢
      rw [show ((d : Int)).toNat = d by omega] at r4 r5
      have dp : d ≤ p := by
        by_cases x : d ≤ p
        · exact x
        · exact absurd (q2 d (by omega)) r5
      obtain ⟨nC2, i2, A2, U2, C2, hC2, hM2, y1, y2, y3, y4, y5, y6, y7, y8, y9⟩ := ih n nC' i' d A' U' C' hC' hM' z3 dp r4 (fun j hj jd => by
        by_cases jc : j = c
        · rw [jc]
          exact z7
        · obtain ⟨y1, y2⟩ := z8 j jc (by omega)
          have := q1 j hj jc
          unfold OKc at this ⊢
          rw [y1, y2]
          exact this) (fun j hj => by
        rw [(z8 j (by omega) (by omega)).1]
        exact q2 j hj) (by omega) (by omega) r7 z4
      exact ⟨nC2, i2, A2, U2, C2, hC2, hM2, y1, z2.trans y2, y3, y4, z5.tr y5, z6.tr y6, y7, y8, y9⟩
/-- all claims -/
theorem ask_3 {N : Int} {s : Rw} {o : Nat} {c25 : Hp → Option (Int × Hp)} (hV : Vn s) (hD : Vd N s) : ∀ (m n p nC i : Nat) (A U C : Rw) (hC hM : Hp), AR s i A U C hC hM → (p : Int) + m = s 16 → m < n → gsl (hM 77) (Int.toNat 0) = s → (∀ j, j < p → OKc s A C j) → (∀ j, p ≤ j → C j = -1) → (∀ j, A j ≤ 13 + p) → 145 ≤ nC + i →
    ∃ (i' : Nat) (A' U' C' : Rw) (hC' hM' : Hp), f_X5_byAsking_L5 0 c25 n (p : Int) hM = c25 hM' ∧ f_X0_matchByAsking_L21 o nC (i : Int) hC = some (0, hC') ∧ AR s i' A' U' C' hC' hM' ∧ FrS hC hC' ∧ FrX hM hM' ∧ ∀ j : Nat, (j : Int) < s 16 → OKc s A' C' j := by
  have v2 := hV.2.1
  have iz : inb (wr (0 + 16)) 1330 := by
    rw [wr_id (by omega) (by omega)]
    unfold inb
    omega
  intro m
  induction m with
  | zero =>
    intro n p nC i A U C hC hM a hi hn eg q1 q2 hA hF
    obtain ⟨n, rfl⟩ : ∃ n', n = n' + 1 := ⟨n - 1, by omega⟩
    have le := a.le
    obtain ⟨nC, rfl⟩ : ∃ n', nC = n' + 1 := ⟨nC - 1, by omega⟩
    have e16 : hM 77 (wr (0 + 16)).toNat = s 16 := by
      rw [wr_id (by omega) (by omega), ← eg]
      rfl
    rw [f_X5_byAsking_L5_s, if_pos iz, e16, if_pos (by omega), f_X0_matchByAsking_L21_s]
    by_cases c : 144 ≤ (i : Int)
    · rw [if_pos c]
      exact ⟨i, A, U, C, hC, hM, rfl, rfl, a, FrS.rf, FrX.rf, fun j hj => q1 j (by omega)⟩
    · rw [if_neg c, c_na_end hV hD.2.2 a.1.1 a.1.2.1.1 a.1.2.2 a.2.2.2.2.1 (fun j hj => q1 j (by omega)), bd_s, if_neg (by omega)]
      exact ⟨i, A, U, C, hC, hM, rfl, rfl, a, FrS.rf, FrX.rf, fun j hj => q1 j (by omega)⟩
  | succ m ih =>
    intro n p nC i A U C hC hM a hi hn eg q1 q2 hA hF
    obtain ⟨n, rfl⟩ : ∃ n', n = n' + 1 := ⟨n - 1, by omega⟩
    have := fu_gt
    have e16 : hM 77 (wr (0 + 16)).toNat = s 16 := by
      rw [wr_id (by omega) (by omega), ← eg]
      rfl
    obtain ⟨nC', i', A', U', C', hC', hM', z1, z2, z3, z4, z5, z6, z7, z8, z9⟩ := ask_2 (K := 13 + p) (o := o) (c23 := fun h3 => f_X5_byAsking_L5 0 c25 n (wr ((p : Int) + 1)) h3) hV hD (by omega) (p := p) (by omega) 145 fu nC i p A U C hC hM a (by omega) (q2 p (by omega)) (fun j j1 j2 => q1 j (by omega)) (fun j hj => q2 j (by omega)) (by omega) (by omega) hA hF
    rw [f_X5_byAsking_L5_s, if_pos iz, e16, if_neg (by omega), z1, wr_id (by omega) (by omega), show (p : Int) + 1 = ((p + 1 : Nat) : Int) by omega]
    obtain ⟨i2, A2, U2, C2, hC2, hM2, y1, y2, y3, y4, y5, y6⟩ := ih n (p + 1) nC' i' A' U' C' hC' hM' z3 (by omega) (by omega) (by rw [z6.g]; exact eg) (fun j hj => z7 j (by omega)) (fun j hj => z8 j (by omega)) (fun j => by have := z9 j; omega) z4
    exact ⟨i2, A2, U2, C2, hC2, hM2, y1, z2.trans y2, y3, z5.tr y4, z6.tr y5, y6⟩
end Asking3

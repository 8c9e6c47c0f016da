/-! the pure part: claims that ask: the class's steps, and how the two stand -/
section Asking1
/-- the pairs asked for -/
def AK (s A : Rw) (h : Hp) : Prop := ∀ k, k < 144 → suP s k → h 23 k = if rk s (k % 12) (k / 12) < A (k % 12) then 1 else 0
theorem c_np_L {s A : Rw} {c : Nat} {h : Hp} (hV : Vn s) (w : WA s h) (k : AK s A h) (hc : (c : Int) < s 16) : ∀ (m n u : Nat), m < n → (u : Int) + m = s 15 →
    f_X0_nextPairOf_L4 (c : Int) n (bes s (Ua s c (A c)) (Cc c) (12 * u)) (u : Int) h = some (bes s (Ua s c (A c)) (Cc c) 144, h) := by
  intro m
  induction m with
  | zero =>
    intro n u hn hi
    obtain ⟨n, rfl⟩ : ∃ n', n = n' + 1 := ⟨n - 1, by omega⟩
    have v1 := hV.1
    rw [f_X0_nextPairOf_L4_s, w.1, if_pos (by omega)]
    rw [show 144 = (12 * u) + (144 - (12 * u)) by omega, bes_skip (a := 12 * u) (144 - (12 * u)) (fun k k1 k2 e => by
      have := e.1.1.1
      omega)]
  | succ m ih =>
    intro n u hn hi
    obtain ⟨n, rfl⟩ : ∃ n', n = n' + 1 := ⟨n - 1, by omega⟩
    have v1 := hV.1
    have v2 := hV.2.1
    have d := dv (u := u) (c := c) (by omega)
    have g := ih n (u + 1) (by omega) (by omega)
    have z : ∀ k, k % 12 ≠ c → ¬ elP s (Ua s c (A c)) (Cc c) k := fun k k2 e => k2 (el_is.mp e).2.2
    rw [show ((u + 1 : Nat) : Int) = (u : Int) + 1 by omega, show 12 * (u + 1) = (12 * u + c + 1) + (11 - c) by omega, bes_skip (11 - c) (fun k k1 k2 => z k (by omega)), show bes s (Ua s c (A c)) (Cc c) (12 * u + c + 1) = if elP s (Ua s c (A c)) (Cc c) (12 * u + c) then ahd s (12 * u + c) (bes s (Ua s c (A c)) (Cc c) (12 * u + c)) else bes s (Ua s c (A c)) (Cc c) (12 * u + c) from rfl, bes_skip c (fun k k1 k2 => z k (by omega))] at g
    have i144 : inb (((12 * u + c : Nat) : Int)) 144 := by unfold inb; omega
    rw [f_X0_nextPairOf_L4_s, w.1, if_neg (by omega), p_pair (by rw [w.1]; omega) (by rw [w.2.1]; omega) (by rw [w.1]; omega) (by rw [w.2.1]; omega), bd_s, if_neg (show ¬ ((12 * u + c : Nat) : Int) < 0 by omega), if_neg (show ¬ 144 ≤ ((12 * u + c : Nat) : Int) by omega), if_pos i144, if_pos i144, show (((12 * u + c : Nat) : Int)).toNat = 12 * u + c by omega, (w.2.2 u c (by omega) (by omega) (by omega)).2.2, wr_id (z := (u : Int) + 1) (by omega) (by omega)]
    by_cases q : sut s u c
    · have sp : suP s (12 * u + c) := ⟨⟨by rw [d.1]; omega, by rw [d.2]; omega⟩, by rw [d.1, d.2]; exact q⟩
      have k1 := k (12 * u + c) (by omega) sp
      rw [d.1, d.2] at k1
      rw [if_pos q, if_neg (show ¬ (1 : Int) = 0 by omega), k1]
      by_cases r : rk s c u < A c
      · rw [if_neg (fun e => by have := (el_is.mp e).2.1; rw [d.1] at this; omega)] at g
        rw [if_pos r, if_pos (show ¬ (1 : Int) = 0 by omega)]
        exact g
      · rw [if_pos (el_is.mpr ⟨sp, by rw [d.1]; omega, d.2⟩)] at g
        rw [if_neg r, if_neg (show ¬ ¬ (0 : Int) = 0 by omega), c_ahead hV w sp.1 (by
          rcases bes_b s (Ua s c (A c)) (Cc c) (12 * u) with b | b
          · exact Or.inl b
          · exact Or.inr ⟨b.1, by omega, b.2.2.1.1⟩), bd_s]
        exact g
    · rw [if_neg (fun e => q (by have := (el_is.mp e).1.2; rw [d.1, d.2] at this; exact this))] at g
      rw [if_neg q, if_pos rfl]
      exact g
theorem c_np {s A : Rw} {c : Nat} {h : Hp} (hV : Vn s) (hS : sok s) (w : WA s h) (k : AK s A h) (hc : (c : Int) < s 16) (h0 : 0 ≤ A c) : f_X0_nextPairOf (c : Int) h = some (if nx s c (A c) = -1 then -1 else 12 * nx s c (A c) + c, h) := by
  have v1 := hV.1
  have v2 := hV.2.1
  have := c_np_L hV w k hc (s 15).toNat fu 0 (by have := fu_gt; omega) (by omega)
  unfold f_X0_nextPairOf
  refine this.trans ?_
  rw [bes_nx hS (by omega) h0]
def OKc (s A C : Rw) (j : Nat) : Prop := C j ≠ -1 ∨ nx s j (A j) = -1
theorem c_na_L {s A U C : Rw} {c : Nat} {h : Hp} (hV : Vn s) (hS : sok s) (w : WA s h) (mc : MC h U C) (k : AK s A h) (hc : (c : Int) ≤ s 16) (h0 : ∀ j, 0 ≤ A j) : ∀ (m n j : Nat), m < n → j + m = c → (∀ i, j ≤ i → i < c → OKc s A C i) →
    f_X0_nextAsk_L2 n (j : Int) h = f_X0_nextAsk_L2 (n - m) (c : Int) h := by
  intro m
  induction m with
  | zero =>
    intro n j hn hi q
    rw [show j = c by omega]
    rfl
  | succ m ih =>
    intro n j hn hi q
    obtain ⟨n, rfl⟩ : ∃ n', n = n' + 1 := ⟨n - 1, by omega⟩
    have v2 := hV.2.1
    have g := ih n (j + 1) (by omega) (by omega) (fun i i1 i2 => q i (by omega) i2)
    rw [show ((j + 1 : Nat) : Int) = (j : Int) + 1 by omega] at g
    rw [f_X0_nextAsk_L2_s, w.2.1, if_neg (by omega), p_umM (by omega), bd_s, show ((j : Int)).toNat = j by omega, (mc j (by omega)).2, wr_id (by omega) (by omega), show n + 1 - (m + 1) = n - m by omega]
    by_cases c1 : C j = -1
    · rcases q j (by omega) (by omega) with r | r
      · exact absurd c1 r
      · rw [if_neg (show ¬ ¬ C j = -1 by omega), c_np hV hS w k (by omega) (h0 j), bd_s, if_pos r, if_pos rfl]
        exact g
    · rw [if_pos c1]
      exact g
theorem c_na {s A U C : Rw} {c : Nat} {h : Hp} (hV : Vn s) (hS : sok s) (w : WA s h) (mc : MC h U C) (k : AK s A h) (hc : (c : Int) < s 16) (h0 : ∀ j, 0 ≤ A j) (q : ∀ i, i < c → OKc s A C i) (e : C c = -1) (x : nx s c (A c) ≠ -1) : f_X0_nextAsk h = some (12 * nx s c (A c) + c, h) := by
  have v2 := hV.2.1
  have := fu_gt
  have g := c_na_L hV hS w mc k (by omega) h0 c fu 0 (by omega) (by omega) (fun i _ i2 => q i i2)
  unfold f_X0_nextAsk
  rw [show (0 : Int) = ((0 : Nat) : Int) from rfl, g]
  obtain ⟨n, hn⟩ : ∃ n', fu - c = n' + 1 := ⟨fu - c - 1, by omega⟩
  rcases nx_b (s := s) (c := c) (a := A c) with r | r
  · exact absurd r.1 x
  rw [hn, f_X0_nextAsk_L2_s, w.2.1, if_neg (by omega), p_umM (by omega), bd_s, show ((c : Int)).toNat = c by omega, (mc c (by omega)).2, if_neg (show ¬ ¬ C c = -1 by omega), c_np hV hS w k hc (h0 c), bd_s, if_neg x, if_neg (by omega)]
theorem c_na_end {s A U C : Rw} {h : Hp} (hV : Vn s) (hS : sok s) (w : WA s h) (mc : MC h U C) (k : AK s A h) (h0 : ∀ j, 0 ≤ A j) (q : ∀ i : Nat, (i : Int) < s 16 → OKc s A C i) : f_X0_nextAsk h = some (-1, h) := by
  have v2 := hV.2.1
  have := fu_gt
  have g := c_na_L (c := (s 16).toNat) hV hS w mc k (by omega) h0 (s 16).toNat fu 0 (by omega) (by omega) (fun i _ i2 => q i (by omega))
  unfold f_X0_nextAsk
  rw [show (0 : Int) = ((0 : Nat) : Int) from rfl, g]
  obtain ⟨n, hn⟩ : ∃ n', fu - (s 16).toNat = n' + 1 := ⟨fu - (s 16).toNat - 1, by omega⟩
  rw [hn, f_X0_nextAsk_L2_s, w.2.1, if_pos (by omega)]
theorem c_ahead2 {s : Rw} {k b : Nat} {h : Hp} (hV : Vn s) (w : WA s h) (hk : inP s k) (hb : inP s b) : f_X0_aheadOf (k : Int) (b : Int) h = some (if ptP s k = ptP s b then (if (k : Int) ≤ (b : Int) then (k : Int) else (b : Int)) else if ptP s k ≤ ptP s b then (b : Int) else (k : Int), h) := by
  obtain ⟨w7, w8, w⟩ := w
  have v1 := hV.1
  have v2 := hV.2.1
  have ek : ∀ k, inP s k → h 21 k = ptP s k := fun k hk => by
    have := (w (k / 12) (k % 12) hk.1 hk.2 (by have := hk.1; omega)).2.1
    rw [show 12 * (k / 12) + k % 12 = k by omega] at this
    exact this
  have k144 : k < 144 := by
    have := hk.1
    omega
  have b144 : b < 144 := by
    have := hb.1
    omega
  have ik : inb (k : Int) 144 := by unfold inb; omega
  have ib : inb (b : Int) 144 := by unfold inb; omega
  unfold f_X0_aheadOf
  rw [if_neg (by omega), if_pos (by omega), if_neg (by omega), if_pos (by omega), if_pos ik, if_pos ib, show ((k : Int)).toNat = k by omega, show ((b : Int)).toNat = b by omega, ek k hk, ek b hb, p_min, bd_s, if_pos ik, if_pos ib]
  by_cases c1 : ptP s k = ptP s b
  · rw [if_pos c1, if_pos c1]
  · rw [if_neg c1, if_neg c1]
    by_cases c2 : ptP s k ≤ ptP s b
    · rw [if_pos c2, if_pos c2]
    · rw [if_neg c2, if_neg c2]
/-- umbrellas that have a claim -/
def cF (U : Rw) (u : Nat) : Int := if U u = -1 then 0 else 1
def cU (U : Rw) : Int := sm (cF U) 12
theorem cU_b (U : Rw) : 0 ≤ cU U ∧ cU U ≤ 12 := by
  have := sm_b1 (f := cF U) (fun k => by unfold cF; split <;> omega) 12
  unfold cU
  omega
theorem cU_up {U : Rw} {w : Nat} {x : Int} (hw : w < 12) (h : U w = -1) (hx : x ≠ -1) : cU (gup U w x) = cU U + 1 := by
  have k := sm_dl (f := cF (gup U w x)) (g := cF U) (z := w) 12 (fun k hk => by
    unfold cF
    by_cases c : k = w
    · rw [gup_eq c, if_neg hx, c, if_pos h, if_pos rfl]
      omega
    · rw [gup_far c, if_neg c]
      omega)
  rw [if_pos hw] at k
  exact k
theorem cU_dn {U : Rw} {w : Nat} (hw : w < 12) (h : U w ≠ -1) : cU (gup U w (-1)) = cU U - 1 := by
  have k := sm_dl (f := cF U) (g := cF (gup U w (-1))) (z := w) 12 (fun k hk => by
    unfold cF
    by_cases c : k = w
    · rw [gup_eq c, if_pos rfl, c, if_neg h, if_pos rfl]
      omega
    · rw [gup_far c, if_neg c]
      omega)
  rw [if_pos hw] at k
  have e : cU U = cU (gup U w (-1)) + 1 := k
  omega
/-- how many pairs were asked for -/
def aF (s A : Rw) (k : Nat) : Int := if suP s k ∧ rk s (k % 12) (k / 12) < A (k % 12) then 1 else 0
theorem aF_b (s A : Rw) (k : Nat) : 0 ≤ aF s A k ∧ aF s A k ≤ 1 := by
  unfold aF
  split <;> omega
theorem rk_ne {s : Rw} {c k w : Nat} {a : Int} (hS : sok s) (hk : suP s k) (ck : k % 12 = c) (k144 : k < 144) (x : nx s c a = w) (n : k ≠ 12 * w + c) : rk s c (k / 12) ≠ a := by
  intro e
  have q : su s c (k / 12) := by
    rw [su_is hS, show 12 * (k / 12) + c = k by omega]
    exact hk
  have := nx_is (by omega) q e
  omega
theorem rk_no {s : Rw} {c k : Nat} {a : Int} (hS : sok s) (hk : suP s k) (ck : k % 12 = c) (k144 : k < 144) (x : nx s c a = -1) : rk s c (k / 12) ≠ a := by
  intro e
  have q : su s c (k / 12) := by
    rw [su_is hS, show 12 * (k / 12) + c = k by omega]
    exact hk
  have := nx_is (by omega) q e
  omega
/-- whether a pair counts as asked for, after one more -/
theorem as_eq {s A : Rw} {c k w : Nat} (hS : sok s) (hk : suP s k) (k144 : k < 144) (x : nx s c (A c) = w) (n : k ≠ 12 * w + c) : rk s (k % 12) (k / 12) < gup A c (A c + 1) (k % 12) ↔ rk s (k % 12) (k / 12) < A (k % 12) := by
  by_cases ck : k % 12 = c
  · rw [gup_eq ck, ck]
    have := rk_ne hS hk ck k144 x n
    omega
  · rw [gup_far ck]
theorem as_no {s A : Rw} {c k : Nat} (hS : sok s) (hk : suP s k) (k144 : k < 144) (x : nx s c (A c) = -1) : rk s (k % 12) (k / 12) < gup A c (A c + 1) (k % 12) ↔ rk s (k % 12) (k / 12) < A (k % 12) := by
  by_cases ck : k % 12 = c
  · rw [gup_eq ck, ck]
    have := rk_no hS hk ck k144 x
    omega
  · rw [gup_far ck]
theorem aF_up {s A : Rw} {c w : Nat} (hS : sok s) (hc : c < 12) (x : nx s c (A c) = w) : sm (aF s (gup A c (A c + 1))) 144 = sm (aF s A) 144 + 1 := by
  rcases nx_b (s := s) (c := c) (a := A c) with r | r
  · omega
  rw [x] at r
  rw [show ((w : Int)).toNat = w by omega] at r
  have d := dv (u := w) hc
  have k := sm_dl (f := aF s (gup A c (A c + 1))) (g := aF s A) (z := 12 * w + c) 144 (fun k hk => by
    unfold aF
    by_cases c1 : suP s k
    · by_cases c2 : k = 12 * w + c
      · have f1 : rk s (k % 12) (k / 12) < gup A c (A c + 1) (k % 12) := by
          rw [c2, d.1, d.2, gup_same]
          omega
        have f2 : ¬ rk s (k % 12) (k / 12) < A (k % 12) := by
          rw [c2, d.1, d.2]
          omega
        rw [if_pos c2, if_pos ⟨c1, f1⟩, if_neg (fun q => f2 q.2)]
        omega
      · rw [if_neg c2]
        have e := as_eq hS c1 hk x c2
        by_cases c3 : rk s (k % 12) (k / 12) < A (k % 12)
        · rw [if_pos ⟨c1, e.mpr c3⟩, if_pos ⟨c1, c3⟩]
          omega
        · rw [if_neg (fun q => c3 (e.mp q.2)), if_neg (fun q => c3 q.2)]
          omega
    · have c2 : k ≠ 12 * w + c := fun e => c1 (by rw [e]; exact (su_is hS).mp r.2.2.1)
      rw [if_neg c2, if_neg (fun q => c1 q.1), if_neg (fun q => c1 q.1)]
      omega)
  rw [if_pos (by omega)] at k
  exact k
theorem aF_no {s A : Rw} {c : Nat} (hS : sok s) (x : nx s c (A c) = -1) : sm (aF s (gup A c (A c + 1))) 144 = sm (aF s A) 144 := by
  have e : ∀ k, k < 144 → aF s (gup A c (A c + 1)) k = aF s A k := fun k hk => by
    unfold aF
    by_cases c1 : suP s k
    · have e := as_no hS c1 hk x
      by_cases c3 : rk s (k % 12) (k / 12) < A (k % 12)
      · rw [if_pos ⟨c1, e.mpr c3⟩, if_pos ⟨c1, c3⟩]
      · rw [if_neg (fun q => c3 (e.mp q.2)), if_neg (fun q => c3 q.2)]
    · rw [if_neg (fun q => c1 q.1), if_neg (fun q => c1 q.1)]
  have a := sm_le 144 (fun k hk => by rw [e k hk]; exact Int.le_refl _ : ∀ k, k < 144 → aF s (gup A c (A c + 1)) k ≤ aF s A k)
  have b := sm_le 144 (fun k hk => by rw [e k hk]; exact Int.le_refl _ : ∀ k, k < 144 → aF s A k ≤ aF s (gup A c (A c + 1)) k)
  omega
/-- claim c is ahead of d at umbrella w -/
abbrev acc (s : Rw) (w c d : Nat) : Prop := r81 s (12 * w + d) < r81 s (12 * w + c) ∨ (r81 s (12 * w + d) = r81 s (12 * w + c) ∧ c < d)
theorem acc_tr {s : Rw} {w a b c : Nat} (x : acc s w a b) (y : acc s w b c) : acc s w a c := by
  unfold acc at *
  omega
/-- who was asked has one that is no worse; who is held has asked for it -/
def BR (s A U C : Rw) : Prop := (∀ u c : Nat, u < 12 → c < 12 → su s c u → rk s c u < A c → ∃ d : Nat, U u = d ∧ (d = c ∨ acc s u d c)) ∧ ∀ c : Nat, c < 12 → C c ≠ -1 → rk s c (C c).toNat < A c
theorem BR_no {s A U C : Rw} {c : Nat} (hc : c < 12) (x : nx s c (A c) = -1) (b : BR s A U C) : BR s (gup A c (A c + 1)) U C := by
  refine ⟨fun u c' hu hc' su1 q => ?_, fun c' hc' q => ?_⟩
  · by_cases e : c' = c
    · subst e
      rw [gup_same] at q
      rcases nx_b (s := s) (c := c') (a := A c') with r | r
      · have := r.2 u hu su1
        exact b.1 u c' hu hc' su1 (by omega)
      · omega
    · rw [gup_far e] at q
      exact b.1 u c' hu hc' su1 q
  · have := b.2 c' hc' q
    by_cases e : c' = c
    · subst e
      rw [gup_same]
      omega
    · rw [gup_far e]
      exact this
theorem BR_new {s A U C U' C' : Rw} {c w : Nat} (hw : w < 12) (hc : c < 12) (r1 : su s c w) (r2 : rk s c w = A c) (b : BR s A U C) (hU : ∀ u, u ≠ w → U' u = U u) {d : Nat} (h1 : U' w = d) (h2 : d = c ∨ acc s w d c) (h3 : ∀ d0 : Nat, U w = d0 → d0 = d ∨ acc s w d d0) (hC : ∀ j : Nat, C' j ≠ -1 → (j = c ∧ C' j = w) ∨ (j ≠ c ∧ C' j = C j)) : BR s (gup A c (A c + 1)) U' C' := by
  refine ⟨fun u c' hu hc' su1 q => ?_, fun c' hc' q => ?_⟩
  · by_cases e : u = w
    · subst e
      refine ⟨d, h1, ?_⟩
      by_cases e2 : c' = c
      · rw [e2]
        exact h2
      · rw [gup_far e2] at q
        obtain ⟨d0, k1, k2⟩ := b.1 u c' hu hc' su1 q
        rcases h3 d0 k1 with k3 | k3
        · rw [← k3]
          exact k2
        · rcases k2 with k2 | k2
          · rw [← k2]
            exact Or.inr k3
          · exact Or.inr (acc_tr k3 k2)
    · rw [hU u e]
      by_cases e2 : c' = c
      · subst e2
        rw [gup_same] at q
        refine b.1 u c' hu hc' su1 ?_
        by_cases e3 : rk s c' u = A c'
        · exact absurd (rk_inj hu hw su1 r1 (by omega)) e
        · omega
      · rw [gup_far e2] at q
        exact b.1 u c' hu hc' su1 q
  · rcases hC c' q with ⟨k1, k2⟩ | ⟨k1, k2⟩
    · subst k1
      rw [k2, gup_same, show ((w : Int)).toNat = w by omega]
      omega
    · rw [k2, gup_far k1]
      rw [k2] at q
      exact b.2 c' hc' q
/-- how the two stand -/
def AR (s : Rw) (i : Nat) (A U C : Rw) (hC hM : Hp) : Prop :=
  (WA s hC ∧ MCq hC (U, C, cU U) ∧ AK s A hC) ∧ (WM s hM ∧ ∀ j : Nat, j < 12 → hM 79 j = U j ∧ hM 82 j = A j) ∧ (MgI s (U, C, cU U) ∧ MgJ s (U, C, cU U)) ∧ sm (aF s A) 144 = i ∧ (∀ j, 0 ≤ A j) ∧ BR s A U C
theorem AR.le {s : Rw} {i : Nat} {A U C : Rw} {hC hM : Hp} (a : AR s i A U C hC hM) : i ≤ 144 := by
  have := sm_b1 (aF_b s A) 144
  have := a.2.2.2.1
  omega
theorem AR.no {s : Rw} {i c : Nat} {A U C : Rw} {hC hM : Hp} (hS : sok s) (hc : c < 12) (a : AR s i A U C hC hM) (x : nx s c (A c) = -1) : AR s i (gup A c (A c + 1)) U C hC (hup hM 82 c (A c + 1)) := by
  obtain ⟨⟨a1, a2, a3⟩, ⟨a4, a5⟩, a6, a7, a8, a9⟩ := a
  refine ⟨⟨a1, a2, fun k hk sk => ?_⟩, ⟨fun k hk => ?_, fun j hj => ⟨?_, ?_⟩⟩, a6, ?_, fun j => ?_, BR_no hc x a9⟩
  · rw [a3 k hk sk]
    have e := as_no hS sk hk x
    by_cases c3 : rk s (k % 12) (k / 12) < A (k % 12)
    · rw [if_pos c3, if_pos (e.mpr c3)]
    · rw [if_neg c3, if_neg (fun q => c3 (e.mp q))]
  · rw [hup_far (by omega)]
    exact a4 k hk
  · rw [hup_far (by omega)]
    exact (a5 j hj).1
  · by_cases cj : j = c
    · rw [hup_eq ⟨rfl, cj⟩, gup_eq cj]
    · rw [hup_far (by omega), gup_far cj]
      exact (a5 j hj).2
  · rw [aF_no hS x]
    exact a7
  · have := a8 c
    by_cases cj : j = c
    · rw [gup_eq cj]
      omega
    · rw [gup_far cj]
      exact a8 j
end Asking1

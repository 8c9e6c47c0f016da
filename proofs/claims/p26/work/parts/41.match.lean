/-! the pure part: all matches: the class -/
section Match1
/-- a matching: the claim of an umbrella, the umbrella of a claim, how many -/
abbrev MgQ : Type := Rw × Rw × Int
def bst (s : Rw) (q : MgQ) : Int := bes s q.1 q.2.1 144
def stp (k : Nat) (q : MgQ) : MgQ := (gup q.1 (k / 12) ((k % 12 : Nat) : Int), gup q.2.1 (k % 12) ((k / 12 : Nat) : Int), q.2.2 + 1)
def mtc (s : Rw) : Nat → MgQ → MgQ
  | 0, q => q
  | n + 1, q => if bst s q = -1 then q else mtc s n (stp (bst s q).toNat q)
theorem mtc_step (s : Rw) (n : Nat) (q : MgQ) : mtc s (n + 1) q = if bst s q = -1 then q else mtc s n (stp (bst s q).toNat q) := rfl
def mt0 : MgQ := (fun _ => -1, fun _ => -1, 0)
def mtA (s : Rw) : MgQ := mtc s 12 mt0
/-- a matching's pairs suit; it is one to one; umbrellas matched are as many as it says -/
def MgI (s : Rw) (q : MgQ) : Prop := ∀ i : Nat, q.1 i = -1 ∨ (0 ≤ q.1 i ∧ q.1 i < s 16 ∧ (i : Int) < s 15 ∧ sut s i (q.1 i).toNat ∧ q.2.1 (q.1 i).toNat = i)
def MgJ (s : Rw) (q : MgQ) : Prop := ∀ c : Nat, q.2.1 c = -1 ∨ (0 ≤ q.2.1 c ∧ q.2.1 c < s 15 ∧ (c : Int) < s 16 ∧ q.1 (q.2.1 c).toNat = c)
theorem mt0_I (s : Rw) : MgI s mt0 ∧ MgJ s mt0 := ⟨fun i => Or.inl rfl, fun c => Or.inl rfl⟩
theorem bst_b (s : Rw) (q : MgQ) : bst s q = -1 ∨ (0 ≤ bst s q ∧ bst s q < 144 ∧ elP s q.1 q.2.1 (bst s q).toNat) := by
  rcases bes_b s q.1 q.2.1 144 with b | b
  · exact Or.inl b
  · exact Or.inr ⟨b.1, b.2.1, b.2.2⟩
theorem stp_I {s : Rw} {q : MgQ} {k : Nat} (hI : MgI s q) (hJ : MgJ s q) (e : elP s q.1 q.2.1 k) : MgI s (stp k q) ∧ MgJ s (stp k q) := by
  obtain ⟨⟨⟨e1, e2⟩, e3⟩, e4, e5⟩ := e
  refine ⟨fun i => ?_, fun c => ?_⟩
  · show gup q.1 (k / 12) ((k % 12 : Nat) : Int) i = -1 ∨ _
    by_cases c : i = k / 12
    · refine Or.inr ?_
      have ei : (stp k q).1 i = ((k % 12 : Nat) : Int) := gup_eq c
      rw [ei, show (((k % 12 : Nat) : Int)).toNat = k % 12 by omega]
      refine ⟨by omega, e2, by rw [c]; exact e1, by rw [c]; exact e3, ?_⟩
      show gup q.2.1 (k % 12) ((k / 12 : Nat) : Int) (k % 12) = _
      rw [gup_same, c]
    · rw [show (stp k q).1 i = q.1 i from gup_far c, gup_far c]
      rcases hI i with h | h
      · exact Or.inl h
      · refine Or.inr ⟨h.1, h.2.1, h.2.2.1, h.2.2.2.1, ?_⟩
        show gup q.2.1 (k % 12) ((k / 12 : Nat) : Int) (q.1 i).toNat = _
        have ne : (q.1 i).toNat ≠ k % 12 := fun x => by
          have := h.2.2.2.2
          rw [x, e5] at this
          omega
        rw [gup_far ne]
        exact h.2.2.2.2
  · show gup q.2.1 (k % 12) ((k / 12 : Nat) : Int) c = -1 ∨ _
    by_cases cc : c = k % 12
    · refine Or.inr ?_
      have ei : (stp k q).2.1 c = ((k / 12 : Nat) : Int) := gup_eq cc
      rw [ei, show (((k / 12 : Nat) : Int)).toNat = k / 12 by omega]
      refine ⟨by omega, e1, by rw [cc]; exact e2, ?_⟩
      show gup q.1 (k / 12) ((k % 12 : Nat) : Int) (k / 12) = _
      rw [gup_same, cc]
    · rw [show (stp k q).2.1 c = q.2.1 c from gup_far cc, gup_far cc]
      rcases hJ c with h | h
      · exact Or.inl h
      · refine Or.inr ⟨h.1, h.2.1, h.2.2.1, ?_⟩
        show gup q.1 (k / 12) ((k % 12 : Nat) : Int) (q.2.1 c).toNat = _
        have ne : (q.2.1 c).toNat ≠ k / 12 := fun x => by
          have := h.2.2.2
          rw [x, e4] at this
          omega
        rw [gup_far ne]
        exact h.2.2.2
theorem mtc_I {s : Rw} : ∀ (n : Nat) (q : MgQ), MgI s q → MgJ s q → MgI s (mtc s n q) ∧ MgJ s (mtc s n q) := by
  intro n
  induction n with
  | zero => intro q a b; exact ⟨a, b⟩
  | succ n ih =>
    intro q a b
    rw [mtc_step]
    by_cases c : bst s q = -1
    · rw [if_pos c]; exact ⟨a, b⟩
    · rw [if_neg c]
      rcases bst_b s q with h | h
      · exact absurd h c
      · obtain ⟨x, y⟩ := stp_I a b h.2.2
        exact ih _ x y
/-- free umbrellas among the first n -/
def fre (U : Rw) : Nat → Nat
  | 0 => 0
  | n + 1 => fre U n + if U n = -1 then 1 else 0
theorem fre_up {U : Rw} {i : Nat} {x : Int} (h : U i = -1) (hx : x ≠ -1) : ∀ n : Nat, fre (gup U i x) n + (if i < n then 1 else 0) = fre U n := by
  intro n
  induction n with
  | zero => rfl
  | succ n ih =>
    show fre (gup U i x) n + (if gup U i x n = -1 then 1 else 0) + _ = fre U n + if U n = -1 then 1 else 0
    by_cases c : n = i
    · subst c
      rw [gup_same, if_neg hx, h, if_pos rfl, if_pos (by omega)]
      rw [if_neg (by omega)] at ih
      omega
    · rw [gup_far c]
      by_cases c2 : i < n
      · rw [if_pos c2] at ih
        rw [if_pos (show i < n + 1 by omega)]
        omega
      · rw [if_neg c2] at ih
        rw [if_neg (show ¬ i < n + 1 by omega)]
        omega
theorem fre_0 {U : Rw} : ∀ (n : Nat) (i : Nat), fre U n = 0 → i < n → U i ≠ -1 := by
  intro n
  induction n with
  | zero => intro i _ hi; omega
  | succ n ih =>
    intro i h hi
    have h' : fre U n + (if U n = -1 then 1 else 0) = 0 := h
    by_cases c : U n = -1
    · rw [if_pos c] at h'
      omega
    · by_cases c2 : i = n
      · rw [c2]; exact c
      · exact ih i (by omega) (by omega)
/-- twelve rounds are all -/
theorem mtc_end {s : Rw} (hV : Vn s) : ∀ (n : Nat) (q : MgQ), fre q.1 12 ≤ n → bst s (mtc s n q) = -1 := by
  intro n
  induction n with
  | zero =>
    intro q hf
    show bst s q = -1
    rcases bst_b s q with h | h
    · exact h
    · have v := hV.1
      have := h.2.2.1.1.1
      exact absurd h.2.2.2.1 (fre_0 12 _ (by omega) (by omega))
  | succ n ih =>
    intro q hf
    rw [mtc_step]
    by_cases c : bst s q = -1
    · rw [if_pos c]; exact c
    · rw [if_neg c]
      refine ih _ ?_
      rcases bst_b s q with h | h
      · exact absurd h c
      · have v := hV.1
        have l := h.2.2.1.1.1
        have := fre_up (x := (((bst s q).toNat % 12 : Nat) : Int)) h.2.2.2.1 (by omega) 12
        rw [if_pos (by omega)] at this
        show fre (gup q.1 ((bst s q).toNat / 12) (((bst s q).toNat % 12 : Nat) : Int)) 12 ≤ n
        omega
/-- the class holds a matching and its number -/
def MCq (h : Hp) (q : MgQ) : Prop := MC h q.1 q.2.1 ∧ h 19 9 = q.2.2
def FrJ (h h' : Hp) : Prop := ∀ a k, ¬ (a = 25 ∨ a = 26 ∨ (a = 19 ∧ k = 9)) → h' a k = h a k
theorem FrJ.tr {h h1 h2 : Hp} (a : FrJ h h1) (b : FrJ h1 h2) : FrJ h h2 := fun x k hx => (b x k hx).trans (a x k hx)
theorem WA.fr {s : Rw} {h h' : Hp} (w : WA s h) (f : FrJ h h') : WA s h' := by
  obtain ⟨w7, w8, w⟩ := w
  refine ⟨by rw [f 19 7 (by omega)]; exact w7, by rw [f 19 8 (by omega)]; exact w8, fun x y hx hy q => ?_⟩
  rw [f 20 _ (by omega), f 21 _ (by omega), f 22 _ (by omega)]
  exact w x y hx hy q
theorem c_join {h : Hp} {q : MgQ} {k : Nat} (m : MCq h q) (hk : k < 144) (h0 : 0 ≤ q.2.2) (h1 : q.2.2 ≤ 1000) : ∃ h', f_X0_join (wr (Int.tdiv (k : Int) 12)) (wr ((k : Int) - Int.tdiv (k : Int) 12 * 12)) h = some (0, h') ∧ MCq h' (stp k q) ∧ FrJ h h' := by
  have t : Int.tdiv (k : Int) 12 = ((k / 12 : Nat) : Int) := by
    rw [Int.tdiv_eq_ediv_of_nonneg (by omega)]
    omega
  rw [t, wr_id (z := ((k / 12 : Nat) : Int)) (by omega) (by omega), show (k : Int) - ((k / 12 : Nat) : Int) * 12 = ((k % 12 : Nat) : Int) by omega, wr_id (by omega) (by omega)]
  unfold f_X0_join
  rw [if_neg (by omega), if_neg (by omega), if_neg (by omega), if_neg (by omega), if_pos (by unfold inb; omega)]
  unfold lt
  dsimp only
  rw [if_pos (by unfold inb; omega), show (((k / 12 : Nat) : Int)).toNat = k / 12 by omega, show (((k % 12 : Nat) : Int)).toNat = k % 12 by omega]
  have e9 : hup (hup h 25 (k / 12) ((k % 12 : Nat) : Int)) 26 (k % 12) ((k / 12 : Nat) : Int) 19 9 = q.2.2 := by
    rw [hup_far (i := 26) (by omega), hup_far (i := 25) (by omega)]
    exact m.2
  rw [e9, wr_id (by omega) (by omega)]
  refine ⟨_, rfl, ⟨fun i hi => ⟨?_, ?_⟩, ?_⟩, fun a b hab => ?_⟩
  · rw [hup_far (i := 19) (by omega), hup_far (i := 26) (by omega)]
    show _ = gup q.1 (k / 12) _ i
    unfold gup
    by_cases c : i = k / 12
    · rw [hup_eq ⟨rfl, c⟩, if_pos c]
    · rw [hup_far (by omega), if_neg c]
      exact (m.1 i hi).1
  · rw [hup_far (i := 19) (by omega)]
    show _ = gup q.2.1 (k % 12) _ i
    unfold gup
    by_cases c : i = k % 12
    · rw [hup_eq ⟨rfl, c⟩, if_pos c]
    · rw [hup_far (by omega), hup_far (by omega), if_neg c]
      exact (m.1 i hi).2
  · rw [hup_same]
    rfl
  · rw [hup_far (i := 19) (by omega), hup_far (i := 26) (by omega), hup_far (i := 25) (by omega)]
theorem c_mt_L {o : Nat} {s : Rw} (hV : Vn s) : ∀ (m n : Nat) (i : Nat) (q : MgQ) (h : Hp), m < n → i + m = 12 → WA s h → MCq h q → 0 ≤ q.2.2 → q.2.2 ≤ i →
    ∃ h', f_X0_matchAll_L7 o n (i : Int) h = some (0, h') ∧ MCq h' (mtc s m q) ∧ WA s h' ∧ FrJ h h' := by
  intro m
  induction m with
  | zero =>
    intro n i q h hn hi w mc q0 q1
    obtain ⟨n, rfl⟩ : ∃ n', n = n' + 1 := ⟨n - 1, by omega⟩
    rw [f_X0_matchAll_L7_s, if_pos (by omega)]
    exact ⟨h, rfl, mc, w, fun _ _ _ => rfl⟩
  | succ m ih =>
    intro n i q h hn hi w mc q0 q1
    obtain ⟨n, rfl⟩ : ∃ n', n = n' + 1 := ⟨n - 1, by omega⟩
    rw [f_X0_matchAll_L7_s, if_neg (by omega), c_best hV w mc.1, bd_s, mtc_step]
    rw [show bes s q.1 q.2.1 144 = bst s q from rfl]
    by_cases c : bst s q = -1
    · rw [if_neg (by omega), if_pos c]
      exact ⟨h, rfl, mc, w, fun _ _ _ => rfl⟩
    · rw [if_pos c, if_neg c]
      rcases bst_b s q with b | b
      · exact absurd b c
      · obtain ⟨h1, a1, a2, a3⟩ := c_join (k := (bst s q).toNat) mc (by omega) q0 (by omega)
        rw [show (((bst s q).toNat : Nat) : Int) = bst s q by omega] at a1
        rw [a1, bd_s, wr_id (by omega) (by omega), show (i : Int) + 1 = ((i + 1 : Nat) : Int) by omega]
        have e : (stp (bst s q).toNat q).2.2 = q.2.2 + 1 := rfl
        obtain ⟨h', b1, b2, b3, b4⟩ := ih n (i + 1) (stp (bst s q).toNat q) h1 (by omega) (by omega) (w.fr a3) a2 (by rw [e]; omega) (by rw [e]; omega)
        exact ⟨h', b1, b2, b3, a3.tr b4⟩
theorem c_none1_L {c14 : Hp → Option (Int × Hp)} : ∀ (m n : Nat) (i : Nat) (h0 h : Hp), m < n → i + m = 12 → (∀ k, k < i → h 25 k = -1) → (∀ a, a ≠ 25 → h a = h0 a) →
    ∃ h', f_X0_matchNone_L2 c14 n (i : Int) h = c14 h' ∧ (∀ k, k < 12 → h' 25 k = -1) ∧ ∀ a, a ≠ 25 → h' a = h0 a := by
  intro m
  induction m with
  | zero =>
    intro n i h0 h hn hi e f
    obtain ⟨n, rfl⟩ : ∃ n', n = n' + 1 := ⟨n - 1, by omega⟩
    rw [f_X0_matchNone_L2_s, if_pos (by omega)]
    exact ⟨h, rfl, fun k hk => e k (by omega), f⟩
  | succ m ih =>
    intro n i h0 h hn hi e f
    obtain ⟨n, rfl⟩ : ∃ n', n = n' + 1 := ⟨n - 1, by omega⟩
    rw [f_X0_matchNone_L2_s, if_neg (by omega), if_pos (by unfold inb; omega), wr_id (by omega) (by omega)]
    unfold lt
    rw [show (i : Int) + 1 = ((i + 1 : Nat) : Int) by omega]
    refine ih n (i + 1) h0 _ (by omega) (by omega) (fun k hk => ?_) (fun a ha => ?_)
    · by_cases c : k = i
      · rw [hup_eq ⟨rfl, by omega⟩]
      · rw [hup_far (by omega)]
        exact e k (by omega)
    · rw [row_hup ha]
      exact f a ha
theorem c_none2_L : ∀ (m n : Nat) (i : Nat) (h0 h : Hp), m < n → i + m = 12 → (∀ k, k < i → h 26 k = -1) → (∀ a, a ≠ 26 → h a = h0 a) →
    ∃ h', f_X0_matchNone_L16 n (i : Int) h = some (0, h') ∧ (∀ k, k < 12 → h' 26 k = -1) ∧ h' 19 9 = 0 ∧ ∀ a k, a ≠ 26 → ¬ (a = 19 ∧ k = 9) → h' a k = h0 a k := by
  intro m
  induction m with
  | zero =>
    intro n i h0 h hn hi e f
    obtain ⟨n, rfl⟩ : ∃ n', n = n' + 1 := ⟨n - 1, by omega⟩
    rw [f_X0_matchNone_L16_s, if_pos (by omega)]
    refine ⟨_, rfl, fun k hk => ?_, hup_same, fun a k q1 q2 => ?_⟩
    · rw [hup_far (by omega)]
      exact e k (by omega)
    · rw [hup_far (by omega), f a q1]
  | succ m ih =>
    intro n i h0 h hn hi e f
    obtain ⟨n, rfl⟩ : ∃ n', n = n' + 1 := ⟨n - 1, by omega⟩
    rw [f_X0_matchNone_L16_s, if_neg (by omega), if_pos (by unfold inb; omega), wr_id (by omega) (by omega)]
    unfold lt
    rw [show (i : Int) + 1 = ((i + 1 : Nat) : Int) by omega]
    refine ih n (i + 1) h0 _ (by omega) (by omega) (fun k hk => ?_) (fun a ha => ?_)
    · by_cases c : k = i
      · rw [hup_eq ⟨rfl, by omega⟩]
      · rw [hup_far (by omega)]
        exact e k (by omega)
    · rw [row_hup ha]
      exact f a ha
theorem c_none {h : Hp} : ∃ h', f_X0_matchNone h = some (0, h') ∧ MCq h' mt0 ∧ FrJ h h' := by
  unfold f_X0_matchNone
  have := fu_gt
  obtain ⟨g, a1, a2, a3⟩ := c_none1_L (c14 := fun h2 => f_X0_matchNone_L16 fu 0 h2) 12 fu 0 h h (by omega) (by omega) (fun k hk => by omega) (fun _ _ => rfl)
  obtain ⟨h', b1, b2, b3, b4⟩ := c_none2_L 12 fu 0 g g (by omega) (by omega) (fun k hk => by omega) (fun _ _ => rfl)
  rw [show ((0 : Nat) : Int) = 0 from rfl] at a1 b1
  rw [a1]
  refine ⟨h', b1, ⟨fun i hi => ⟨?_, b2 i hi⟩, b3⟩, fun a k q => ?_⟩
  · rw [b4 25 i (by omega) (by omega)]
    exact a2 i hi
  · rw [b4 a k (by omega) (by omega), a3 a (by omega)]
theorem FrJ.s {h h' : Hp} (f : FrJ h h') : FrS h h' := fun a ha => funext fun k => f a k (by omega)
theorem c_matchAll {o : Nat} {s : Rw} {N : Int} {h : Hp} (ho : o ≤ 10) (hV : Vn s) (hD : Vd N s) (hN : N ≤ 1000000) (R : SR h o s) : ∃ h', f_X0_matchAll o h = some (0, h') ∧ MCq h' (mtA s) ∧ WA s h' ∧ FrS h h' := by
  unfold f_X0_matchAll
  obtain ⟨h1, a1, a2, a3⟩ := c_weighAll ho hV hD hN R
  obtain ⟨h2, b1, b2, b3⟩ := c_none (h := h1)
  have := fu_gt
  obtain ⟨h3, d1, d2, d3, d4⟩ := c_mt_L (o := o) hV 12 fu 0 mt0 h2 (by omega) (by omega) (a2.fr b3) b2 (Int.le_refl 0) (Int.le_refl 0)
  rw [a1, bd_s, b1, bd_s]
  exact ⟨h3, d1, d2, d3, (a3.tr b3.s).tr d4.s⟩
end Match1

/-! the pure part: all matches: the class -/
section Match1
/-- a matching: the claim of an umbrella, the umbrella of a claim, how many -/
abbrev MgQ : Type := Rw × Rw × Int
def bst (s : Rw) (q : MgQ) : Int := bes s q.1 q.2.1 144
def stp (k : Nat) (q : MgQ) : MgQ := (gup q.1 (k / 12) ((k % 12 : Nat) : Int), gup q.2.1 (k % 12) ((k / 12 : Nat) : Int), q.2.2 + 1)
def mtc (s : Rw) : Nat → MgQ → MgQ
  | 0, q => q
  | n + 1, q => if bst s q = -1 then q else mtc s n (stp (bst s q).toNat q)
theorem mtc_step (s : Rw) (n : Nat) (q : MgQ) : mtc s (n + 1) q = if bst s q = -1 then q else mtc s n (stp (bst s q).toNat q) := rfl
def mt0 : MgQ := (fun _ => -1, fun _ => -1, 0)
def mtA (s : Rw) : MgQ := mtc s 12 mt0
/-- a matching's pairs suit; it is one to one; umbrellas matched are as many as it says -/
def MgI (s : Rw) (q : MgQ) : Prop := ∀ i : Nat, q.1 i = -1 ∨ (0 ≤ q.1 i ∧ q.1 i < s 16 ∧ (i : Int) < s 15 ∧ sut s i (q.1 i).toNat ∧ q.2.1 (q.1 i).toNat = i)
def MgJ (s : Rw) (q : MgQ) : Prop := ∀ c : Nat, q.2.1 c = -1 ∨ (0 ≤ q.2.1 c ∧ q.2.1 c < s 15 ∧ (c : Int) < s 16 ∧ q.1 (q.2.1 c).toNat = c)
theorem mt0_I (s : Rw) : MgI s mt0 ∧ MgJ s mt0 := ⟨fun i => Or.inl rfl, fun c => Or.inl rfl⟩
theorem bst_b (s : Rw) (q : MgQ) : bst s q = -1 ∨ (0 ≤ bst s q ∧ bst s q < 144 ∧ elP s q.1 q.2.1 (bst s q).toNat) := by
  rcases bes_b s q.1 q.2.1 144 with b | b
  · exact Or.inl b
  · exact Or.inr ⟨b.1, b.2.1, b.2.2⟩
theorem stp_I {s : Rw} {q : MgQ} {k : Nat} (hI : MgI s q) (hJ : MgJ s q) (e : elP s q.1 q.2.1 k) : MgI s (stp k q) ∧ MgJ s (stp k q) := by
  obtain ⟨⟨⟨e1, e2⟩, e3⟩, e4, e5⟩ := e
  refine ⟨fun i => ?_, fun c => ?_⟩
  · show gup q.1 (k / 12) ((k % 12 : Nat) : Int) i = -1 ∨ _
    by_cases c : i = k / 12
    · refine Or.inr ?_
      have ei : (stp k q).1 i = ((k % 12 : Nat) : Int) := gup_eq c
      rw [ei, show (((k % 12 : Nat) : Int)).toNat = k % 12 by omega]
      refine ⟨by omega, e2, by rw [c]; exact e1, by rw [c]; exact e3, ?_⟩
      show gup q.2.1 (k % 12) ((k / 12 : Nat) : Int) (k % 12) = _
      rw [gup_same, c]
    · rw [show (stp k q).1 i = q.1 i from gup_far c, gup_far c]
      rcases hI i with h | h
      · exact Or.inl h
      · refine Or.inr ⟨h.1, h.2.1, h.2.2.1, h.2.2.2.1, ?_⟩
        show gup q.2.1 (k % 12) ((k / 12 : Nat) : Int) (q.1 i).toNat = _
        have ne : (q.1 i).toNat ≠ k % 12 := fun x => by
          have := h.2.2.2.2
          rw [x, e5] at this
          omega
        rw [gup_far ne]
        exact h.2.2.2.2
  · show gup q.2.1 (k % 12) ((k / 12 : Nat) : Int) c = -1 ∨ _
    by_cases cc : c = k % 12
    · refine Or.inr ?_
      have ei : (stp k q).2.1 c = ((k / 12 : Nat) : Int) := gup_eq cc
      rw [ei, show (((k / 12 : Nat) : Int)).toNat = k / 12 by omega]
      refine ⟨by omega, e1, by rw [cc]; exact e2, ?_⟩
      show gup q.1 (k / 12) ((k % 12 : Nat) : Int) (k / 12) = _
      rw [gup_same, cc]
    · rw [show (stp k q).2.1 c = q.2.1 c from gup_far cc, gup_far cc]
      rcases hJ c with h | h
      · exact Or.inl h
      · refine Or.inr ⟨h.1, h.2.1, h.2.2.1, ?_⟩
        show gup q.1 (k / 12) ((k % 12 : Nat) : Int) (q.2.1 c).toNat = _
        have ne : (q.2.1 c).toNat ≠ k / 12 := fun x => by
          have := h.2.2.2
          rw [x, e4] at this
          omega
        rw [gup_far ne]
        exact h.2.2.2
end Match1

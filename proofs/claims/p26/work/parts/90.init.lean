/-! the world that the constructor makes -/
section Init1
def hI : Hp := hCl hF
theorem li_I : ∀ i, i < 76 → ∀ k, k < 14 → (match off (kd i).1 k with | some o => decide (hI i k = ((i + o : Nat) : Int)) | none => true) = true := by decide +kernel
theorem off_14 {c k o : Nat} (h : off c k = some o) : k < 14 := by
  rcases Nat.lt_or_ge k 14 with q | q
  · exact q
  · exfalso
    unfold off at h
    split at h
    · rw [if_neg (by omega)] at h
      cases h
    · rw [List.getElem?_eq_none (by simp; omega)] at h
      cases h
    · rw [List.getElem?_eq_none (by simp; omega)] at h
      cases h
    · rw [List.getD_eq_getElem?_getD, List.getElem?_eq_none (by simp; omega)] at h
      cases h
    · rw [List.getD_eq_getElem?_getD, List.getElem?_eq_none (by simp; omega)] at h
      cases h
    · cases h
theorem row_Lp : ∀ (m i : Nat) (h : Hp) (a : Nat), i + m ≤ 5 → 76 ≤ a → hLp m i h a = h a := by
  intro m
  induction m with
  | zero => intro i h a _ _; rfl
  | succ m ih =>
    intro i h a hi ha
    show hLp m (i + 1) _ a = _
    rw [ih _ _ _ (by omega) ha, hup_o (by omega), row_off (by omega)]
theorem row_Cl {h : Hp} {a : Nat} (ha : 76 ≤ a) : hCl h a = h a := by
  unfold hCl
  rw [row_Lp 5 0 _ a (by omega) ha]
  unfold hCl0
  have q : a ≠ 0 := by omega
  rw [hup_o q, hup_o q, hup_o q, hup_o q, hup_o q, row_Tx (by omega), hup_o q, hup_o q, hup_o q, row_Mt (by omega), hup_o q, row_off (by omega), hup_o q, row_off (by omega)]
theorem hF_s {i k : Nat} (h1 : 84 ≤ i) (h2 : i < 87) : hF i k = sA i k := by
  have hk : kd i = (30, 7) := by
    rcases (show i = 84 ∨ i = 85 ∨ i = 86 by omega) with rfl | rfl | rfl
    · exact kd_84
    · exact kd_85
    · exact kd_86
  unfold hF
  rw [hk, if_neg (by decide), if_neg (by decide), if_pos ⟨h1, h2⟩]
theorem row_27 : ∀ (m i k : Nat) (h : Hp), i + m ≤ 5 → 5 ≤ k → hLp m i h 27 k = h 27 k := by
  intro m
  induction m with
  | zero => intro i k h _ _; rfl
  | succ m ih =>
    intro i k h hi hk
    show hLp m (i + 1) _ 27 k = _
    rw [ih _ _ _ (by omega) hk, hup_far (by omega), row_off (by omega)]
theorem i_27 : ∀ k, k < 5 → hI 27 k < 76 := by decide +kernel
theorem i_27b {k : Nat} (hk : 5 ≤ k) : hI 27 k < 76 := by
  have q : (27 : Nat) ≠ 0 := by omega
  unfold hI hCl
  rw [row_27 5 0 k _ (by omega) hk]
  unfold hCl0
  rw [hup_o q, hup_o q, hup_o q, hup_o q, hup_o q, row_Tx (by omega), hup_o q, hup_o q, hup_o q, row_Mt (by omega), hup_o q, row_off (by omega), hup_o q, row_off (by omega)]
  unfold hF
  rw [kd_27, if_neg (by omega), if_pos rfl]
  omega
theorem LI_I : LI hI := by
  refine ⟨fun i k o q => ?_, fun i k h1 h2 => ?_, fun i k q => ?_⟩
  · have k14 := off_14 q
    have i84 : i < 76 := by
      refine kd_lt (c := (kd i).1) rfl ?_
      rcases Nat.lt_or_ge (kd i).1 20 with z | z
      · exact z
      · exfalso
        unfold off at q
        split at q <;> first | omega | cases q
    have z := li_I i i84 k k14
    rw [q] at z
    exact of_decide_eq_true z
  · unfold hI
    rw [row_Cl (by omega)]
    exact hF_s h1 h2
  · have i76 : i < 76 := kd_lt q (by omega)
    have key : ∀ i, i < 76 → (kd i).1 = 13 → i = 27 := by decide +kernel
    obtain rfl := key i i76 q
    rcases Nat.lt_or_ge k 5 with z | z
    · exact i_27 k z
    · exact i_27b z
theorem sA_R (i k : Nat) : iR (sA i k) := by
  by_cases q : 84 ≤ i ∧ i < 87
  · rcases Nat.lt_or_ge k 7 with z | z
    · have key : ∀ i, i < 87 → ∀ k, k < 7 → (decide (-2147483648 ≤ sA i k) && decide (sA i k < 2147483648)) = true := by decide +kernel
      have := key i (by omega) k z
      simp only [Bool.and_eq_true, decide_eq_true_eq] at this
      exact this
    · have e : sA i k = 0 := by
        rcases (show i = 84 ∨ i = 85 ∨ i = 86 by omega) with rfl | rfl | rfl <;>
        · show List.getD _ k 0 = 0
          rw [List.getD_eq_getElem?_getD, List.getElem?_eq_none (by simp; omega)]
          rfl
      rw [e]
      exact iR_0
  · have e : sA i k = 0 := by
      unfold sA
      split
      · omega
      · omega
      · omega
      · rfl
    rw [e]
    exact iR_0
theorem hR_F : hR hF := fun i k => by
  unfold hF
  split
  · split
    · exact ⟨by omega, by omega⟩
    · exact iR_0
  · split
    · exact ⟨by omega, by omega⟩
    · split
      · exact sA_R i k
      · exact iR_0
theorem hR_u {h : Hp} {i k : Nat} {x : Int} (hh : hR h) (h1 : -1 ≤ x) (h2 : x ≤ 2000) : hR (hup h i k x) := hR_hup hh ⟨by omega, by omega⟩
theorem hR_rows {h : Hp} {r : Nat} (hh : hR h) (hr : r ≤ 100) : hR (hRows h r) := hR_u (hR_u hh (by omega) (by omega)) (by omega) (by omega)
theorem hR_off {h : Hp} {o : Nat} (hh : hR h) (ho : o ≤ 80) : hR (hOff h o) := by
  unfold hOff
  have g := hR_u (i := o) (k := 4) (x := ((o + 8 : Nat) : Int)) (hR_u (i := o) (k := 3) (x := ((o + 7 : Nat) : Int)) (hR_u (i := o) (k := 2) (x := ((o + 5 : Nat) : Int)) (hR_rows (r := o + 5) (hR_u (i := o) (k := 1) (x := ((o + 3 : Nat) : Int)) (hR_rows (r := o + 3) (hR_u (i := o) (k := 0) (x := ((o + 1 : Nat) : Int)) (hR_rows (r := o + 1) hh (by omega)) (by omega) (by omega)) (by omega)) (by omega) (by omega)) (by omega)) (by omega) (by omega)) (by omega) (by omega)) (by omega) (by omega)
  intro a b
  unfold hset
  split
  · exact sA_R 84 b
  · exact g a b
theorem hR_Mt {h : Hp} (hh : hR h) : hR (hMt h) := by
  unfold hMt
  repeat (first | exact hh | refine hR_u ?_ (by omega) (by omega))
theorem hR_Tx {h : Hp} (hh : hR h) : hR (hTx h) := by
  unfold hTx
  repeat (first | exact hh | refine hR_u ?_ (by omega) (by omega))
theorem hR_Lp : ∀ (m i : Nat) (h : Hp), i + m ≤ 5 → hR h → hR (hLp m i h) := by
  intro m
  induction m with
  | zero => intro i h _ hh; exact hh
  | succ m ih =>
    intro i h hi hh
    exact ih _ _ (by omega) (hR_u (hR_off hh (by omega)) (by omega) (by omega))
theorem hR_I : hR hI := by
  refine hR_Lp 5 0 _ (by omega) ?_
  unfold hCl0
  refine hR_u (hR_u (hR_u (hR_u (hR_u (hR_Tx (hR_u (hR_u (hR_u (hR_Mt (hR_u (hR_off (hR_u (hR_off hR_F (by omega)) (by omega) (by omega)) (by omega)) (by omega) (by omega))) (by omega) (by omega)) (by omega) (by omega)) (by omega) (by omega))) (by omega) (by omega)) (by omega) (by omega)) (by omega) (by omega)) (by omega) (by omega)) (by omega) (by omega)
/-- the first office -/
def s00 : Rw := fun k => if 1 ≤ k ∧ k ≤ 7 then sA 84 (k - 1) else 0
theorem i_n : hI 0 4 = 0 := by decide +kernel
theorem i_refs : (∀ j, j < 5 → IO (hI 27 j)) ∧ ∀ i, i < 5 → ∀ j, j < 5 → hI 27 i = hI 27 j → i = j := by decide +kernel
theorem i_sz : hI 2 1 = 0 ∧ hI 4 1 = 0 ∧ hI 6 1 = 0 ∧ s00 15 = 0 ∧ s00 16 = 0 ∧ s00 17 = 0 ∧ s00 0 = 0 ∧ hI 9 0 = 0 := by decide +kernel
theorem i_set : ∀ k, k < 7 → hI 8 k = s00 (1 + k) ∧ hI 9 (5 + k) = s00 (8 + k) ∧ sA 85 k ≤ s00 (1 + k) ∧ s00 (1 + k) ≤ sA 86 k := by decide +kernel
theorem i_sum : ∀ k, k < 15 → 8 ≤ k → s00 k = 0 := by decide +kernel
theorem SV_I : SR hI 1 s00 ∧ Vg 0 s00 := by
  obtain ⟨z1, z2, z3, z4, z5, z6, z7, z8⟩ := i_sz
  refine ⟨⟨⟨?_, ?_⟩, ⟨?_, ?_⟩, ⟨?_, ?_⟩, ?_, ⟨?_, ?_⟩⟩, ⟨⟨?_, ?_, ?_⟩, ⟨?_, ?_, ?_⟩, ?_, ?_⟩⟩
  · rw [z4]; exact z1
  · intro i c hi; rw [z4] at hi; omega
  · rw [z5]; exact z2
  · intro i c hi; rw [z5] at hi; omega
  · rw [z6]; exact z3
  · intro i c hi; rw [z6] at hi; omega
  · intro k hk; exact (i_set k hk).1
  · rw [z7]; exact z8
  · intro k hk; exact (i_set k hk).2.1
  · rw [z4]; omega
  · rw [z5]; omega
  · rw [z6]; omega
  · intro i c hi; rw [z4] at hi; omega
  · intro i hi; rw [z5] at hi; omega
  · intro k hk; exact (i_set k hk).2.2
  · rw [z7]; omega
  · rw [z7]; omega
theorem St_I : St 0 0 (fun _ => s00) hI := ⟨by omega, i_n, ⟨i_refs.1, fun i j a b => i_refs.2 i a j b⟩, SV_I.1, SV_I.2, fun j a b => by omega, LI_I.2.1⟩
theorem Iv_I : Iv 0 s00 := by
  obtain ⟨z1, z2, z3, z4, z5, z6, z7, z8⟩ := i_sz
  have g := fun k a b => i_sum k a b
  unfold Iv
  rw [g 8 (by omega) (by omega), g 9 (by omega) (by omega), g 10 (by omega) (by omega), g 11 (by omega) (by omega), g 12 (by omega) (by omega), g 13 (by omega) (by omega), g 14 (by omega) (by omega), z4, z5, z6]
  exact ⟨⟨by omega, by omega, by omega, by omega⟩, by omega, by omega, ⟨by omega, by omega⟩, by rw [if_pos (by omega)]; omega, iR_0⟩
theorem Gd_I : Gd 0 0 hI := ⟨s00, ⟨0, _, St_I, rfl⟩, Iv_I⟩
end Init1

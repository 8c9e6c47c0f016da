/-! the pure part: the class's umbrellas that are sold, claims that lapse, weeks that go by -/
section Office3
theorem sel_set {k : Nat} (hk : k = 6 ∨ k = 7 ∨ k = 0) : ∀ (n u : Nat) (s : Rw), Vn s → (u : Int) + n = s 15 → sel n u s k = s k := by
  intro n
  induction n with
  | zero => intro u s _ _; rfl
  | succ n ih =>
    intro u s hV hn
    rw [sel_step]
    by_cases c : s (18 + 5 * u + 4) < s 6
    · rw [if_pos c]
      exact ih (u + 1) s hV (by omega)
    · rw [if_neg c]
      have hh : hiR (fun _ j => s j) 0 s := fun j _ => by rw [Nat.zero_add]
      have key := sel_keep (h := fun _ j => s j) (b := 0) 1 u s
      obtain ⟨v1, v2, v3⟩ := hV
      have w := wri_n s 1 (s (18 + 5 * u + 4)) (s 7) v3.1 v3.2
      have e15 : ugo (gup (wri s 1 (s (18 + 5 * u + 4)) (s 7)) 11 (wr (s 11 + 1))) u 15 = s 15 - 1 := by
        unfold ugo
        rw [if_pos rfl, gup_far (by decide), wri_lo v3.1 (by decide) (by decide) (by decide)]
      have f15 : gup (wri s 1 (s (18 + 5 * u + 4)) (s 7)) 11 (wr (s 11 + 1)) 15 = s 15 := by rw [gup_far (by decide), wri_lo v3.1 (by decide) (by decide) (by decide)]
      have e16 : ugo (gup (wri s 1 (s (18 + 5 * u + 4)) (s 7)) 11 (wr (s 11 + 1))) u 16 = s 16 := by
        unfold ugo
        rw [if_neg (by decide), if_neg (by omega), gup_far (by decide), wri_lo v3.1 (by decide) (by decide) (by decide)]
      have e17 : ugo (gup (wri s 1 (s (18 + 5 * u + 4)) (s 7)) 11 (wr (s 11 + 1))) u 17 = wri s 1 (s (18 + 5 * u + 4)) (s 7) 17 := by
        unfold ugo
        rw [if_neg (by decide), if_neg (by omega), gup_far (by decide)]
      rw [ih u _ ⟨by rw [e15]; omega, by rw [e16]; exact v2, by rw [e17]; exact w⟩ (by rw [e15]; omega), ugo_far (by rw [f15]; exact v1.2) (by omega) (by omega), gup_far (by omega), wri_lo v3.1 (by omega) (by omega) (by omega)]
theorem c_sel {o : Nat} : ∀ (m n : Nat) (h : Hp) (s : Rw) (u left z : Int), m < n → 0 ≤ u → left = m → u + m = s 15 → z = s 7 → SR h o s → Vn s → ∃ h', f_X1_endOld_L5 o (o + 1) 1 8 z n u left h = some (0, h') ∧ SR h' o (sel m u.toNat s) ∧ FrO o h h' := by
  intro m
  induction m with
  | zero =>
    intro n h s u left z hn hu hl hs hz R hV
    obtain ⟨n, rfl⟩ : ∃ n', n = n' + 1 := ⟨n - 1, by omega⟩
    rw [f_X1_endOld_L5_s, if_pos (by omega)]
    exact ⟨h, rfl, R, FrO.rf⟩
  | succ m ih =>
    intro n h s u left z hn hu hl hs hz R hV
    obtain ⟨n, rfl⟩ : ∃ n', n = n' + 1 := ⟨n - 1, by omega⟩
    have v := hV
    obtain ⟨v1, v2, v3⟩ := v
    have e1 := R.1.1
    have ea : h (o + 1 + 1) (u * 6 + 4).toNat = s (18 + 5 * u.toNat + 4) := by
      rw [show (u * 6 + 4).toNat = 6 * u.toNat + 4 by omega]
      exact R.1.2 u.toNat 4 (by omega) (by omega)
    have e6 : h (o + 7) (Int.toNat 5) = s 6 := R.2.2.2.1 5 (by omega)
    rw [f_X1_endOld_L5_s, if_neg (by omega), p_cell (by rw [e1]; exact v1.2), bd_s, e1, if_pos (by omega), ea, p_setting (by omega) (by omega), bd_s, e6, sel_step]
    by_cases c : s (18 + 5 * u.toNat + 4) < s 6
    · rw [if_neg (by omega), if_pos c, wr_id (by omega) (by omega), wr_id (by omega) (by omega), show u.toNat + 1 = (u + 1).toNat by omega]
      exact ih n h s (u + 1) (left + (-1)) z (by omega) (by omega) (by omega) (by omega) hz R hV
    · rw [if_pos (by omega), if_neg c]
      obtain ⟨h1, a1, a2, a3⟩ := c_remU R hV hu (by omega)
      sorry
end Office3

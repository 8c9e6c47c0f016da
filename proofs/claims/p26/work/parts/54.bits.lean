/-! the pure part: the bits of a mean -/
section Bits1
def hv : Nat → UInt32 → Int → Option (UInt32 × Int)
  | 0, _, _ => none
  | k + 1, x, e => if (Op.cmpValue (FP.fcmp x 0x40000000) .l).toInt < 0 then some (x, e) else if nN (FP.fdiv x 0x40000000) then hv k (FP.fdiv x 0x40000000) (e + 1) else none
theorem hv_L {c20 : UInt32 → Int → Hp → Option (Int × Hp)} {h : Hp} : ∀ (k n : Nat) (x x' : UInt32) (e e' i : Int), hv k x e = some (x', e') → k ≤ n → -1000 ≤ e → e + k ≤ 1000 → 0 ≤ i → i + k ≤ 127 → f_X4_bitsOf_L6 c20 n x e i h = c20 x' e' h := by
  intro k
  induction k with
  | zero =>
    intro n x x' e e' i q
    cases q
  | succ k ih =>
    intro n x x' e e' i q hn e0 e1 i0 i1
    obtain ⟨n, rfl⟩ : ∃ n', n = n' + 1 := ⟨n - 1, by omega⟩
    unfold hv at q
    rw [f_X4_bitsOf_L6_s, if_neg (by omega)]
    by_cases c : (Op.cmpValue (FP.fcmp x 0x40000000) .l).toInt < 0
    · rw [if_pos c] at q
      rw [if_pos c]
      cases q
      rfl
    · rw [if_neg c] at q
      rw [if_neg c]
      by_cases c2 : nN (FP.fdiv x 0x40000000)
      · rw [if_pos c2] at q
        rw [if_pos c2, wr_id (by omega) (by omega), wr_id (by omega) (by omega)]
        exact ih n _ x' (e + 1) e' (i + 1) q (by omega) (by omega) (by omega) (by omega) (by omega)
      · rw [if_neg c2] at q
        cases q
def fx (y n : Int) : UInt32 := FP.fdiv (FP.i2f (Int32.ofInt y)) (FP.i2f (Int32.ofInt n))
def okG (f x' : UInt32) (e' : Int) : Bool := decide (nN (FP.fsub x' 0x3f800000)) && decide (nN (FP.fmul (FP.fsub x' 0x3f800000) 1258291200)) && decide ((Int32.ofInt (Int32.ofInt e' <<< (Int32.ofInt 23 &&& 31)).toInt ||| Int32.ofInt (FP.f2i (FP.fmul (FP.fsub x' 0x3f800000) 1258291200)).toInt).toInt = (UInt32.toInt32 f).toInt)
def okF (f : UInt32) : Bool := decide (nN f) && decide ((Op.cmpValue (FP.fcmp f f) .l).toInt = 0) && match hv 8 f 127 with
  | none => false
  | some (x', e') => okG f x' e'
def okZ (n lo : Nat) : Nat → Bool
  | 0 => true
  | k + 1 => okF (fx ((lo + k : Nat) : Int) (n : Int)) && okZ n lo k
theorem okZ_at {n lo : Nat} : ∀ (m k : Nat), okZ n lo m = true → k < m → okF (fx ((lo + k : Nat) : Int) (n : Int)) = true := by
  intro m
  induction m with
  | zero => intro k _ h; omega
  | succ m ih =>
    intro k q h
    unfold okZ at q
    rw [Bool.and_eq_true] at q
    by_cases c : k = m
    · rw [c]; exact q.1
    · exact ih k q.2 (by omega)
theorem okz_1_1 : okZ 1 1 52 = true := by decide +kernel
theorem okz_2_2 : okZ 2 2 90 = true := by decide +kernel
theorem okz_2_92 : okZ 2 92 13 = true := by decide +kernel
theorem okz_3_3 : okZ 3 3 90 = true := by decide +kernel
theorem okz_3_93 : okZ 3 93 64 = true := by decide +kernel
theorem okz_4_4 : okZ 4 4 90 = true := by decide +kernel
theorem okz_4_94 : okZ 4 94 90 = true := by decide +kernel
theorem okz_4_184 : okZ 4 184 25 = true := by decide +kernel
theorem okz_5_5 : okZ 5 5 90 = true := by decide +kernel
theorem okz_5_95 : okZ 5 95 90 = true := by decide +kernel
theorem okz_5_185 : okZ 5 185 76 = true := by decide +kernel
theorem okz_6_6 : okZ 6 6 90 = true := by decide +kernel
theorem okz_6_96 : okZ 6 96 90 = true := by decide +kernel
theorem okz_6_186 : okZ 6 186 90 = true := by decide +kernel
theorem okz_6_276 : okZ 6 276 37 = true := by decide +kernel
theorem okz_7_7 : okZ 7 7 90 = true := by decide +kernel
theorem okz_7_97 : okZ 7 97 90 = true := by decide +kernel
theorem okz_7_187 : okZ 7 187 90 = true := by decide +kernel
theorem okz_7_277 : okZ 7 277 88 = true := by decide +kernel
theorem okz_8_8 : okZ 8 8 90 = true := by decide +kernel
theorem okz_8_98 : okZ 8 98 90 = true := by decide +kernel
theorem okz_8_188 : okZ 8 188 90 = true := by decide +kernel
theorem okz_8_278 : okZ 8 278 90 = true := by decide +kernel
theorem okz_8_368 : okZ 8 368 49 = true := by decide +kernel
theorem okz_9_9 : okZ 9 9 90 = true := by decide +kernel
theorem okz_9_99 : okZ 9 99 90 = true := by decide +kernel
theorem okz_9_189 : okZ 9 189 90 = true := by decide +kernel
theorem okz_9_279 : okZ 9 279 90 = true := by decide +kernel
theorem okz_9_369 : okZ 9 369 90 = true := by decide +kernel
theorem okz_9_459 : okZ 9 459 10 = true := by decide +kernel
theorem okz_10_10 : okZ 10 10 90 = true := by decide +kernel
theorem okz_10_100 : okZ 10 100 90 = true := by decide +kernel
theorem okz_10_190 : okZ 10 190 90 = true := by decide +kernel
theorem okz_10_280 : okZ 10 280 90 = true := by decide +kernel
theorem okz_10_370 : okZ 10 370 90 = true := by decide +kernel
theorem okz_10_460 : okZ 10 460 61 = true := by decide +kernel
theorem okz_11_11 : okZ 11 11 90 = true := by decide +kernel
theorem okz_11_101 : okZ 11 101 90 = true := by decide +kernel
theorem okz_11_191 : okZ 11 191 90 = true := by decide +kernel
theorem okz_11_281 : okZ 11 281 90 = true := by decide +kernel
theorem okz_11_371 : okZ 11 371 90 = true := by decide +kernel
theorem okz_11_461 : okZ 11 461 90 = true := by decide +kernel
theorem okz_11_551 : okZ 11 551 22 = true := by decide +kernel
theorem okz_12_12 : okZ 12 12 90 = true := by decide +kernel
theorem okz_12_102 : okZ 12 102 90 = true := by decide +kernel
theorem okz_12_192 : okZ 12 192 90 = true := by decide +kernel
theorem okz_12_282 : okZ 12 282 90 = true := by decide +kernel
theorem okz_12_372 : okZ 12 372 90 = true := by decide +kernel
theorem okz_12_462 : okZ 12 462 90 = true := by decide +kernel
theorem okz_12_552 : okZ 12 552 73 = true := by decide +kernel
theorem okn_1 (y : Nat) (h1 : 1 ≤ y) (h2 : y ≤ 52) : okF (fx (y : Int) ((1 : Nat) : Int)) = true := by
  rw [show y = 1 + (y - 1) by omega]
  exact okZ_at 52 _ okz_1_1 (by omega)
theorem okn_2 (y : Nat) (h1 : 2 ≤ y) (h2 : y ≤ 104) : okF (fx (y : Int) ((2 : Nat) : Int)) = true := by
  by_cases c2 : y < 92
  · rw [show y = 2 + (y - 2) by omega]
    exact okZ_at 90 _ okz_2_2 (by omega)
  rw [show y = 92 + (y - 92) by omega]
  exact okZ_at 13 _ okz_2_92 (by omega)
theorem okn_3 (y : Nat) (h1 : 3 ≤ y) (h2 : y ≤ 156) : okF (fx (y : Int) ((3 : Nat) : Int)) = true := by
  by_cases c3 : y < 93
  · rw [show y = 3 + (y - 3) by omega]
    exact okZ_at 90 _ okz_3_3 (by omega)
  rw [show y = 93 + (y - 93) by omega]
  exact okZ_at 64 _ okz_3_93 (by omega)
theorem okn_4 (y : Nat) (h1 : 4 ≤ y) (h2 : y ≤ 208) : okF (fx (y : Int) ((4 : Nat) : Int)) = true := by
  by_cases c4 : y < 94
  · rw [show y = 4 + (y - 4) by omega]
    exact okZ_at 90 _ okz_4_4 (by omega)
  by_cases c94 : y < 184
  · rw [show y = 94 + (y - 94) by omega]
    exact okZ_at 90 _ okz_4_94 (by omega)
  rw [show y = 184 + (y - 184) by omega]
  exact okZ_at 25 _ okz_4_184 (by omega)
theorem okn_5 (y : Nat) (h1 : 5 ≤ y) (h2 : y ≤ 260) : okF (fx (y : Int) ((5 : Nat) : Int)) = true := by
  by_cases c5 : y < 95
  · rw [show y = 5 + (y - 5) by omega]
    exact okZ_at 90 _ okz_5_5 (by omega)
  by_cases c95 : y < 185
  · rw [show y = 95 + (y - 95) by omega]
    exact okZ_at 90 _ okz_5_95 (by omega)
  rw [show y = 185 + (y - 185) by omega]
  exact okZ_at 76 _ okz_5_185 (by omega)
theorem okn_6 (y : Nat) (h1 : 6 ≤ y) (h2 : y ≤ 312) : okF (fx (y : Int) ((6 : Nat) : Int)) = true := by
  by_cases c6 : y < 96
  · rw [show y = 6 + (y - 6) by omega]
    exact okZ_at 90 _ okz_6_6 (by omega)
  by_cases c96 : y < 186
  · rw [show y = 96 + (y - 96) by omega]
    exact okZ_at 90 _ okz_6_96 (by omega)
  by_cases c186 : y < 276
  · rw [show y = 186 + (y - 186) by omega]
    exact okZ_at 90 _ okz_6_186 (by omega)
  rw [show y = 276 + (y - 276) by omega]
  exact okZ_at 37 _ okz_6_276 (by omega)
theorem okn_7 (y : Nat) (h1 : 7 ≤ y) (h2 : y ≤ 364) : okF (fx (y : Int) ((7 : Nat) : Int)) = true := by
  by_cases c7 : y < 97
  · rw [show y = 7 + (y - 7) by omega]
    exact okZ_at 90 _ okz_7_7 (by omega)
  by_cases c97 : y < 187
  · rw [show y = 97 + (y - 97) by omega]
    exact okZ_at 90 _ okz_7_97 (by omega)
  by_cases c187 : y < 277
  · rw [show y = 187 + (y - 187) by omega]
    exact okZ_at 90 _ okz_7_187 (by omega)
  rw [show y = 277 + (y - 277) by omega]
  exact okZ_at 88 _ okz_7_277 (by omega)
theorem okn_8 (y : Nat) (h1 : 8 ≤ y) (h2 : y ≤ 416) : okF (fx (y : Int) ((8 : Nat) : Int)) = true := by
  by_cases c8 : y < 98
  · rw [show y = 8 + (y - 8) by omega]
    exact okZ_at 90 _ okz_8_8 (by omega)
  by_cases c98 : y < 188
  · rw [show y = 98 + (y - 98) by omega]
    exact okZ_at 90 _ okz_8_98 (by omega)
  by_cases c188 : y < 278
  · rw [show y = 188 + (y - 188) by omega]
    exact okZ_at 90 _ okz_8_188 (by omega)
  by_cases c278 : y < 368
  · rw [show y = 278 + (y - 278) by omega]
    exact okZ_at 90 _ okz_8_278 (by omega)
  rw [show y = 368 + (y - 368) by omega]
  exact okZ_at 49 _ okz_8_368 (by omega)
theorem okn_9 (y : Nat) (h1 : 9 ≤ y) (h2 : y ≤ 468) : okF (fx (y : Int) ((9 : Nat) : Int)) = true := by
  by_cases c9 : y < 99
  · rw [show y = 9 + (y - 9) by omega]
    exact okZ_at 90 _ okz_9_9 (by omega)
  by_cases c99 : y < 189
  · rw [show y = 99 + (y - 99) by omega]
    exact okZ_at 90 _ okz_9_99 (by omega)
  by_cases c189 : y < 279
  · rw [show y = 189 + (y - 189) by omega]
    exact okZ_at 90 _ okz_9_189 (by omega)
  by_cases c279 : y < 369
  · rw [show y = 279 + (y - 279) by omega]
    exact okZ_at 90 _ okz_9_279 (by omega)
  by_cases c369 : y < 459
  · rw [show y = 369 + (y - 369) by omega]
    exact okZ_at 90 _ okz_9_369 (by omega)
  rw [show y = 459 + (y - 459) by omega]
  exact okZ_at 10 _ okz_9_459 (by omega)
theorem okn_10 (y : Nat) (h1 : 10 ≤ y) (h2 : y ≤ 520) : okF (fx (y : Int) ((10 : Nat) : Int)) = true := by
  by_cases c10 : y < 100
  · rw [show y = 10 + (y - 10) by omega]
    exact okZ_at 90 _ okz_10_10 (by omega)
  by_cases c100 : y < 190
  · rw [show y = 100 + (y - 100) by omega]
    exact okZ_at 90 _ okz_10_100 (by omega)
  by_cases c190 : y < 280
  · rw [show y = 190 + (y - 190) by omega]
    exact okZ_at 90 _ okz_10_190 (by omega)
  by_cases c280 : y < 370
  · rw [show y = 280 + (y - 280) by omega]
    exact okZ_at 90 _ okz_10_280 (by omega)
  by_cases c370 : y < 460
  · rw [show y = 370 + (y - 370) by omega]
    exact okZ_at 90 _ okz_10_370 (by omega)
  rw [show y = 460 + (y - 460) by omega]
  exact okZ_at 61 _ okz_10_460 (by omega)
theorem okn_11 (y : Nat) (h1 : 11 ≤ y) (h2 : y ≤ 572) : okF (fx (y : Int) ((11 : Nat) : Int)) = true := by
  by_cases c11 : y < 101
  · rw [show y = 11 + (y - 11) by omega]
    exact okZ_at 90 _ okz_11_11 (by omega)
  by_cases c101 : y < 191
  · rw [show y = 101 + (y - 101) by omega]
    exact okZ_at 90 _ okz_11_101 (by omega)
  by_cases c191 : y < 281
  · rw [show y = 191 + (y - 191) by omega]
    exact okZ_at 90 _ okz_11_191 (by omega)
  by_cases c281 : y < 371
  · rw [show y = 281 + (y - 281) by omega]
    exact okZ_at 90 _ okz_11_281 (by omega)
  by_cases c371 : y < 461
  · rw [show y = 371 + (y - 371) by omega]
    exact okZ_at 90 _ okz_11_371 (by omega)
  by_cases c461 : y < 551
  · rw [show y = 461 + (y - 461) by omega]
    exact okZ_at 90 _ okz_11_461 (by omega)
  rw [show y = 551 + (y - 551) by omega]
  exact okZ_at 22 _ okz_11_551 (by omega)
theorem okn_12 (y : Nat) (h1 : 12 ≤ y) (h2 : y ≤ 624) : okF (fx (y : Int) ((12 : Nat) : Int)) = true := by
  by_cases c12 : y < 102
  · rw [show y = 12 + (y - 12) by omega]
    exact okZ_at 90 _ okz_12_12 (by omega)
  by_cases c102 : y < 192
  · rw [show y = 102 + (y - 102) by omega]
    exact okZ_at 90 _ okz_12_102 (by omega)
  by_cases c192 : y < 282
  · rw [show y = 192 + (y - 192) by omega]
    exact okZ_at 90 _ okz_12_192 (by omega)
  by_cases c282 : y < 372
  · rw [show y = 282 + (y - 282) by omega]
    exact okZ_at 90 _ okz_12_282 (by omega)
  by_cases c372 : y < 462
  · rw [show y = 372 + (y - 372) by omega]
    exact okZ_at 90 _ okz_12_372 (by omega)
  by_cases c462 : y < 552
  · rw [show y = 462 + (y - 462) by omega]
    exact okZ_at 90 _ okz_12_462 (by omega)
  rw [show y = 552 + (y - 552) by omega]
  exact okZ_at 73 _ okz_12_552 (by omega)
theorem mean_bits {y n : Int} {hC hM : Hp} (h1 : 1 ≤ n) (h2 : n ≤ 12) (h3 : n ≤ y) (h4 : y ≤ 52 * n) : nN (fx y n) ∧ ∃ v, f_X4_bitsOf (fx y n) hC = some (v, hC) ∧ f_J_floatToIntBits (fx y n) hM = some (v, hM) := by
  obtain ⟨z, rfl⟩ : ∃ z : Nat, y = z := ⟨y.toNat, by omega⟩
  have q : okF (fx (z : Int) n) = true := by
    rcases (show n = 1 ∨ n = 2 ∨ n = 3 ∨ n = 4 ∨ n = 5 ∨ n = 6 ∨ n = 7 ∨ n = 8 ∨ n = 9 ∨ n = 10 ∨ n = 11 ∨ n = 12 by omega) with rfl | rfl | rfl | rfl | rfl | rfl | rfl | rfl | rfl | rfl | rfl | rfl
    · exact okn_1 z (by omega) (by omega)
    · exact okn_2 z (by omega) (by omega)
    · exact okn_3 z (by omega) (by omega)
    · exact okn_4 z (by omega) (by omega)
    · exact okn_5 z (by omega) (by omega)
    · exact okn_6 z (by omega) (by omega)
    · exact okn_7 z (by omega) (by omega)
    · exact okn_8 z (by omega) (by omega)
    · exact okn_9 z (by omega) (by omega)
    · exact okn_10 z (by omega) (by omega)
    · exact okn_11 z (by omega) (by omega)
    · exact okn_12 z (by omega) (by omega)
  generalize fx (z : Int) n = f at q ⊢
  unfold okF at q
  rw [Bool.and_eq_true, Bool.and_eq_true] at q
  obtain ⟨⟨q1, q2⟩, q3⟩ := q
  have q1 := of_decide_eq_true q1
  have q2 := of_decide_eq_true q2
  refine ⟨q1, (UInt32.toInt32 f).toInt, ?_, ?_⟩
  · generalize e : hv 8 f 127 = z at q3
    match z, e, q3 with
    | some (x', e'), e, q3 =>
      dsimp only at q3
      unfold okG at q3
      rw [Bool.and_eq_true, Bool.and_eq_true] at q3
      obtain ⟨⟨r1, r2⟩, r3⟩ := q3
      have r1 := of_decide_eq_true r1
      have r2 := of_decide_eq_true r2
      have r3 := of_decide_eq_true r3
      unfold f_X4_bitsOf
      rw [hv_L 8 fu f x' 127 e' 0 e (by have := fu_gt; omega) (by omega) (by omega) (by omega) (by omega), if_pos r1, if_pos r2]
      unfold lv
      dsimp only
      rw [r3]
  · unfold f_J_floatToIntBits f_J_isNaN
    rw [if_pos q2, bd_s, if_neg (by omega)]
end Bits1

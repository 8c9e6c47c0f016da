/-! the law's quotient: the bits of the mean: a finite check (printed by wip/p26/quot.py) -/
section Quot26
def qP (y n : Int) : Nat → Int → Option Int
  | 0, _ => none
  | m + 1, p => if y < (Int32.ofInt n <<< (Int32.ofInt (p + 1) &&& 31)).toInt then some p else qP y n m (p + 1)
def qT (y p : Int) : Int64 := Int64.ofInt y <<< ((Int32.ofInt (23 - p)).toInt64 &&& 63)
def qB (l d N : Int64) : Int64 := if 0 < (lg_cmp (2 * l) N).toInt then Int64.ofNat 1 else if ¬ (lg_cmp (2 * l) N).toInt = 0 then Int64.ofNat 0 else if ¬ (lg_cmp (d - d / 2 * 2) (Int64.ofNat 1)).toInt = 0 then Int64.ofNat 0 else Int64.ofNat 1
def qE (y n p : Int) : Int := (Int32.ofInt (127 + p) <<< (Int32.ofInt 23 &&& 31)).toInt + (Int64.toInt32 (qT y p / Int64.ofInt n + qB (qT y p - qT y p / Int64.ofInt n * Int64.ofInt n) (qT y p / Int64.ofInt n) (Int64.ofInt n) - 8388608)).toInt
def okQ (y n : Int) : Bool := match qP y n 10 0 with
  | some p => decide (¬ Int64.ofInt n = 0) && decide (qE y n p = (UInt32.toInt32 (fx y n)).toInt) && decide (0 ≤ p) && decide (p ≤ 20)
  | none => false
def okR (n lo : Nat) : Nat → Bool
  | 0 => true
  | m + 1 => okQ ((lo + m : Nat) : Int) (n : Int) && okR n lo m
theorem okR_at {n lo : Nat} : ∀ (m k : Nat), okR n lo m = true → k < m → okQ ((lo + k : Nat) : Int) (n : Int) = true := by
  intro m
  induction m with
  | zero => intro k _ hk; omega
  | succ m ih =>
    intro k h hk
    have h' : (okQ ((lo + m : Nat) : Int) (n : Int) && okR n lo m) = true := h
    rw [Bool.and_eq_true] at h'
    by_cases c : k = m
    · rw [c]; exact h'.1
    · exact ih k h'.2 (by omega)
theorem okr_1_1 : okR 1 1 52 = true := by decide +kernel
theorem oqn_1 (y : Nat) (h1 : 1 ≤ y) (h2 : y ≤ 52) : okQ (y : Int) ((1 : Nat) : Int) = true := by
  rw [show y = 1 + (y - 1) by omega]
  exact okR_at 52 _ okr_1_1 (by omega)
theorem okr_2_2 : okR 2 2 60 = true := by decide +kernel
theorem okr_2_62 : okR 2 62 43 = true := by decide +kernel
theorem oqn_2 (y : Nat) (h1 : 2 ≤ y) (h2 : y ≤ 104) : okQ (y : Int) ((2 : Nat) : Int) = true := by
  by_cases c2 : y < 62
  · rw [show y = 2 + (y - 2) by omega]
    exact okR_at 60 _ okr_2_2 (by omega)
  rw [show y = 62 + (y - 62) by omega]
  exact okR_at 43 _ okr_2_62 (by omega)
theorem okr_3_3 : okR 3 3 60 = true := by decide +kernel
theorem okr_3_63 : okR 3 63 60 = true := by decide +kernel
theorem okr_3_123 : okR 3 123 34 = true := by decide +kernel
theorem oqn_3 (y : Nat) (h1 : 3 ≤ y) (h2 : y ≤ 156) : okQ (y : Int) ((3 : Nat) : Int) = true := by
  by_cases c3 : y < 63
  · rw [show y = 3 + (y - 3) by omega]
    exact okR_at 60 _ okr_3_3 (by omega)
  by_cases c63 : y < 123
  · rw [show y = 63 + (y - 63) by omega]
    exact okR_at 60 _ okr_3_63 (by omega)
  rw [show y = 123 + (y - 123) by omega]
  exact okR_at 34 _ okr_3_123 (by omega)
theorem okr_4_4 : okR 4 4 60 = true := by decide +kernel
theorem okr_4_64 : okR 4 64 60 = true := by decide +kernel
theorem okr_4_124 : okR 4 124 60 = true := by decide +kernel
theorem okr_4_184 : okR 4 184 25 = true := by decide +kernel
theorem oqn_4 (y : Nat) (h1 : 4 ≤ y) (h2 : y ≤ 208) : okQ (y : Int) ((4 : Nat) : Int) = true := by
  by_cases c4 : y < 64
  · rw [show y = 4 + (y - 4) by omega]
    exact okR_at 60 _ okr_4_4 (by omega)
  by_cases c64 : y < 124
  · rw [show y = 64 + (y - 64) by omega]
    exact okR_at 60 _ okr_4_64 (by omega)
  by_cases c124 : y < 184
  · rw [show y = 124 + (y - 124) by omega]
    exact okR_at 60 _ okr_4_124 (by omega)
  rw [show y = 184 + (y - 184) by omega]
  exact okR_at 25 _ okr_4_184 (by omega)
theorem okr_5_5 : okR 5 5 60 = true := by decide +kernel
theorem okr_5_65 : okR 5 65 60 = true := by decide +kernel
theorem okr_5_125 : okR 5 125 60 = true := by decide +kernel
theorem okr_5_185 : okR 5 185 60 = true := by decide +kernel
theorem okr_5_245 : okR 5 245 16 = true := by decide +kernel
theorem oqn_5 (y : Nat) (h1 : 5 ≤ y) (h2 : y ≤ 260) : okQ (y : Int) ((5 : Nat) : Int) = true := by
  by_cases c5 : y < 65
  · rw [show y = 5 + (y - 5) by omega]
    exact okR_at 60 _ okr_5_5 (by omega)
  by_cases c65 : y < 125
  · rw [show y = 65 + (y - 65) by omega]
    exact okR_at 60 _ okr_5_65 (by omega)
  by_cases c125 : y < 185
  · rw [show y = 125 + (y - 125) by omega]
    exact okR_at 60 _ okr_5_125 (by omega)
  by_cases c185 : y < 245
  · rw [show y = 185 + (y - 185) by omega]
    exact okR_at 60 _ okr_5_185 (by omega)
  rw [show y = 245 + (y - 245) by omega]
  exact okR_at 16 _ okr_5_245 (by omega)
theorem okr_6_6 : okR 6 6 60 = true := by decide +kernel
theorem okr_6_66 : okR 6 66 60 = true := by decide +kernel
theorem okr_6_126 : okR 6 126 60 = true := by decide +kernel
theorem okr_6_186 : okR 6 186 60 = true := by decide +kernel
theorem okr_6_246 : okR 6 246 60 = true := by decide +kernel
theorem okr_6_306 : okR 6 306 7 = true := by decide +kernel
theorem oqn_6 (y : Nat) (h1 : 6 ≤ y) (h2 : y ≤ 312) : okQ (y : Int) ((6 : Nat) : Int) = true := by
  by_cases c6 : y < 66
  · rw [show y = 6 + (y - 6) by omega]
    exact okR_at 60 _ okr_6_6 (by omega)
  by_cases c66 : y < 126
  · rw [show y = 66 + (y - 66) by omega]
    exact okR_at 60 _ okr_6_66 (by omega)
  by_cases c126 : y < 186
  · rw [show y = 126 + (y - 126) by omega]
    exact okR_at 60 _ okr_6_126 (by omega)
  by_cases c186 : y < 246
  · rw [show y = 186 + (y - 186) by omega]
    exact okR_at 60 _ okr_6_186 (by omega)
  by_cases c246 : y < 306
  · rw [show y = 246 + (y - 246) by omega]
    exact okR_at 60 _ okr_6_246 (by omega)
  rw [show y = 306 + (y - 306) by omega]
  exact okR_at 7 _ okr_6_306 (by omega)
theorem okr_7_7 : okR 7 7 60 = true := by decide +kernel
theorem okr_7_67 : okR 7 67 60 = true := by decide +kernel
theorem okr_7_127 : okR 7 127 60 = true := by decide +kernel
theorem okr_7_187 : okR 7 187 60 = true := by decide +kernel
theorem okr_7_247 : okR 7 247 60 = true := by decide +kernel
theorem okr_7_307 : okR 7 307 58 = true := by decide +kernel
theorem oqn_7 (y : Nat) (h1 : 7 ≤ y) (h2 : y ≤ 364) : okQ (y : Int) ((7 : Nat) : Int) = true := by
  by_cases c7 : y < 67
  · rw [show y = 7 + (y - 7) by omega]
    exact okR_at 60 _ okr_7_7 (by omega)
  by_cases c67 : y < 127
  · rw [show y = 67 + (y - 67) by omega]
    exact okR_at 60 _ okr_7_67 (by omega)
  by_cases c127 : y < 187
  · rw [show y = 127 + (y - 127) by omega]
    exact okR_at 60 _ okr_7_127 (by omega)
  by_cases c187 : y < 247
  · rw [show y = 187 + (y - 187) by omega]
    exact okR_at 60 _ okr_7_187 (by omega)
  by_cases c247 : y < 307
  · rw [show y = 247 + (y - 247) by omega]
    exact okR_at 60 _ okr_7_247 (by omega)
  rw [show y = 307 + (y - 307) by omega]
  exact okR_at 58 _ okr_7_307 (by omega)
theorem okr_8_8 : okR 8 8 60 = true := by decide +kernel
theorem okr_8_68 : okR 8 68 60 = true := by decide +kernel
theorem okr_8_128 : okR 8 128 60 = true := by decide +kernel
theorem okr_8_188 : okR 8 188 60 = true := by decide +kernel
theorem okr_8_248 : okR 8 248 60 = true := by decide +kernel
theorem okr_8_308 : okR 8 308 60 = true := by decide +kernel
theorem okr_8_368 : okR 8 368 49 = true := by decide +kernel
theorem oqn_8 (y : Nat) (h1 : 8 ≤ y) (h2 : y ≤ 416) : okQ (y : Int) ((8 : Nat) : Int) = true := by
  by_cases c8 : y < 68
  · rw [show y = 8 + (y - 8) by omega]
    exact okR_at 60 _ okr_8_8 (by omega)
  by_cases c68 : y < 128
  · rw [show y = 68 + (y - 68) by omega]
    exact okR_at 60 _ okr_8_68 (by omega)
  by_cases c128 : y < 188
  · rw [show y = 128 + (y - 128) by omega]
    exact okR_at 60 _ okr_8_128 (by omega)
  by_cases c188 : y < 248
  · rw [show y = 188 + (y - 188) by omega]
    exact okR_at 60 _ okr_8_188 (by omega)
  by_cases c248 : y < 308
  · rw [show y = 248 + (y - 248) by omega]
    exact okR_at 60 _ okr_8_248 (by omega)
  by_cases c308 : y < 368
  · rw [show y = 308 + (y - 308) by omega]
    exact okR_at 60 _ okr_8_308 (by omega)
  rw [show y = 368 + (y - 368) by omega]
  exact okR_at 49 _ okr_8_368 (by omega)
theorem okr_9_9 : okR 9 9 60 = true := by decide +kernel
theorem okr_9_69 : okR 9 69 60 = true := by decide +kernel
theorem okr_9_129 : okR 9 129 60 = true := by decide +kernel
theorem okr_9_189 : okR 9 189 60 = true := by decide +kernel
theorem okr_9_249 : okR 9 249 60 = true := by decide +kernel
theorem okr_9_309 : okR 9 309 60 = true := by decide +kernel
theorem okr_9_369 : okR 9 369 60 = true := by decide +kernel
theorem okr_9_429 : okR 9 429 40 = true := by decide +kernel
theorem oqn_9 (y : Nat) (h1 : 9 ≤ y) (h2 : y ≤ 468) : okQ (y : Int) ((9 : Nat) : Int) = true := by
  by_cases c9 : y < 69
  · rw [show y = 9 + (y - 9) by omega]
    exact okR_at 60 _ okr_9_9 (by omega)
  by_cases c69 : y < 129
  · rw [show y = 69 + (y - 69) by omega]
    exact okR_at 60 _ okr_9_69 (by omega)
  by_cases c129 : y < 189
  · rw [show y = 129 + (y - 129) by omega]
    exact okR_at 60 _ okr_9_129 (by omega)
  by_cases c189 : y < 249
  · rw [show y = 189 + (y - 189) by omega]
    exact okR_at 60 _ okr_9_189 (by omega)
  by_cases c249 : y < 309
  · rw [show y = 249 + (y - 249) by omega]
    exact okR_at 60 _ okr_9_249 (by omega)
  by_cases c309 : y < 369
  · rw [show y = 309 + (y - 309) by omega]
    exact okR_at 60 _ okr_9_309 (by omega)
  by_cases c369 : y < 429
  · rw [show y = 369 + (y - 369) by omega]
    exact okR_at 60 _ okr_9_369 (by omega)
  rw [show y = 429 + (y - 429) by omega]
  exact okR_at 40 _ okr_9_429 (by omega)
theorem okr_10_10 : okR 10 10 60 = true := by decide +kernel
theorem okr_10_70 : okR 10 70 60 = true := by decide +kernel
theorem okr_10_130 : okR 10 130 60 = true := by decide +kernel
theorem okr_10_190 : okR 10 190 60 = true := by decide +kernel
theorem okr_10_250 : okR 10 250 60 = true := by decide +kernel
theorem okr_10_310 : okR 10 310 60 = true := by decide +kernel
theorem okr_10_370 : okR 10 370 60 = true := by decide +kernel
theorem okr_10_430 : okR 10 430 60 = true := by decide +kernel
theorem okr_10_490 : okR 10 490 31 = true := by decide +kernel
theorem oqn_10 (y : Nat) (h1 : 10 ≤ y) (h2 : y ≤ 520) : okQ (y : Int) ((10 : Nat) : Int) = true := by
  by_cases c10 : y < 70
  · rw [show y = 10 + (y - 10) by omega]
    exact okR_at 60 _ okr_10_10 (by omega)
  by_cases c70 : y < 130
  · rw [show y = 70 + (y - 70) by omega]
    exact okR_at 60 _ okr_10_70 (by omega)
  by_cases c130 : y < 190
  · rw [show y = 130 + (y - 130) by omega]
    exact okR_at 60 _ okr_10_130 (by omega)
  by_cases c190 : y < 250
  · rw [show y = 190 + (y - 190) by omega]
    exact okR_at 60 _ okr_10_190 (by omega)
  by_cases c250 : y < 310
  · rw [show y = 250 + (y - 250) by omega]
    exact okR_at 60 _ okr_10_250 (by omega)
  by_cases c310 : y < 370
  · rw [show y = 310 + (y - 310) by omega]
    exact okR_at 60 _ okr_10_310 (by omega)
  by_cases c370 : y < 430
  · rw [show y = 370 + (y - 370) by omega]
    exact okR_at 60 _ okr_10_370 (by omega)
  by_cases c430 : y < 490
  · rw [show y = 430 + (y - 430) by omega]
    exact okR_at 60 _ okr_10_430 (by omega)
  rw [show y = 490 + (y - 490) by omega]
  exact okR_at 31 _ okr_10_490 (by omega)
theorem okr_11_11 : okR 11 11 60 = true := by decide +kernel
theorem okr_11_71 : okR 11 71 60 = true := by decide +kernel
theorem okr_11_131 : okR 11 131 60 = true := by decide +kernel
theorem okr_11_191 : okR 11 191 60 = true := by decide +kernel
theorem okr_11_251 : okR 11 251 60 = true := by decide +kernel
theorem okr_11_311 : okR 11 311 60 = true := by decide +kernel
theorem okr_11_371 : okR 11 371 60 = true := by decide +kernel
theorem okr_11_431 : okR 11 431 60 = true := by decide +kernel
theorem okr_11_491 : okR 11 491 60 = true := by decide +kernel
theorem okr_11_551 : okR 11 551 22 = true := by decide +kernel
theorem oqn_11 (y : Nat) (h1 : 11 ≤ y) (h2 : y ≤ 572) : okQ (y : Int) ((11 : Nat) : Int) = true := by
  by_cases c11 : y < 71
  · rw [show y = 11 + (y - 11) by omega]
    exact okR_at 60 _ okr_11_11 (by omega)
  by_cases c71 : y < 131
  · rw [show y = 71 + (y - 71) by omega]
    exact okR_at 60 _ okr_11_71 (by omega)
  by_cases c131 : y < 191
  · rw [show y = 131 + (y - 131) by omega]
    exact okR_at 60 _ okr_11_131 (by omega)
  by_cases c191 : y < 251
  · rw [show y = 191 + (y - 191) by omega]
    exact okR_at 60 _ okr_11_191 (by omega)
  by_cases c251 : y < 311
  · rw [show y = 251 + (y - 251) by omega]
    exact okR_at 60 _ okr_11_251 (by omega)
  by_cases c311 : y < 371
  · rw [show y = 311 + (y - 311) by omega]
    exact okR_at 60 _ okr_11_311 (by omega)
  by_cases c371 : y < 431
  · rw [show y = 371 + (y - 371) by omega]
    exact okR_at 60 _ okr_11_371 (by omega)
  by_cases c431 : y < 491
  · rw [show y = 431 + (y - 431) by omega]
    exact okR_at 60 _ okr_11_431 (by omega)
  by_cases c491 : y < 551
  · rw [show y = 491 + (y - 491) by omega]
    exact okR_at 60 _ okr_11_491 (by omega)
  rw [show y = 551 + (y - 551) by omega]
  exact okR_at 22 _ okr_11_551 (by omega)
theorem okr_12_12 : okR 12 12 60 = true := by decide +kernel
theorem okr_12_72 : okR 12 72 60 = true := by decide +kernel
theorem okr_12_132 : okR 12 132 60 = true := by decide +kernel
theorem okr_12_192 : okR 12 192 60 = true := by decide +kernel
theorem okr_12_252 : okR 12 252 60 = true := by decide +kernel
theorem okr_12_312 : okR 12 312 60 = true := by decide +kernel
theorem okr_12_372 : okR 12 372 60 = true := by decide +kernel
theorem okr_12_432 : okR 12 432 60 = true := by decide +kernel
theorem okr_12_492 : okR 12 492 60 = true := by decide +kernel
theorem okr_12_552 : okR 12 552 60 = true := by decide +kernel
theorem okr_12_612 : okR 12 612 13 = true := by decide +kernel
theorem oqn_12 (y : Nat) (h1 : 12 ≤ y) (h2 : y ≤ 624) : okQ (y : Int) ((12 : Nat) : Int) = true := by
  by_cases c12 : y < 72
  · rw [show y = 12 + (y - 12) by omega]
    exact okR_at 60 _ okr_12_12 (by omega)
  by_cases c72 : y < 132
  · rw [show y = 72 + (y - 72) by omega]
    exact okR_at 60 _ okr_12_72 (by omega)
  by_cases c132 : y < 192
  · rw [show y = 132 + (y - 132) by omega]
    exact okR_at 60 _ okr_12_132 (by omega)
  by_cases c192 : y < 252
  · rw [show y = 192 + (y - 192) by omega]
    exact okR_at 60 _ okr_12_192 (by omega)
  by_cases c252 : y < 312
  · rw [show y = 252 + (y - 252) by omega]
    exact okR_at 60 _ okr_12_252 (by omega)
  by_cases c312 : y < 372
  · rw [show y = 312 + (y - 312) by omega]
    exact okR_at 60 _ okr_12_312 (by omega)
  by_cases c372 : y < 432
  · rw [show y = 372 + (y - 372) by omega]
    exact okR_at 60 _ okr_12_372 (by omega)
  by_cases c432 : y < 492
  · rw [show y = 432 + (y - 432) by omega]
    exact okR_at 60 _ okr_12_432 (by omega)
  by_cases c492 : y < 552
  · rw [show y = 492 + (y - 492) by omega]
    exact okR_at 60 _ okr_12_492 (by omega)
  by_cases c552 : y < 612
  · rw [show y = 552 + (y - 552) by omega]
    exact okR_at 60 _ okr_12_552 (by omega)
  rw [show y = 612 + (y - 612) by omega]
  exact okR_at 13 _ okr_12_612 (by omega)
theorem okQ_all {y n : Int} (h1 : 1 ≤ n) (h2 : n ≤ 12) (h3 : n ≤ y) (h4 : y ≤ 52 * n) : okQ y n = true := by
  obtain ⟨z, rfl⟩ : ∃ z : Nat, y = z := ⟨y.toNat, by omega⟩
  rcases (show n = 1 ∨ n = 2 ∨ n = 3 ∨ n = 4 ∨ n = 5 ∨ n = 6 ∨ n = 7 ∨ n = 8 ∨ n = 9 ∨ n = 10 ∨ n = 11 ∨ n = 12 by omega) with rfl | rfl | rfl | rfl | rfl | rfl | rfl | rfl | rfl | rfl | rfl | rfl
  · exact oqn_1 z (by omega) (by omega)
  · exact oqn_2 z (by omega) (by omega)
  · exact oqn_3 z (by omega) (by omega)
  · exact oqn_4 z (by omega) (by omega)
  · exact oqn_5 z (by omega) (by omega)
  · exact oqn_6 z (by omega) (by omega)
  · exact oqn_7 z (by omega) (by omega)
  · exact oqn_8 z (by omega) (by omega)
  · exact oqn_9 z (by omega) (by omega)
  · exact oqn_10 z (by omega) (by omega)
  · exact oqn_11 z (by omega) (by omega)
  · exact oqn_12 z (by omega) (by omega)
theorem l_quotL {x0 x1 : Int} {c11 : Int → Hp → Option (Int × Hp)} {h : Hp} : ∀ (m n : Nat) (p q : Int), qP x0 x1 m p = some q → m ≤ n → 0 ≤ p → p + m ≤ 100 → f_L_quotient_L2 x0 x1 c11 n p h = c11 q h := by
  intro m
  induction m with
  | zero => intro n p q e; cases e
  | succ m ih =>
    intro n p q e hn h0 h1
    obtain ⟨n, rfl⟩ : ∃ n', n = n' + 1 := ⟨n - 1, by omega⟩
    rw [f_L_quotient_L2_s, wr_id (z := p + 1) (by omega) (by omega)]
    have e' : (if x0 < (Int32.ofInt x1 <<< (Int32.ofInt (p + 1) &&& 31)).toInt then some p else qP x0 x1 m (p + 1)) = some q := e
    by_cases c : x0 < (Int32.ofInt x1 <<< (Int32.ofInt (p + 1) &&& 31)).toInt
    · rw [if_pos c] at e' ⊢
      cases e'
      rfl
    · rw [if_neg c] at e' ⊢
      exact ih n (p + 1) q e' (by omega) (by omega) (by omega)
theorem l_quotient {y n : Int} {h : Hp} (h1 : 1 ≤ n) (h2 : n ≤ 12) (h3 : n ≤ y) (h4 : y ≤ 52 * n) : f_L_quotient y n h = some ((UInt32.toInt32 (fx y n)).toInt, h) := by
  have q := okQ_all h1 h2 h3 h4
  unfold okQ at q
  generalize e : qP y n 10 0 = z at q
  match z, e, q with
  | some p, e, q =>
    dsimp only at q
    rw [Bool.and_eq_true, Bool.and_eq_true, Bool.and_eq_true] at q
    obtain ⟨⟨⟨q1, q2⟩, q3⟩, q4⟩ := q
    have q1 := of_decide_eq_true q1
    have q2 := of_decide_eq_true q2
    have q3 := of_decide_eq_true q3
    have q4 := of_decide_eq_true q4
    have R := iR_T (UInt32.toInt32 (fx y n))
    have fin : ∀ b : Int64, f_L_quotient_J52 p (qT y p / Int64.ofInt n) b h = some (wr ((Int32.ofInt (127 + p) <<< (Int32.ofInt 23 &&& 31)).toInt + (Int64.toInt32 (qT y p / Int64.ofInt n + b - 8388608)).toInt), h) := fun b => by
      unfold f_L_quotient_J52 ll
      dsimp only
      rw [wr_id (z := 127 + p) (by omega) (by omega)]
    unfold f_L_quotient
    rw [l_quotL 10 fu 0 p e (by have := fu_gt; omega) (by omega) (by omega)]
    unfold ll
    dsimp only
    rw [wr_id (z := 23 - p) (by omega) (by omega), if_pos q1, if_pos q1]
    rw [show Int64.ofInt y <<< ((Int32.ofInt (23 - p)).toInt64 &&& 63) = qT y p from rfl]
    unfold f_L_quotient_J49 f_L_quotient_J51
    rw [fin, fin]
    have e2 : ∀ b, b = qB (qT y p - qT y p / Int64.ofInt n * Int64.ofInt n) (qT y p / Int64.ofInt n) (Int64.ofInt n) → wr ((Int32.ofInt (127 + p) <<< (Int32.ofInt 23 &&& 31)).toInt + (Int64.toInt32 (qT y p / Int64.ofInt n + b - 8388608)).toInt) = (UInt32.toInt32 (fx y n)).toInt := fun b hb => by
      have q2' := q2
      unfold qE at q2'
      rw [hb, q2', wr_e R]
    by_cases c1 : 0 < (lg_cmp (2 * (qT y p - qT y p / Int64.ofInt n * Int64.ofInt n)) (Int64.ofInt n)).toInt
    · rw [if_pos c1, e2 _ (by unfold qB; rw [if_pos c1])]
    · rw [if_neg c1]
      by_cases c2 : ¬ (lg_cmp (2 * (qT y p - qT y p / Int64.ofInt n * Int64.ofInt n)) (Int64.ofInt n)).toInt = 0
      · rw [if_pos c2, e2 _ (by unfold qB; rw [if_neg c1, if_pos c2])]
      · rw [if_neg c2, if_pos (by decide)]
        by_cases c3 : ¬ (lg_cmp (qT y p / Int64.ofInt n - qT y p / Int64.ofInt n / 2 * 2) (Int64.ofNat 1)).toInt = 0
        · rw [if_pos c3, e2 _ (by unfold qB; rw [if_neg c1, if_neg c2, if_pos c3])]
        · rw [if_neg c3, e2 _ (by unfold qB; rw [if_neg c1, if_neg c2, if_neg c3])]
end Quot26

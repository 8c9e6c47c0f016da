/-! printed by wip/gen/gen.py: each method as a function over the heap of numbers -/
theorem fu_ex : ∃ n : Nat, 4999 < n := ⟨5000, by omega⟩
/-- enough for every loop; hidden behind a choice, so that nothing unrolls it -/
noncomputable def fu : Nat := Classical.choose fu_ex
theorem fu_gt : 4999 < fu := Classical.choose_spec fu_ex
noncomputable def f_J_isLatin1 (x0 : Nat) (n0 : Nat) (h : Hp) : Option (Int × Hp) :=
  if (1 : Int) = 0 then
    some (0, h)
  else
    if ¬ (0 : Int) = 0 then
      some (0, h)
    else
      some (1, h)
noncomputable def f_J_preCheck (x0 : Int) (x1 : Int) (h : Hp) : Option (Int × Hp) :=
  if x0 < 0 then
    none
  else
    if x0 < x1 then
      some (x0, h)
    else
      none
noncomputable def f_J_checkIndex (x0 : Int) (x1 : Int) (h : Hp) : Option (Int × Hp) :=
  bd (f_J_preCheck x0 x1 h) fun r2 h2 =>
  some (0, h2)
noncomputable def f_J_latinAt (x0 : Nat) (n0 : Nat) (x1 : Int) (h : Hp) : Option (Int × Hp) :=
  bd (f_J_checkIndex x1 ((n0 : Nat) : Int) h) fun _ h1 =>
  if inb x1 n0 then
    if 0 ≤ (sCh x0 (Int.toNat x1)) ∧ (sCh x0 (Int.toNat x1)) < 256 then
      if isC (sCh x0 (Int.toNat x1)) then
        if isC (sCh x0 (Int.toNat x1)) then some ((sCh x0 (Int.toNat x1)), h1) else none
      else none
    else none
  else none
noncomputable def f_J_charAt (x0 : Nat) (n0 : Nat) (x1 : Int) (h : Hp) : Option (Int × Hp) :=
  bd (f_J_isLatin1 x0 n0 h) fun r1 h1 =>
  if r1 = 0 then
    none
  else
    bd (f_J_latinAt (x0 + 5) n0 x1 h1) fun r2 h2 =>
    if isC r2 then some (r2, h2) else none
noncomputable def f_J_coder (x0 : Nat) (n0 : Nat) (h : Hp) : Option (Int × Hp) :=
  if (1 : Int) = 0 then
    some (1, h)
  else
    some (0, h)
noncomputable def f_J_length (x0 : Nat) (n0 : Nat) (h : Hp) : Option (Int × Hp) :=
  bd (f_J_coder x0 n0 h) fun r1 h1 =>
  if r1 = 0 then
    some (((n0 : Nat) : Int), h1)
  else none
noncomputable def f_J_min (x0 : Int) (x1 : Int) (h : Hp) : Option (Int × Hp) :=
  if x1 < x0 then
    some (x1, h)
  else
    some (x0, h)
noncomputable def f_J_isNaN (x0 : UInt32) (h : Hp) : Option (Int × Hp) :=
  if (Op.cmpValue (FP.fcmp x0 x0) .l).toInt = 0 then
    some (0, h)
  else
    some (1, h)
noncomputable def f_J_floatToIntBits (x0 : UInt32) (h : Hp) : Option (Int × Hp) :=
  bd (f_J_isNaN x0 h) fun r1 h1 =>
  if ¬ r1 = 0 then
    some (2143289344, h1)
  else
    some ((UInt32.toInt32 x0).toInt, h1)
noncomputable def f_X0_aheadOf (x1 : Int) (x2 : Int) (h : Hp) : Option (Int × Hp) :=
  if x1 < 0 then
    some (x2, h)
  else
    if x1 < 144 then
      if x2 < 0 then
        some (x1, h)
      else
        if x2 < 144 then
          if inb x1 144 then
            if inb x2 144 then
              if (h 21 (Int.toNat x1)) = (h 21 (Int.toNat x2)) then
                bd (f_J_min x1 x2 h) fun r1 h1 =>
                some (r1, h1)
              else
                if inb x1 144 then
                  if inb x2 144 then
                    if (h 21 (Int.toNat x1)) ≤ (h 21 (Int.toNat x2)) then
                      some (x2, h)
                    else
                      some (x1, h)
                  else none
                else none
            else none
          else none
        else
          some (x1, h)
    else
      some (x2, h)
noncomputable def f_X0_claimMatched (x1 : Int) (h : Hp) : Option (Int × Hp) :=
  if x1 < 0 then
    some ((-1), h)
  else
    if 12 ≤ x1 then
      some ((-1), h)
    else
      if inb x1 12 then
        some ((h 25 (Int.toNat x1)), h)
      else none
noncomputable def f_X0_join (x1 : Int) (x2 : Int) (h : Hp) : Option (Int × Hp) :=
  if x1 < 0 then
    some (0, h)
  else
    if 12 ≤ x1 then
      some (0, h)
    else
      if x2 < 0 then
        some (0, h)
      else
        if 12 ≤ x2 then
          some (0, h)
        else
          if inb x1 12 then
            lt (hup h 25 (Int.toNat x1) x2) fun h1 =>
            if inb x2 12 then
              lt (hup h1 26 (Int.toNat x2) x1) fun h2 =>
              lt (hup h2 19 9 (wr ((h2 19 9) + 1))) fun h3 =>
              some (0, h3)
            else none
          else none
noncomputable def f_X0_pairOf (x1 : Int) (x2 : Int) (h : Hp) : Option (Int × Hp) :=
  if x1 < 0 then
    some ((-1), h)
  else
    if (h 19 7) ≤ x1 then
      some ((-1), h)
    else
      if x2 < 0 then
        some ((-1), h)
      else
        if x2 < (h 19 8) then
          lv (wr ((wr (x1 * 12)) + x2)) fun y1 =>
          if y1 < 0 then
            some ((-1), h)
          else
            if 144 ≤ y1 then
              some ((-1), h)
            else
              some (y1, h)
        else
          some ((-1), h)
noncomputable def f_X0_part (x1 : Int) (x2 : Int) (h : Hp) : Option (Int × Hp) :=
  if x1 < 0 then
    some (0, h)
  else
    if 12 ≤ x1 then
      some (0, h)
    else
      if x2 < 0 then
        some (0, h)
      else
        if 12 ≤ x2 then
          some (0, h)
        else
          if inb x1 12 then
            lt (hup h 25 (Int.toNat x1) (-1)) fun h1 =>
            if inb x2 12 then
              lt (hup h1 26 (Int.toNat x2) (-1)) fun h2 =>
              lt (hup h2 19 9 (wr ((h2 19 9) - 1))) fun h3 =>
              some (0, h3)
            else none
          else none
noncomputable def f_X0_askFor_J36 (x1 : Int) (x2 : Int) (h : Hp) : Option (Int × Hp) :=
  bd (f_X0_join x2 (wr (x1 - Int.tdiv x1 12 * 12)) h) fun _ h4 =>
  some (0, h4)
noncomputable def f_X0_askFor (x1 : Int) (h : Hp) : Option (Int × Hp) :=
  if x1 < 0 then
    some (0, h)
  else
    if x1 < 144 then
      if inb x1 144 ∧ isB 1 then
        lt (hup h 23 (Int.toNat x1) 1) fun h1 =>
        lv (wr (Int.tdiv x1 12)) fun y2 =>
        bd (f_X0_claimMatched y2 h1) fun r3 h3 =>
        if r3 = (-1) then
          f_X0_askFor_J36 x1 y2 h3
        else
          bd (f_X0_pairOf y2 r3 h3) fun r5 h5 =>
          bd (f_X0_aheadOf x1 r5 h5) fun r6 h6 =>
          if r6 = x1 then
            bd (f_X0_part y2 r3 h6) fun _ h7 =>
            f_X0_askFor_J36 x1 y2 h7
          else
            some (0, h6)
      else none
    else
      some (0, h)
noncomputable def f_X0_suits (x1 : Int) (x2 : Int) (h : Hp) : Option (Int × Hp) :=
  bd (f_X0_pairOf x1 x2 h) fun r1 h1 =>
  if r1 < 0 then
    some (0, h1)
  else
    if 144 ≤ r1 then
      some (0, h1)
    else
      if inb r1 144 then
        if (h1 22 (Int.toNat r1)) = 0 then
          some (0, h1)
        else
          some (1, h1)
      else none
noncomputable def f_X0_umbrellaMatched (x1 : Int) (h : Hp) : Option (Int × Hp) :=
  if x1 < 0 then
    some ((-1), h)
  else
    if 12 ≤ x1 then
      some ((-1), h)
    else
      if inb x1 12 then
        some ((h 26 (Int.toNat x1)), h)
      else none
noncomputable def f_X0_bestFreePair_L16 (x2 : Int) (c40 : Int → Hp → Option (Int × Hp)) (n : Nat) : Int → Int → Hp → Option (Int × Hp) :=
  Nat.rec (motive := fun _ => Int → Int → Hp → Option (Int × Hp)) (fun _ _ _ => none) (fun _ rec x1 x3 h =>
    if (h 19 8) ≤ x3 then
      c40 x1 h
    else
      bd (f_X0_umbrellaMatched x3 h) fun r2 h2 =>
      if ¬ r2 = (-1) then
        rec x1 (wr (x3 + 1)) h2
      else
        bd (f_X0_suits x2 x3 h2) fun r3 h3 =>
        if r3 = 0 then
          rec x1 (wr (x3 + 1)) h3
        else
          bd (f_X0_pairOf x2 x3 h3) fun r4 h4 =>
          bd (f_X0_aheadOf r4 x1 h4) fun r5 h5 =>
          rec r5 (wr (x3 + 1)) h5) n
theorem f_X0_bestFreePair_L16_s (x2 : Int) (c40 : Int → Hp → Option (Int × Hp)) (n : Nat) (x1 : Int) (x3 : Int) (h : Hp) : f_X0_bestFreePair_L16 x2 c40 (n + 1) x1 x3 h =
    if (h 19 8) ≤ x3 then
      c40 x1 h
    else
      bd (f_X0_umbrellaMatched x3 h) fun r2 h2 =>
      if ¬ r2 = (-1) then
        f_X0_bestFreePair_L16 x2 c40 n x1 (wr (x3 + 1)) h2
      else
        bd (f_X0_suits x2 x3 h2) fun r3 h3 =>
        if r3 = 0 then
          f_X0_bestFreePair_L16 x2 c40 n x1 (wr (x3 + 1)) h3
        else
          bd (f_X0_pairOf x2 x3 h3) fun r4 h4 =>
          bd (f_X0_aheadOf r4 x1 h4) fun r5 h5 =>
          f_X0_bestFreePair_L16 x2 c40 n r5 (wr (x3 + 1)) h5 := rfl
noncomputable def f_X0_bestFreePair_L4  (n : Nat) : Int → Int → Hp → Option (Int × Hp) :=
  Nat.rec (motive := fun _ => Int → Int → Hp → Option (Int × Hp)) (fun _ _ _ => none) (fun _ rec x1 x2 h =>
    if (h 19 7) ≤ x2 then
      some (x1, h)
    else
      bd (f_X0_claimMatched x2 h) fun r1 h1 =>
      if r1 = (-1) then
        (f_X0_bestFreePair_L16 x2
          (fun y6 h7 =>
            rec y6 (wr (x2 + 1)) h7)
           fu x1 0 h1)
      else
        rec x1 (wr (x2 + 1)) h1) n
theorem f_X0_bestFreePair_L4_s  (n : Nat) (x1 : Int) (x2 : Int) (h : Hp) : f_X0_bestFreePair_L4  (n + 1) x1 x2 h =
    if (h 19 7) ≤ x2 then
      some (x1, h)
    else
      bd (f_X0_claimMatched x2 h) fun r1 h1 =>
      if r1 = (-1) then
        (f_X0_bestFreePair_L16 x2
          (fun y6 h7 =>
            f_X0_bestFreePair_L4  n y6 (wr (x2 + 1)) h7)
           fu x1 0 h1)
      else
        f_X0_bestFreePair_L4  n x1 (wr (x2 + 1)) h1 := rfl
noncomputable def f_X0_bestFreePair  (h : Hp) : Option (Int × Hp) :=
  (f_X0_bestFreePair_L4 
     fu (-1) 0 h)
noncomputable def f_X0_claimsSuiting_L4 (x1 : Int) (n : Nat) : Int → Int → Hp → Option (Int × Hp) :=
  Nat.rec (motive := fun _ => Int → Int → Hp → Option (Int × Hp)) (fun _ _ _ => none) (fun _ rec x2 x3 h =>
    if (h 19 8) ≤ x3 then
      some (x2, h)
    else
      bd (f_X0_suits x1 x3 h) fun r1 h1 =>
      if r1 = 0 then
        rec x2 (wr (x3 + 1)) h1
      else
        rec (wr (x2 + 1)) (wr (x3 + 1)) h1) n
theorem f_X0_claimsSuiting_L4_s (x1 : Int) (n : Nat) (x2 : Int) (x3 : Int) (h : Hp) : f_X0_claimsSuiting_L4 x1 (n + 1) x2 x3 h =
    if (h 19 8) ≤ x3 then
      some (x2, h)
    else
      bd (f_X0_suits x1 x3 h) fun r1 h1 =>
      if r1 = 0 then
        f_X0_claimsSuiting_L4 x1 n x2 (wr (x3 + 1)) h1
      else
        f_X0_claimsSuiting_L4 x1 n (wr (x2 + 1)) (wr (x3 + 1)) h1 := rfl
noncomputable def f_X0_claimsSuiting (x1 : Int) (h : Hp) : Option (Int × Hp) :=
  (f_X0_claimsSuiting_L4 x1
     fu 0 0 h)
noncomputable def f_X0_matchNone_L2 (c14 : Hp → Option (Int × Hp)) (n : Nat) : Int → Hp → Option (Int × Hp) :=
  Nat.rec (motive := fun _ => Int → Hp → Option (Int × Hp)) (fun _ _ => none) (fun _ rec x1 h =>
    if ((12 : Nat) : Int) ≤ x1 then
      c14 h
    else
      if inb x1 12 then
        lt (hup h 25 (Int.toNat x1) (-1)) fun h1 =>
        rec (wr (x1 + 1)) h1
      else none) n
theorem f_X0_matchNone_L2_s (c14 : Hp → Option (Int × Hp)) (n : Nat) (x1 : Int) (h : Hp) : f_X0_matchNone_L2 c14 (n + 1) x1 h =
    if ((12 : Nat) : Int) ≤ x1 then
      c14 h
    else
      if inb x1 12 then
        lt (hup h 25 (Int.toNat x1) (-1)) fun h1 =>
        f_X0_matchNone_L2 c14 n (wr (x1 + 1)) h1
      else none := rfl
noncomputable def f_X0_matchNone_L16  (n : Nat) : Int → Hp → Option (Int × Hp) :=
  Nat.rec (motive := fun _ => Int → Hp → Option (Int × Hp)) (fun _ _ => none) (fun _ rec x1 h =>
    if ((12 : Nat) : Int) ≤ x1 then
      lt (hup h 19 9 0) fun h3 =>
      some (0, h3)
    else
      if inb x1 12 then
        lt (hup h 26 (Int.toNat x1) (-1)) fun h4 =>
        rec (wr (x1 + 1)) h4
      else none) n
theorem f_X0_matchNone_L16_s  (n : Nat) (x1 : Int) (h : Hp) : f_X0_matchNone_L16  (n + 1) x1 h =
    if ((12 : Nat) : Int) ≤ x1 then
      lt (hup h 19 9 0) fun h3 =>
      some (0, h3)
    else
      if inb x1 12 then
        lt (hup h 26 (Int.toNat x1) (-1)) fun h4 =>
        f_X0_matchNone_L16  n (wr (x1 + 1)) h4
      else none := rfl
noncomputable def f_X0_matchNone  (h : Hp) : Option (Int × Hp) :=
  (f_X0_matchNone_L2 
    (fun h2 =>
      (f_X0_matchNone_L16 
         fu 0 h2))
     fu 0 h)
noncomputable def f_X2_cell (x0 : Nat) (x1 : Int) (x2 : Int) (h : Hp) : Option (Int × Hp) :=
  if x1 < 0 then
    some (0, h)
  else
    if (h x0 1) ≤ x1 then
      some (0, h)
    else
      if x2 < 0 then
        some (0, h)
      else
        if x2 < 6 then
          lv (wr ((wr (x1 * 6)) + x2)) fun y1 =>
          if y1 < 0 then
            some (0, h)
          else
            if ((72 : Nat) : Int) ≤ y1 then
              some (0, h)
            else
              if inb y1 72 then
                some ((h (x0 + 1) (Int.toNat y1)), h)
              else none
        else
          some (0, h)
noncomputable def f_X0_noteOddness_L2 (x1 : Nat) (c14 : Hp → Option (Int × Hp)) (n : Nat) : Int → Hp → Option (Int × Hp) :=
  Nat.rec (motive := fun _ => Int → Hp → Option (Int × Hp)) (fun _ _ => none) (fun _ rec x2 h =>
    if ((40 : Nat) : Int) ≤ x2 then
      c14 h
    else
      if inb x2 40 then
        lt (hup h 24 (Int.toNat x2) 13) fun h1 =>
        rec (wr (x2 + 1)) h1
      else none) n
theorem f_X0_noteOddness_L2_s (x1 : Nat) (c14 : Hp → Option (Int × Hp)) (n : Nat) (x2 : Int) (h : Hp) : f_X0_noteOddness_L2 x1 c14 (n + 1) x2 h =
    if ((40 : Nat) : Int) ≤ x2 then
      c14 h
    else
      if inb x2 40 then
        lt (hup h 24 (Int.toNat x2) 13) fun h1 =>
        f_X0_noteOddness_L2 x1 c14 n (wr (x2 + 1)) h1
      else none := rfl
noncomputable def f_X0_noteOddness_L22 (x1 : Nat) (x2 : Int) (c52 : Hp → Option (Int × Hp)) (n : Nat) : Int → Hp → Option (Int × Hp) :=
  Nat.rec (motive := fun _ => Int → Hp → Option (Int × Hp)) (fun _ _ => none) (fun _ rec x3 h =>
    if 4 ≤ x3 then
      c52 h
    else
      bd (f_X2_cell (x1 + 1) x2 x3 h) fun r3 h3 =>
      lv (wr ((wr (x3 * 10)) + r3)) fun y4 =>
      if y4 < 0 then
        rec (wr (x3 + 1)) h3
      else
        if ((40 : Nat) : Int) ≤ y4 then
          rec (wr (x3 + 1)) h3
        else
          if inb y4 40 then
            if inb y4 40 then
              lt (hup h3 24 (Int.toNat y4) (wr ((h3 24 (Int.toNat y4)) - 1))) fun h5 =>
              rec (wr (x3 + 1)) h5
            else none
          else none) n
theorem f_X0_noteOddness_L22_s (x1 : Nat) (x2 : Int) (c52 : Hp → Option (Int × Hp)) (n : Nat) (x3 : Int) (h : Hp) : f_X0_noteOddness_L22 x1 x2 c52 (n + 1) x3 h =
    if 4 ≤ x3 then
      c52 h
    else
      bd (f_X2_cell (x1 + 1) x2 x3 h) fun r3 h3 =>
      lv (wr ((wr (x3 * 10)) + r3)) fun y4 =>
      if y4 < 0 then
        f_X0_noteOddness_L22 x1 x2 c52 n (wr (x3 + 1)) h3
      else
        if ((40 : Nat) : Int) ≤ y4 then
          f_X0_noteOddness_L22 x1 x2 c52 n (wr (x3 + 1)) h3
        else
          if inb y4 40 then
            if inb y4 40 then
              lt (hup h3 24 (Int.toNat y4) (wr ((h3 24 (Int.toNat y4)) - 1))) fun h5 =>
              f_X0_noteOddness_L22 x1 x2 c52 n (wr (x3 + 1)) h5
            else none
          else none := rfl
noncomputable def f_X0_noteOddness_L16 (x1 : Nat) (n : Nat) : Int → Hp → Option (Int × Hp) :=
  Nat.rec (motive := fun _ => Int → Hp → Option (Int × Hp)) (fun _ _ => none) (fun _ rec x2 h =>
    if (h 19 7) ≤ x2 then
      some (0, h)
    else
      (f_X0_noteOddness_L22 x1 x2
        (fun h6 =>
          rec (wr (x2 + 1)) h6)
         fu 0 h)) n
theorem f_X0_noteOddness_L16_s (x1 : Nat) (n : Nat) (x2 : Int) (h : Hp) : f_X0_noteOddness_L16 x1 (n + 1) x2 h =
    if (h 19 7) ≤ x2 then
      some (0, h)
    else
      (f_X0_noteOddness_L22 x1 x2
        (fun h6 =>
          f_X0_noteOddness_L16 x1 n (wr (x2 + 1)) h6)
         fu 0 h) := rfl
noncomputable def f_X0_noteOddness (x1 : Nat) (h : Hp) : Option (Int × Hp) :=
  (f_X0_noteOddness_L2 x1
    (fun h2 =>
      (f_X0_noteOddness_L16 x1
         fu 0 h2))
     fu 0 h)
noncomputable def f_X4_numberAt (x0 : Nat) (n0 : Nat) (x1 : Int) (h : Hp) : Option (Int × Hp) :=
  if x1 < 0 then
    some (0, h)
  else
    if ((n0 : Nat) : Int) ≤ x1 then
      some (0, h)
    else
      if inb x1 n0 then
        some ((h x0 (Int.toNat x1)), h)
      else none
noncomputable def f_X1_setting (x0 : Nat) (x1 : Int) (h : Hp) : Option (Int × Hp) :=
  if x1 < 0 then
    some (0, h)
  else
    if ((7 : Nat) : Int) ≤ x1 then
      some (0, h)
    else
      if inb x1 7 then
        some ((h (x0 + 7) (Int.toNat x1)), h)
      else none
noncomputable def f_X0_weigh_L6 (x3 : Nat) (x1 : Int) (x2 : Int) (c40 : Int → Int → Hp → Option (Int × Hp)) (n : Nat) : Int → Int → Int → Hp → Option (Int × Hp) :=
  Nat.rec (motive := fun _ => Int → Int → Int → Hp → Option (Int × Hp)) (fun _ _ _ _ => none) (fun _ rec x4 x5 x6 h =>
    if 4 ≤ x6 then
      c40 x4 x5 h
    else
      bd (f_X2_cell (x3 + 3) x2 x6 h) fun r1 h1 =>
      bd (f_X2_cell (x3 + 1) x1 x6 h1) fun r2 h2 =>
      if ¬ r1 = r2 then
        if r1 = (-1) then
          rec x4 x5 (wr (x6 + 1)) h2
        else
          rec (wr (x4 + 1)) x5 (wr (x6 + 1)) h2
      else
        bd (f_X4_numberAt 24 40 (wr ((wr (x6 * 10)) + r1)) h2) fun r3 h3 =>
        lv (wr (x5 + r3)) fun y4 =>
        rec x4 y4 (wr (x6 + 1)) h3) n
theorem f_X0_weigh_L6_s (x3 : Nat) (x1 : Int) (x2 : Int) (c40 : Int → Int → Hp → Option (Int × Hp)) (n : Nat) (x4 : Int) (x5 : Int) (x6 : Int) (h : Hp) : f_X0_weigh_L6 x3 x1 x2 c40 (n + 1) x4 x5 x6 h =
    if 4 ≤ x6 then
      c40 x4 x5 h
    else
      bd (f_X2_cell (x3 + 3) x2 x6 h) fun r1 h1 =>
      bd (f_X2_cell (x3 + 1) x1 x6 h1) fun r2 h2 =>
      if ¬ r1 = r2 then
        if r1 = (-1) then
          f_X0_weigh_L6 x3 x1 x2 c40 n x4 x5 (wr (x6 + 1)) h2
        else
          f_X0_weigh_L6 x3 x1 x2 c40 n (wr (x4 + 1)) x5 (wr (x6 + 1)) h2
      else
        bd (f_X4_numberAt 24 40 (wr ((wr (x6 * 10)) + r1)) h2) fun r3 h3 =>
        lv (wr (x5 + r3)) fun y4 =>
        f_X0_weigh_L6 x3 x1 x2 c40 n x4 y4 (wr (x6 + 1)) h3 := rfl
noncomputable def f_X0_weigh (x1 : Int) (x2 : Int) (x3 : Nat) (h : Hp) : Option (Int × Hp) :=
  (f_X0_weigh_L6 x3 x1 x2
    (fun y5 y6 h7 =>
      bd (f_X1_setting x3 1 h7) fun r8 h8 =>
      bd (f_X2_cell (x3 + 3) x2 5 h8) fun r9 h9 =>
      bd (f_X1_setting x3 2 h9) fun r10 h10 =>
      lv (wr ((wr (y6 - (wr (y5 * r8)))) - (wr (r9 * r10)))) fun y11 =>
      bd (f_X0_pairOf x1 x2 h10) fun r12 h12 =>
      if r12 < 0 then
        some (0, h12)
      else
        if 144 ≤ r12 then
          some (0, h12)
        else
          if inb r12 144 then
            lt (hup h12 20 (Int.toNat r12) y5) fun h13 =>
            if inb r12 144 then
              lt (hup h13 21 (Int.toNat r12) y11) fun h14 =>
              bd (f_X1_setting x3 0 h14) fun r15 h15 =>
              if r15 < y5 then
                if inb r12 144 ∧ isB 0 then
                  lt (hup h15 22 (Int.toNat r12) 0) fun h16 =>
                  some (0, h16)
                else none
              else
                bd (f_X1_setting x3 3 h15) fun r17 h17 =>
                if y11 < r17 then
                  if inb r12 144 ∧ isB 0 then
                    lt (hup h17 22 (Int.toNat r12) 0) fun h18 =>
                    some (0, h18)
                  else none
                else
                  if inb r12 144 ∧ isB 1 then
                    lt (hup h17 22 (Int.toNat r12) 1) fun h19 =>
                    some (0, h19)
                  else none
            else none
          else none)
     fu 0 0 0 h)
noncomputable def f_X0_weighAll_L25 (x1 : Nat) (x2 : Int) (c36 : Hp → Option (Int × Hp)) (n : Nat) : Int → Hp → Option (Int × Hp) :=
  Nat.rec (motive := fun _ => Int → Hp → Option (Int × Hp)) (fun _ _ => none) (fun _ rec x3 h =>
    if (h 19 8) ≤ x3 then
      c36 h
    else
      bd (f_X0_weigh x2 x3 x1 h) fun _ h6 =>
      rec (wr (x3 + 1)) h6) n
theorem f_X0_weighAll_L25_s (x1 : Nat) (x2 : Int) (c36 : Hp → Option (Int × Hp)) (n : Nat) (x3 : Int) (h : Hp) : f_X0_weighAll_L25 x1 x2 c36 (n + 1) x3 h =
    if (h 19 8) ≤ x3 then
      c36 h
    else
      bd (f_X0_weigh x2 x3 x1 h) fun _ h6 =>
      f_X0_weighAll_L25 x1 x2 c36 n (wr (x3 + 1)) h6 := rfl
noncomputable def f_X0_weighAll_L19 (x1 : Nat) (n : Nat) : Int → Hp → Option (Int × Hp) :=
  Nat.rec (motive := fun _ => Int → Hp → Option (Int × Hp)) (fun _ _ => none) (fun _ rec x2 h =>
    if (h 19 7) ≤ x2 then
      some (0, h)
    else
      (f_X0_weighAll_L25 x1 x2
        (fun h7 =>
          rec (wr (x2 + 1)) h7)
         fu 0 h)) n
theorem f_X0_weighAll_L19_s (x1 : Nat) (n : Nat) (x2 : Int) (h : Hp) : f_X0_weighAll_L19 x1 (n + 1) x2 h =
    if (h 19 7) ≤ x2 then
      some (0, h)
    else
      (f_X0_weighAll_L25 x1 x2
        (fun h7 =>
          f_X0_weighAll_L19 x1 n (wr (x2 + 1)) h7)
         fu 0 h) := rfl
noncomputable def f_X0_weighAll (x1 : Nat) (h : Hp) : Option (Int × Hp) :=
  bd (f_J_min (h (x1 + 1) 1) 12 h) fun r1 h1 =>
  lt (hup h1 19 7 r1) fun h2 =>
  bd (f_J_min (h2 (x1 + 3) 1) 12 h2) fun r3 h3 =>
  lt (hup h3 19 8 r3) fun h4 =>
  bd (f_X0_noteOddness x1 h4) fun _ h5 =>
  (f_X0_weighAll_L19 x1
     fu 0 h5)
noncomputable def f_X0_matchAll_L7 (x1 : Nat) (n : Nat) : Int → Hp → Option (Int × Hp) :=
  Nat.rec (motive := fun _ => Int → Hp → Option (Int × Hp)) (fun _ _ => none) (fun _ rec x2 h =>
    if 12 ≤ x2 then
      some (0, h)
    else
      bd (f_X0_bestFreePair  h) fun r3 h3 =>
      if ¬ r3 = (-1) then
        bd (f_X0_join (wr (Int.tdiv r3 12)) (wr (r3 - Int.tdiv r3 12 * 12)) h3) fun _ h4 =>
        rec (wr (x2 + 1)) h4
      else
        some (0, h3)) n
theorem f_X0_matchAll_L7_s (x1 : Nat) (n : Nat) (x2 : Int) (h : Hp) : f_X0_matchAll_L7 x1 (n + 1) x2 h =
    if 12 ≤ x2 then
      some (0, h)
    else
      bd (f_X0_bestFreePair  h) fun r3 h3 =>
      if ¬ r3 = (-1) then
        bd (f_X0_join (wr (Int.tdiv r3 12)) (wr (r3 - Int.tdiv r3 12 * 12)) h3) fun _ h4 =>
        f_X0_matchAll_L7 x1 n (wr (x2 + 1)) h4
      else
        some (0, h3) := rfl
noncomputable def f_X0_matchAll (x1 : Nat) (h : Hp) : Option (Int × Hp) :=
  bd (f_X0_weighAll x1 h) fun _ h1 =>
  bd (f_X0_matchNone  h1) fun _ h2 =>
  (f_X0_matchAll_L7 x1
     fu 0 h2)
noncomputable def f_X0_nextPairOf_L4 (x1 : Int) (n : Nat) : Int → Int → Hp → Option (Int × Hp) :=
  Nat.rec (motive := fun _ => Int → Int → Hp → Option (Int × Hp)) (fun _ _ _ => none) (fun _ rec x2 x3 h =>
    if (h 19 7) ≤ x3 then
      some (x2, h)
    else
      bd (f_X0_pairOf x3 x1 h) fun r1 h1 =>
      if r1 < 0 then
        rec x2 (wr (x3 + 1)) h1
      else
        if 144 ≤ r1 then
          rec x2 (wr (x3 + 1)) h1
        else
          if inb r1 144 then
            if (h1 22 (Int.toNat r1)) = 0 then
              rec x2 (wr (x3 + 1)) h1
            else
              if inb r1 144 then
                if ¬ (h1 23 (Int.toNat r1)) = 0 then
                  rec x2 (wr (x3 + 1)) h1
                else
                  bd (f_X0_aheadOf r1 x2 h1) fun r2 h2 =>
                  rec r2 (wr (x3 + 1)) h2
              else none
          else none) n
theorem f_X0_nextPairOf_L4_s (x1 : Int) (n : Nat) (x2 : Int) (x3 : Int) (h : Hp) : f_X0_nextPairOf_L4 x1 (n + 1) x2 x3 h =
    if (h 19 7) ≤ x3 then
      some (x2, h)
    else
      bd (f_X0_pairOf x3 x1 h) fun r1 h1 =>
      if r1 < 0 then
        f_X0_nextPairOf_L4 x1 n x2 (wr (x3 + 1)) h1
      else
        if 144 ≤ r1 then
          f_X0_nextPairOf_L4 x1 n x2 (wr (x3 + 1)) h1
        else
          if inb r1 144 then
            if (h1 22 (Int.toNat r1)) = 0 then
              f_X0_nextPairOf_L4 x1 n x2 (wr (x3 + 1)) h1
            else
              if inb r1 144 then
                if ¬ (h1 23 (Int.toNat r1)) = 0 then
                  f_X0_nextPairOf_L4 x1 n x2 (wr (x3 + 1)) h1
                else
                  bd (f_X0_aheadOf r1 x2 h1) fun r2 h2 =>
                  f_X0_nextPairOf_L4 x1 n r2 (wr (x3 + 1)) h2
              else none
          else none := rfl
noncomputable def f_X0_nextPairOf (x1 : Int) (h : Hp) : Option (Int × Hp) :=
  (f_X0_nextPairOf_L4 x1
     fu (-1) 0 h)
noncomputable def f_X0_nextAsk_L2  (n : Nat) : Int → Hp → Option (Int × Hp) :=
  Nat.rec (motive := fun _ => Int → Hp → Option (Int × Hp)) (fun _ _ => none) (fun _ rec x1 h =>
    if (h 19 8) ≤ x1 then
      some ((-1), h)
    else
      bd (f_X0_umbrellaMatched x1 h) fun r1 h1 =>
      if ¬ r1 = (-1) then
        rec (wr (x1 + 1)) h1
      else
        bd (f_X0_nextPairOf x1 h1) fun r2 h2 =>
        if r2 = (-1) then
          rec (wr (x1 + 1)) h2
        else
          some (r2, h2)) n
theorem f_X0_nextAsk_L2_s  (n : Nat) (x1 : Int) (h : Hp) : f_X0_nextAsk_L2  (n + 1) x1 h =
    if (h 19 8) ≤ x1 then
      some ((-1), h)
    else
      bd (f_X0_umbrellaMatched x1 h) fun r1 h1 =>
      if ¬ r1 = (-1) then
        f_X0_nextAsk_L2  n (wr (x1 + 1)) h1
      else
        bd (f_X0_nextPairOf x1 h1) fun r2 h2 =>
        if r2 = (-1) then
          f_X0_nextAsk_L2  n (wr (x1 + 1)) h2
        else
          some (r2, h2) := rfl
noncomputable def f_X0_nextAsk  (h : Hp) : Option (Int × Hp) :=
  (f_X0_nextAsk_L2 
     fu 0 h)
noncomputable def f_X0_matchByAsking_L7 (x1 : Nat) (c19 : Hp → Option (Int × Hp)) (n : Nat) : Int → Hp → Option (Int × Hp) :=
  Nat.rec (motive := fun _ => Int → Hp → Option (Int × Hp)) (fun _ _ => none) (fun _ rec x2 h =>
    if ((144 : Nat) : Int) ≤ x2 then
      c19 h
    else
      if inb x2 144 ∧ isB 0 then
        lt (hup h 23 (Int.toNat x2) 0) fun h3 =>
        rec (wr (x2 + 1)) h3
      else none) n
theorem f_X0_matchByAsking_L7_s (x1 : Nat) (c19 : Hp → Option (Int × Hp)) (n : Nat) (x2 : Int) (h : Hp) : f_X0_matchByAsking_L7 x1 c19 (n + 1) x2 h =
    if ((144 : Nat) : Int) ≤ x2 then
      c19 h
    else
      if inb x2 144 ∧ isB 0 then
        lt (hup h 23 (Int.toNat x2) 0) fun h3 =>
        f_X0_matchByAsking_L7 x1 c19 n (wr (x2 + 1)) h3
      else none := rfl
noncomputable def f_X0_matchByAsking_L21 (x1 : Nat) (n : Nat) : Int → Hp → Option (Int × Hp) :=
  Nat.rec (motive := fun _ => Int → Hp → Option (Int × Hp)) (fun _ _ => none) (fun _ rec x2 h =>
    if 144 ≤ x2 then
      some (0, h)
    else
      bd (f_X0_nextAsk  h) fun r5 h5 =>
      if ¬ r5 = (-1) then
        bd (f_X0_askFor r5 h5) fun _ h6 =>
        rec (wr (x2 + 1)) h6
      else
        some (0, h5)) n
theorem f_X0_matchByAsking_L21_s (x1 : Nat) (n : Nat) (x2 : Int) (h : Hp) : f_X0_matchByAsking_L21 x1 (n + 1) x2 h =
    if 144 ≤ x2 then
      some (0, h)
    else
      bd (f_X0_nextAsk  h) fun r5 h5 =>
      if ¬ r5 = (-1) then
        bd (f_X0_askFor r5 h5) fun _ h6 =>
        f_X0_matchByAsking_L21 x1 n (wr (x2 + 1)) h6
      else
        some (0, h5) := rfl
noncomputable def f_X0_matchByAsking (x1 : Nat) (h : Hp) : Option (Int × Hp) :=
  bd (f_X0_weighAll x1 h) fun _ h1 =>
  bd (f_X0_matchNone  h1) fun _ h2 =>
  (f_X0_matchByAsking_L7 x1
    (fun h4 =>
      (f_X0_matchByAsking_L21 x1
         fu 0 h4))
     fu 0 h2)
noncomputable def f_X0_reasonAgainst (x1 : Int) (x2 : Int) (x3 : Nat) (h : Hp) : Option (Int × Hp) :=
  bd (f_X0_pairOf x1 x2 h) fun r1 h1 =>
  bd (f_X0_claimMatched x1 h1) fun r2 h2 =>
  if r1 < 0 then
    some (0, h2)
  else
    if 144 ≤ r1 then
      some (0, h2)
    else
      if ¬ r2 = x2 then
        if inb r1 144 then
          bd (f_X1_setting x3 0 h2) fun r3 h3 =>
          if (h2 20 (Int.toNat r1)) ≤ r3 then
            if inb r1 144 then
              if ¬ (h3 22 (Int.toNat r1)) = 0 then
                bd (f_X0_pairOf x1 r2 h3) fun r4 h4 =>
                bd (f_X0_aheadOf r4 r1 h4) fun r5 h5 =>
                if ¬ r5 = r1 then
                  some (3, h5)
                else
                  some (4, h5)
              else
                some (2, h3)
            else none
          else
            some (1, h3)
        else none
      else
        some (0, h2)
noncomputable def f_X0_umbrellasSuiting_L4 (x1 : Int) (n : Nat) : Int → Int → Hp → Option (Int × Hp) :=
  Nat.rec (motive := fun _ => Int → Int → Hp → Option (Int × Hp)) (fun _ _ _ => none) (fun _ rec x2 x3 h =>
    if (h 19 7) ≤ x3 then
      some (x2, h)
    else
      bd (f_X0_suits x3 x1 h) fun r1 h1 =>
      if r1 = 0 then
        rec x2 (wr (x3 + 1)) h1
      else
        rec (wr (x2 + 1)) (wr (x3 + 1)) h1) n
theorem f_X0_umbrellasSuiting_L4_s (x1 : Int) (n : Nat) (x2 : Int) (x3 : Int) (h : Hp) : f_X0_umbrellasSuiting_L4 x1 (n + 1) x2 x3 h =
    if (h 19 7) ≤ x3 then
      some (x2, h)
    else
      bd (f_X0_suits x3 x1 h) fun r1 h1 =>
      if r1 = 0 then
        f_X0_umbrellasSuiting_L4 x1 n x2 (wr (x3 + 1)) h1
      else
        f_X0_umbrellasSuiting_L4 x1 n (wr (x2 + 1)) (wr (x3 + 1)) h1 := rfl
noncomputable def f_X0_umbrellasSuiting (x1 : Int) (h : Hp) : Option (Int × Hp) :=
  (f_X0_umbrellasSuiting_L4 x1
     fu 0 0 h)
noncomputable def f_X0_worthOf (x1 : Int) (x2 : Int) (h : Hp) : Option (Int × Hp) :=
  bd (f_X0_pairOf x1 x2 h) fun r1 h1 =>
  bd (f_X4_numberAt 21 144 r1 h1) fun r2 h2 =>
  some (r2, h2)
noncomputable def f_X0_worthOfMatched_L4  (n : Nat) : Int → Int → Hp → Option (Int × Hp) :=
  Nat.rec (motive := fun _ => Int → Int → Hp → Option (Int × Hp)) (fun _ _ _ => none) (fun _ rec x1 x2 h =>
    if (h 19 7) ≤ x2 then
      some (x1, h)
    else
      bd (f_X0_claimMatched x2 h) fun r1 h1 =>
      if r1 = (-1) then
        rec x1 (wr (x2 + 1)) h1
      else
        bd (f_X0_worthOf x2 r1 h1) fun r2 h2 =>
        lv (wr (x1 + r2)) fun y3 =>
        rec y3 (wr (x2 + 1)) h2) n
theorem f_X0_worthOfMatched_L4_s  (n : Nat) (x1 : Int) (x2 : Int) (h : Hp) : f_X0_worthOfMatched_L4  (n + 1) x1 x2 h =
    if (h 19 7) ≤ x2 then
      some (x1, h)
    else
      bd (f_X0_claimMatched x2 h) fun r1 h1 =>
      if r1 = (-1) then
        f_X0_worthOfMatched_L4  n x1 (wr (x2 + 1)) h1
      else
        bd (f_X0_worthOf x2 r1 h1) fun r2 h2 =>
        lv (wr (x1 + r2)) fun y3 =>
        f_X0_worthOfMatched_L4  n y3 (wr (x2 + 1)) h2 := rfl
noncomputable def f_X0_worthOfMatched  (h : Hp) : Option (Int × Hp) :=
  (f_X0_worthOfMatched_L4 
     fu 0 0 h)
noncomputable def f_X1_addTo (x0 : Nat) (x1 : Int) (x2 : Int) (h : Hp) : Option (Int × Hp) :=
  if x1 < 0 then
    some (0, h)
  else
    if ((12 : Nat) : Int) ≤ x1 then
      some (0, h)
    else
      if inb x1 12 then
        if inb x1 12 then
          lt (hup h (x0 + 8) (Int.toNat x1) (wr ((h (x0 + 8) (Int.toNat x1)) + x2))) fun h1 =>
          some (0, h1)
        else none
      else none
noncomputable def f_X2_become (x0 : Nat) (x1 : Nat) (h : Hp) : Option (Int × Hp) :=
  bd (some (0, hcpy h (x1 + 1) (x0 + 1) 72)) fun _ h1 =>
  lt (hup h1 x0 1 (h1 x1 1)) fun h2 =>
  some (0, h2)
noncomputable def f_X1_become (x0 : Nat) (x1 : Nat) (h : Hp) : Option (Int × Hp) :=
  bd (f_X2_become (x0 + 1) (x1 + 1) h) fun _ h1 =>
  bd (f_X2_become (x0 + 3) (x1 + 3) h1) fun _ h2 =>
  bd (f_X2_become (x0 + 5) (x1 + 5) h2) fun _ h3 =>
  bd (some (0, hcpy h3 (x1 + 7) (x0 + 7) 7)) fun _ h4 =>
  bd (some (0, hcpy h4 (x1 + 8) (x0 + 8) 12)) fun _ h5 =>
  some (0, h5)
noncomputable def f_X1_changeSetting (x0 : Nat) (x1 : Int) (x2 : Int) (h : Hp) : Option (Int × Hp) :=
  if x1 < 0 then
    some ((-1000001), h)
  else
    if ((7 : Nat) : Int) ≤ x1 then
      some ((-1000001), h)
    else
      bd (f_X4_numberAt 85 7 x1 h) fun r1 h1 =>
      if x2 < r1 then
        some ((-1000001), h1)
      else
        bd (f_X4_numberAt 86 7 x1 h1) fun r2 h2 =>
        if x2 ≤ r2 then
          if inb x1 7 then
            lv (h2 (x0 + 7) (Int.toNat x1)) fun y3 =>
            if inb x1 7 then
              lt (hup h2 (x0 + 7) (Int.toNat x1) x2) fun h4 =>
              some (y3, h4)
            else none
          else none
        else
          some ((-1000001), h2)
noncomputable def f_X2_has (x0 : Nat) (x1 : Int) (h : Hp) : Option (Int × Hp) :=
  if x1 < 0 then
    some (0, h)
  else
    if (h x0 1) ≤ x1 then
      some (0, h)
    else
      some (1, h)
noncomputable def f_X2_remove_L11 (x0 : Nat) (n : Nat) : Int → Hp → Option (Int × Hp) :=
  Nat.rec (motive := fun _ => Int → Hp → Option (Int × Hp)) (fun _ _ => none) (fun _ rec x2 h =>
    if ((72 : Nat) : Int) ≤ (wr (x2 + 6)) then
      lt (hup h x0 1 (wr ((h x0 1) - 1))) fun h2 =>
      some (0, h2)
    else
      if inb (wr (x2 + 6)) 72 then
        if inb x2 72 then
          lt (hup h (x0 + 1) (Int.toNat x2) (h (x0 + 1) (Int.toNat (wr (x2 + 6))))) fun h3 =>
          rec (wr (x2 + 1)) h3
        else none
      else none) n
theorem f_X2_remove_L11_s (x0 : Nat) (n : Nat) (x2 : Int) (h : Hp) : f_X2_remove_L11 x0 (n + 1) x2 h =
    if ((72 : Nat) : Int) ≤ (wr (x2 + 6)) then
      lt (hup h x0 1 (wr ((h x0 1) - 1))) fun h2 =>
      some (0, h2)
    else
      if inb (wr (x2 + 6)) 72 then
        if inb x2 72 then
          lt (hup h (x0 + 1) (Int.toNat x2) (h (x0 + 1) (Int.toNat (wr (x2 + 6))))) fun h3 =>
          f_X2_remove_L11 x0 n (wr (x2 + 1)) h3
        else none
      else none := rfl
noncomputable def f_X2_remove (x0 : Nat) (x1 : Int) (h : Hp) : Option (Int × Hp) :=
  if x1 < 0 then
    some (0, h)
  else
    if x1 < (h x0 1) then
      lv (wr (x1 * 6)) fun y1 =>
      (f_X2_remove_L11 x0
         fu y1 h)
    else
      some (0, h)
noncomputable def f_X1_dropClaim (x0 : Nat) (x1 : Int) (h : Hp) : Option (Int × Hp) :=
  bd (f_X2_has (x0 + 3) x1 h) fun r1 h1 =>
  if ¬ r1 = 0 then
    bd (f_X2_remove (x0 + 3) x1 h1) fun _ h2 =>
    bd (f_X1_addTo x0 11 1 h2) fun _ h3 =>
    some ((h3 (x0 + 3) 1), h3)
  else
    some ((-1000001), h1)
noncomputable def f_X1_sum (x0 : Nat) (x1 : Int) (h : Hp) : Option (Int × Hp) :=
  if x1 < 0 then
    some (0, h)
  else
    if ((12 : Nat) : Int) ≤ x1 then
      some (0, h)
    else
      if inb x1 12 then
        some ((h (x0 + 8) (Int.toNat x1)), h)
      else none
noncomputable def f_X2_append (x0 : Nat) (x1 : Int) (x2 : Int) (x3 : Int) (x4 : Int) (h : Hp) : Option (Int × Hp) :=
  lv (wr ((h x0 1) * 6)) fun y1 =>
  if y1 < 0 then
    some ((-1), h)
  else
    if (wr (y1 + 6)) ≤ ((72 : Nat) : Int) then
      if inb y1 72 then
        lt (hup h (x0 + 1) (Int.toNat y1) x1) fun h2 =>
        if inb (wr (y1 + 1)) 72 then
          lt (hup h2 (x0 + 1) (Int.toNat (wr (y1 + 1))) x2) fun h3 =>
          if inb (wr (y1 + 2)) 72 then
            lt (hup h3 (x0 + 1) (Int.toNat (wr (y1 + 2))) x3) fun h4 =>
            if inb (wr (y1 + 3)) 72 then
              lt (hup h4 (x0 + 1) (Int.toNat (wr (y1 + 3))) x4) fun h5 =>
              if inb (wr (y1 + 4)) 72 then
                lt (hup h5 (x0 + 1) (Int.toNat (wr (y1 + 4))) 0) fun h6 =>
                if inb (wr (y1 + 5)) 72 then
                  lt (hup h6 (x0 + 1) (Int.toNat (wr (y1 + 5))) 0) fun h7 =>
                  lt (hup h7 x0 1 (wr ((h7 x0 1) + 1))) fun h8 =>
                  some ((wr ((h8 x0 1) - 1)), h8)
                else none
              else none
            else none
          else none
        else none
      else none
    else
      some ((-1), h)
noncomputable def f_X1_enter_J9 (x0 : Nat) (x1 : Int) (x2 : Int) (x3 : Int) (h : Hp) : Option (Int × Hp) :=
  bd (f_X1_sum x0 0 h) fun r1 h1 =>
  bd (f_X2_append (x0 + 5) r1 x1 x2 x3 h1) fun r2 h2 =>
  bd (f_X1_addTo x0 10 x3 h2) fun _ h3 =>
  some (0, h3)
noncomputable def f_X1_enter (x0 : Nat) (x1 : Int) (x2 : Int) (x3 : Int) (h : Hp) : Option (Int × Hp) :=
  if (h (x0 + 5) 1) < 10 then
    f_X1_enter_J9 x0 x1 x2 x3 h
  else
    bd (f_X2_remove (x0 + 5) 0 h) fun _ h4 =>
    f_X1_enter_J9 x0 x1 x2 x3 h4
noncomputable def f_X1_endOld_L5 (x0 : Nat) (x1 : Nat) (x2 : Int) (x3 : Int) (x4 : Int) (n : Nat) : Int → Int → Hp → Option (Int × Hp) :=
  Nat.rec (motive := fun _ => Int → Int → Hp → Option (Int × Hp)) (fun _ _ _ => none) (fun _ rec x5 x6 h =>
    if x6 ≤ 0 then
      some (0, h)
    else
      bd (f_X2_cell x1 x5 4 h) fun r2 h2 =>
      bd (f_X1_setting x0 5 h2) fun r3 h3 =>
      if r3 ≤ r2 then
        bd (f_X2_remove x1 x5 h3) fun _ h4 =>
        bd (f_X1_addTo x0 x3 1 h4) fun _ h5 =>
        bd (f_X1_enter x0 x2 r2 x4 h5) fun _ h6 =>
        rec x5 (wr (x6 + (-1))) h6
      else
        rec (wr (x5 + 1)) (wr (x6 + (-1))) h3) n
theorem f_X1_endOld_L5_s (x0 : Nat) (x1 : Nat) (x2 : Int) (x3 : Int) (x4 : Int) (n : Nat) (x5 : Int) (x6 : Int) (h : Hp) : f_X1_endOld_L5 x0 x1 x2 x3 x4 (n + 1) x5 x6 h =
    if x6 ≤ 0 then
      some (0, h)
    else
      bd (f_X2_cell x1 x5 4 h) fun r2 h2 =>
      bd (f_X1_setting x0 5 h2) fun r3 h3 =>
      if r3 ≤ r2 then
        bd (f_X2_remove x1 x5 h3) fun _ h4 =>
        bd (f_X1_addTo x0 x3 1 h4) fun _ h5 =>
        bd (f_X1_enter x0 x2 r2 x4 h5) fun _ h6 =>
        f_X1_endOld_L5 x0 x1 x2 x3 x4 n x5 (wr (x6 + (-1))) h6
      else
        f_X1_endOld_L5 x0 x1 x2 x3 x4 n (wr (x5 + 1)) (wr (x6 + (-1))) h3 := rfl
noncomputable def f_X1_endOld (x0 : Nat) (x1 : Nat) (x2 : Int) (x3 : Int) (x4 : Int) (h : Hp) : Option (Int × Hp) :=
  lv (h x1 1) fun y1 =>
  (f_X1_endOld_L5 x0 x1 x2 x3 x4
     fu 0 y1 h)
noncomputable def f_X2_put (x0 : Nat) (x1 : Int) (x2 : Int) (x3 : Int) (h : Hp) : Option (Int × Hp) :=
  if x1 < 0 then
    some (0, h)
  else
    if (h x0 1) ≤ x1 then
      some (0, h)
    else
      if x2 < 0 then
        some (0, h)
      else
        if x2 < 6 then
          lv (wr ((wr (x1 * 6)) + x2)) fun y1 =>
          if y1 < 0 then
            some (0, h)
          else
            if ((72 : Nat) : Int) ≤ y1 then
              some (0, h)
            else
              if inb y1 72 then
                lt (hup h (x0 + 1) (Int.toNat y1) x3) fun h2 =>
                some (0, h2)
              else none
        else
          some (0, h)
noncomputable def f_X1_growOlder_L2 (x0 : Nat) (x1 : Nat) (n : Nat) : Int → Hp → Option (Int × Hp) :=
  Nat.rec (motive := fun _ => Int → Hp → Option (Int × Hp)) (fun _ _ => none) (fun _ rec x2 h =>
    if (h x1 1) ≤ x2 then
      some (0, h)
    else
      bd (f_X2_cell x1 x2 4 h) fun r1 h1 =>
      bd (f_X2_put x1 x2 4 (wr (r1 + 1)) h1) fun _ h2 =>
      rec (wr (x2 + 1)) h2) n
theorem f_X1_growOlder_L2_s (x0 : Nat) (x1 : Nat) (n : Nat) (x2 : Int) (h : Hp) : f_X1_growOlder_L2 x0 x1 (n + 1) x2 h =
    if (h x1 1) ≤ x2 then
      some (0, h)
    else
      bd (f_X2_cell x1 x2 4 h) fun r1 h1 =>
      bd (f_X2_put x1 x2 4 (wr (r1 + 1)) h1) fun _ h2 =>
      f_X1_growOlder_L2 x0 x1 n (wr (x2 + 1)) h2 := rfl
noncomputable def f_X1_growOlder (x0 : Nat) (x1 : Nat) (h : Hp) : Option (Int × Hp) :=
  (f_X1_growOlder_L2 x0 x1
     fu 0 h)
noncomputable def f_X1_handOut_L2 (x0 : Nat) (c33 : Hp → Option (Int × Hp)) (n : Nat) : Int → Hp → Option (Int × Hp) :=
  Nat.rec (motive := fun _ => Int → Hp → Option (Int × Hp)) (fun _ _ => none) (fun _ rec x2 h =>
    if (h (x0 + 1) 1) ≤ x2 then
      c33 h
    else
      bd (f_X0_claimMatched x2 h) fun r1 h1 =>
      if r1 = (-1) then
        rec (wr (x2 + 1)) h1
      else
        bd (f_X2_cell (x0 + 1) x2 4 h1) fun r2 h2 =>
        bd (f_X1_setting x0 4 h2) fun r3 h3 =>
        bd (f_X1_enter x0 0 r2 (wr (r2 * r3)) h3) fun _ h4 =>
        bd (f_X1_addTo x0 7 1 h4) fun _ h5 =>
        rec (wr (x2 + 1)) h5) n
theorem f_X1_handOut_L2_s (x0 : Nat) (c33 : Hp → Option (Int × Hp)) (n : Nat) (x2 : Int) (h : Hp) : f_X1_handOut_L2 x0 c33 (n + 1) x2 h =
    if (h (x0 + 1) 1) ≤ x2 then
      c33 h
    else
      bd (f_X0_claimMatched x2 h) fun r1 h1 =>
      if r1 = (-1) then
        f_X1_handOut_L2 x0 c33 n (wr (x2 + 1)) h1
      else
        bd (f_X2_cell (x0 + 1) x2 4 h1) fun r2 h2 =>
        bd (f_X1_setting x0 4 h2) fun r3 h3 =>
        bd (f_X1_enter x0 0 r2 (wr (r2 * r3)) h3) fun _ h4 =>
        bd (f_X1_addTo x0 7 1 h4) fun _ h5 =>
        f_X1_handOut_L2 x0 c33 n (wr (x2 + 1)) h5 := rfl
noncomputable def f_X1_handOut_L39 (x0 : Nat) (c52 : Hp → Option (Int × Hp)) (n : Nat) : Int → Hp → Option (Int × Hp) :=
  Nat.rec (motive := fun _ => Int → Hp → Option (Int × Hp)) (fun _ _ => none) (fun _ rec x2 h =>
    if x2 < 0 then
      c52 h
    else
      bd (f_X0_claimMatched x2 h) fun r8 h8 =>
      if r8 = (-1) then
        rec (wr (x2 + (-1))) h8
      else
        bd (f_X2_remove (x0 + 1) x2 h8) fun _ h9 =>
        rec (wr (x2 + (-1))) h9) n
theorem f_X1_handOut_L39_s (x0 : Nat) (c52 : Hp → Option (Int × Hp)) (n : Nat) (x2 : Int) (h : Hp) : f_X1_handOut_L39 x0 c52 (n + 1) x2 h =
    if x2 < 0 then
      c52 h
    else
      bd (f_X0_claimMatched x2 h) fun r8 h8 =>
      if r8 = (-1) then
        f_X1_handOut_L39 x0 c52 n (wr (x2 + (-1))) h8
      else
        bd (f_X2_remove (x0 + 1) x2 h8) fun _ h9 =>
        f_X1_handOut_L39 x0 c52 n (wr (x2 + (-1))) h9 := rfl
noncomputable def f_X1_handOut_L58 (x0 : Nat) (n : Nat) : Int → Hp → Option (Int × Hp) :=
  Nat.rec (motive := fun _ => Int → Hp → Option (Int × Hp)) (fun _ _ => none) (fun _ rec x2 h =>
    if x2 < 0 then
      some ((h 19 9), h)
    else
      bd (f_X0_umbrellaMatched x2 h) fun r12 h12 =>
      if r12 = (-1) then
        rec (wr (x2 + (-1))) h12
      else
        bd (f_X2_remove (x0 + 3) x2 h12) fun _ h13 =>
        rec (wr (x2 + (-1))) h13) n
theorem f_X1_handOut_L58_s (x0 : Nat) (n : Nat) (x2 : Int) (h : Hp) : f_X1_handOut_L58 x0 (n + 1) x2 h =
    if x2 < 0 then
      some ((h 19 9), h)
    else
      bd (f_X0_umbrellaMatched x2 h) fun r12 h12 =>
      if r12 = (-1) then
        f_X1_handOut_L58 x0 n (wr (x2 + (-1))) h12
      else
        bd (f_X2_remove (x0 + 3) x2 h12) fun _ h13 =>
        f_X1_handOut_L58 x0 n (wr (x2 + (-1))) h13 := rfl
noncomputable def f_X1_handOut (x0 : Nat) (h : Hp) : Option (Int × Hp) :=
  (f_X1_handOut_L2 x0
    (fun h6 =>
      lv (wr ((h6 (x0 + 1) 1) - 1)) fun y7 =>
      (f_X1_handOut_L39 x0
        (fun h10 =>
          lv (wr ((h10 (x0 + 3) 1) - 1)) fun y11 =>
          (f_X1_handOut_L58 x0
             fu y11 h10))
         fu y7 h6))
     fu 0 h)
noncomputable def f_X4_isDetail (x0 : Int) (h : Hp) : Option (Int × Hp) :=
  if x0 < 0 then
    some (0, h)
  else
    if 4 ≤ x0 then
      some (0, h)
    else
      some (1, h)
noncomputable def f_X4_isValue (x0 : Int) (h : Hp) : Option (Int × Hp) :=
  if x0 < 0 then
    some (0, h)
  else
    if 10 ≤ x0 then
      some (0, h)
    else
      some (1, h)
noncomputable def f_X1_noteDetail_J32 (x0 : Nat) (x1 : Int) (x2 : Int) (x3 : Int) (x5 : Int) (h : Hp) : Option (Int × Hp) :=
  bd (f_X2_put (x0 + 3) x1 x2 x3 h) fun _ h6 =>
  bd (f_X2_put (x0 + 3) x1 5 x5 h6) fun _ h7 =>
  some (x5, h7)
noncomputable def f_X1_noteDetail (x0 : Nat) (x1 : Int) (x2 : Int) (x3 : Int) (h : Hp) : Option (Int × Hp) :=
  bd (f_X2_has (x0 + 3) x1 h) fun r1 h1 =>
  if r1 = 0 then
    some ((-1000001), h1)
  else
    bd (f_X4_isDetail x2 h1) fun r2 h2 =>
    if r2 = 0 then
      some ((-1000001), h2)
    else
      bd (f_X4_isValue x3 h2) fun r3 h3 =>
      if ¬ r3 = 0 then
        bd (f_X2_cell (x0 + 3) x1 x2 h3) fun r4 h4 =>
        bd (f_X2_cell (x0 + 3) x1 5 h4) fun r5 h5 =>
        if r4 = (-1) then
          f_X1_noteDetail_J32 x0 x1 x2 x3 r5 h5
        else
          if r4 = x3 then
            f_X1_noteDetail_J32 x0 x1 x2 x3 r5 h5
          else
            f_X1_noteDetail_J32 x0 x1 x2 x3 (wr (r5 + 1)) h5
      else
        some ((-1000001), h3)
noncomputable def f_X1_umbrellasWith_L4 (x0 : Nat) (x1 : Int) (x2 : Int) (n : Nat) : Int → Int → Hp → Option (Int × Hp) :=
  Nat.rec (motive := fun _ => Int → Int → Hp → Option (Int × Hp)) (fun _ _ _ => none) (fun _ rec x3 x4 h =>
    if (h (x0 + 1) 1) ≤ x4 then
      some (x3, h)
    else
      bd (f_X2_cell (x0 + 1) x4 x1 h) fun r1 h1 =>
      if ¬ r1 = x2 then
        rec x3 (wr (x4 + 1)) h1
      else
        rec (wr (x3 + 1)) (wr (x4 + 1)) h1) n
theorem f_X1_umbrellasWith_L4_s (x0 : Nat) (x1 : Int) (x2 : Int) (n : Nat) (x3 : Int) (x4 : Int) (h : Hp) : f_X1_umbrellasWith_L4 x0 x1 x2 (n + 1) x3 x4 h =
    if (h (x0 + 1) 1) ≤ x4 then
      some (x3, h)
    else
      bd (f_X2_cell (x0 + 1) x4 x1 h) fun r1 h1 =>
      if ¬ r1 = x2 then
        f_X1_umbrellasWith_L4 x0 x1 x2 n x3 (wr (x4 + 1)) h1
      else
        f_X1_umbrellasWith_L4 x0 x1 x2 n (wr (x3 + 1)) (wr (x4 + 1)) h1 := rfl
noncomputable def f_X1_umbrellasWith (x0 : Nat) (x1 : Int) (x2 : Int) (h : Hp) : Option (Int × Hp) :=
  (f_X1_umbrellasWith_L4 x0 x1 x2
     fu 0 0 h)
noncomputable def f_X1_oddnessTogether_L4 (x0 : Nat) (x1 : Int) (n : Nat) : Int → Int → Hp → Option (Int × Hp) :=
  Nat.rec (motive := fun _ => Int → Int → Hp → Option (Int × Hp)) (fun _ _ _ => none) (fun _ rec x2 x3 h =>
    if 4 ≤ x3 then
      some (x2, h)
    else
      bd (f_X2_cell (x0 + 1) x1 x3 h) fun r1 h1 =>
      bd (f_X1_umbrellasWith x0 x3 r1 h1) fun r2 h2 =>
      lv (wr (x2 + (wr (13 - r2)))) fun y3 =>
      rec y3 (wr (x3 + 1)) h2) n
theorem f_X1_oddnessTogether_L4_s (x0 : Nat) (x1 : Int) (n : Nat) (x2 : Int) (x3 : Int) (h : Hp) : f_X1_oddnessTogether_L4 x0 x1 (n + 1) x2 x3 h =
    if 4 ≤ x3 then
      some (x2, h)
    else
      bd (f_X2_cell (x0 + 1) x1 x3 h) fun r1 h1 =>
      bd (f_X1_umbrellasWith x0 x3 r1 h1) fun r2 h2 =>
      lv (wr (x2 + (wr (13 - r2)))) fun y3 =>
      f_X1_oddnessTogether_L4 x0 x1 n y3 (wr (x3 + 1)) h2 := rfl
noncomputable def f_X1_oddnessTogether (x0 : Nat) (x1 : Int) (h : Hp) : Option (Int × Hp) :=
  (f_X1_oddnessTogether_L4 x0 x1
     fu 0 0 h)
noncomputable def f_X4_isWeeksAtOnce (x0 : Int) (h : Hp) : Option (Int × Hp) :=
  if x0 < 1 then
    some (0, h)
  else
    if 20 < x0 then
      some (0, h)
    else
      some (1, h)
noncomputable def f_X1_passWeeks_L20 (x0 : Nat) (x1 : Int) (x3 : Int) (n : Nat) : Int → Hp → Option (Int × Hp) :=
  Nat.rec (motive := fun _ => Int → Hp → Option (Int × Hp)) (fun _ _ => none) (fun _ rec x4 h =>
    if x1 ≤ x4 then
      bd (f_X1_sum x0 8 h) fun r4 h4 =>
      some ((wr (r4 - x3)), h4)
    else
      bd (f_X1_addTo x0 0 1 h) fun _ h5 =>
      bd (f_X1_growOlder x0 (x0 + 1) h5) fun _ h6 =>
      bd (f_X1_growOlder x0 (x0 + 3) h6) fun _ h7 =>
      bd (f_X1_setting x0 6 h7) fun r8 h8 =>
      bd (f_X1_endOld x0 (x0 + 1) 1 8 r8 h8) fun _ h9 =>
      bd (f_X1_endOld x0 (x0 + 3) 2 9 0 h9) fun _ h10 =>
      rec (wr (x4 + 1)) h10) n
theorem f_X1_passWeeks_L20_s (x0 : Nat) (x1 : Int) (x3 : Int) (n : Nat) (x4 : Int) (h : Hp) : f_X1_passWeeks_L20 x0 x1 x3 (n + 1) x4 h =
    if x1 ≤ x4 then
      bd (f_X1_sum x0 8 h) fun r4 h4 =>
      some ((wr (r4 - x3)), h4)
    else
      bd (f_X1_addTo x0 0 1 h) fun _ h5 =>
      bd (f_X1_growOlder x0 (x0 + 1) h5) fun _ h6 =>
      bd (f_X1_growOlder x0 (x0 + 3) h6) fun _ h7 =>
      bd (f_X1_setting x0 6 h7) fun r8 h8 =>
      bd (f_X1_endOld x0 (x0 + 1) 1 8 r8 h8) fun _ h9 =>
      bd (f_X1_endOld x0 (x0 + 3) 2 9 0 h9) fun _ h10 =>
      f_X1_passWeeks_L20 x0 x1 x3 n (wr (x4 + 1)) h10 := rfl
noncomputable def f_X1_passWeeks (x0 : Nat) (x1 : Int) (x2 : Int) (h : Hp) : Option (Int × Hp) :=
  bd (f_X4_isWeeksAtOnce x1 h) fun r1 h1 =>
  if ¬ r1 = 0 then
    bd (f_X1_sum x0 0 h1) fun r2 h2 =>
    if (wr (r2 + x1)) ≤ x2 then
      bd (f_X1_sum x0 8 h2) fun r3 h3 =>
      (f_X1_passWeeks_L20 x0 x1 r3
         fu 0 h3)
    else
      some ((-1000003), h2)
  else
    some ((-1000001), h1)
noncomputable def f_X4_isValueOrNotTold (x0 : Int) (h : Hp) : Option (Int × Hp) :=
  if x0 = (-1) then
    some (1, h)
  else
    bd (f_X4_isValue x0 h) fun r1 h1 =>
    if r1 = 0 then
      some (0, h1)
    else
      some (1, h1)
noncomputable def f_X1_takeClaim_J28 (x0 : Nat) (x1 : Int) (x2 : Int) (x3 : Int) (x4 : Int) (h : Hp) : Option (Int × Hp) :=
  if (h (x0 + 3) 1) < 12 then
    bd (f_X1_addTo x0 6 1 h) fun _ h5 =>
    bd (f_X2_append (x0 + 3) x1 x2 x3 x4 h5) fun r6 h6 =>
    some (r6, h6)
  else
    some ((-1000003), h)
noncomputable def f_X1_takeClaim (x0 : Nat) (x1 : Int) (x2 : Int) (x3 : Int) (x4 : Int) (h : Hp) : Option (Int × Hp) :=
  bd (f_X4_isValueOrNotTold x1 h) fun r1 h1 =>
  if r1 = 0 then
    some ((-1000001), h1)
  else
    bd (f_X4_isValueOrNotTold x2 h1) fun r2 h2 =>
    if r2 = 0 then
      some ((-1000001), h2)
    else
      bd (f_X4_isValueOrNotTold x3 h2) fun r3 h3 =>
      if r3 = 0 then
        some ((-1000001), h3)
      else
        bd (f_X4_isValueOrNotTold x4 h3) fun r4 h4 =>
        if ¬ r4 = 0 then
          if ¬ x1 = (-1) then
            f_X1_takeClaim_J28 x0 x1 x2 x3 x4 h4
          else
            if ¬ x2 = (-1) then
              f_X1_takeClaim_J28 x0 x1 x2 x3 x4 h4
            else
              if ¬ x3 = (-1) then
                f_X1_takeClaim_J28 x0 x1 x2 x3 x4 h4
              else
                if ¬ x4 = (-1) then
                  f_X1_takeClaim_J28 x0 x1 x2 x3 x4 h4
                else
                  some ((-1000002), h4)
        else
          some ((-1000001), h4)
noncomputable def f_X1_takeUmbrella (x0 : Nat) (x1 : Int) (x2 : Int) (x3 : Int) (x4 : Int) (h : Hp) : Option (Int × Hp) :=
  bd (f_X4_isValue x1 h) fun r1 h1 =>
  if r1 = 0 then
    some ((-1000001), h1)
  else
    bd (f_X4_isValue x2 h1) fun r2 h2 =>
    if r2 = 0 then
      some ((-1000001), h2)
    else
      bd (f_X4_isValue x3 h2) fun r3 h3 =>
      if r3 = 0 then
        some ((-1000001), h3)
      else
        bd (f_X4_isValue x4 h3) fun r4 h4 =>
        if ¬ r4 = 0 then
          if (h4 (x0 + 1) 1) < 12 then
            bd (f_X1_addTo x0 5 1 h4) fun _ h5 =>
            bd (f_X2_append (x0 + 1) x1 x2 x3 x4 h5) fun r6 h6 =>
            some (r6, h6)
          else
            some ((-1000003), h4)
        else
          some ((-1000001), h4)
noncomputable def f_X3_append (x1 : Int) (h : Hp) : Option (Int × Hp) :=
  if (h 28 1) < 0 then
    some (0, h)
  else
    if (h 28 1) < ((60 : Nat) : Int) then
      if inb (h 28 1) 60 ∧ isC x1 then
        lt (hup h 29 (Int.toNat (h 28 1)) x1) fun h1 =>
        lt (hup h1 28 1 (wr ((h1 28 1) + 1))) fun h2 =>
        some (1, h2)
      else none
    else
      some (0, h)
noncomputable def f_X3_signHere  (h : Hp) : Option (Int × Hp) :=
  if (h 28 2) < 0 then
    if isC 0 then some (0, h) else none
  else
    if (h 28 1) ≤ (h 28 2) then
      if isC 0 then some (0, h) else none
    else
      if ((60 : Nat) : Int) ≤ (h 28 2) then
        if isC 0 then some (0, h) else none
      else
        if inb (h 28 2) 60 then
          if isC (h 29 (Int.toNat (h 28 2))) then some ((h 29 (Int.toNat (h 28 2))), h) else none
        else none
noncomputable def f_X3_digitHere  (h : Hp) : Option (Int × Hp) :=
  bd (f_X3_signHere  h) fun r1 h1 =>
  if r1 < 48 then
    some ((-1), h1)
  else
    if 57 < r1 then
      some ((-1), h1)
    else
      some ((wr (r1 - 48)), h1)
noncomputable def f_X3_number (x1 : Int) (h : Hp) : Option (Int × Hp) :=
  bd (f_X4_numberAt 30 4 x1 h) fun r1 h1 =>
  some (r1, h1)
noncomputable def f_X3_readNumber  (h : Hp) : Option (Int × Hp) :=
  bd (f_X3_digitHere  h) fun r1 h1 =>
  lt (hup h1 28 2 (wr ((h1 28 2) + 1))) fun h2 =>
  bd (f_X3_digitHere  h2) fun r3 h3 =>
  if r3 = (-1) then
    some (r1, h3)
  else
    lv (wr ((wr (r1 * 10)) + r3)) fun y4 =>
    lt (hup h3 28 2 (wr ((h3 28 2) + 1))) fun h5 =>
    some (y4, h5)
noncomputable def f_X3_readSign (x1 : Int) (h : Hp) : Option (Int × Hp) :=
  bd (f_X3_signHere  h) fun r1 h1 =>
  if r1 = x1 then
    lt (hup h1 28 2 (wr ((h1 28 2) + 1))) fun h2 =>
    some (1, h2)
  else
    some (0, h1)
noncomputable def f_X3_readNumbers_J30 (c2 : Int → Hp → Option (Int × Hp)) (x1 : Int) (x2 : Int) (x3 : Int) (h : Hp) : Option (Int × Hp) :=
  bd (f_X3_digitHere  h) fun r1 h1 =>
  if r1 = (-1) then
    some (0, h1)
  else
    bd (f_X3_readNumber  h1) fun r2 h2 =>
    if inb x3 4 then
      lt (hup h2 30 (Int.toNat x3) r2) fun h3 =>
      c2 (wr (x3 + 1)) h3
    else none
noncomputable def f_X3_readNumbers_J18 (c2 : Int → Hp → Option (Int × Hp)) (x1 : Int) (x2 : Int) (x3 : Int) (h : Hp) : Option (Int × Hp) :=
  if x2 = 0 then
    f_X3_readNumbers_J30 c2 x1 x2 x3 h
  else
    bd (f_X3_readSign 45 h) fun r4 h4 =>
    if r4 = 0 then
      f_X3_readNumbers_J30 c2 x1 x2 x3 h4
    else
      if inb x3 4 then
        lt (hup h4 30 (Int.toNat x3) (-1)) fun h5 =>
        c2 (wr (x3 + 1)) h5
      else none
noncomputable def f_X3_readNumbers_L2 (x1 : Int) (x2 : Int) (n : Nat) : Int → Hp → Option (Int × Hp) :=
  Nat.rec (motive := fun _ => Int → Hp → Option (Int × Hp)) (fun _ _ => none) (fun _ rec x3 h =>
    if x1 ≤ x3 then
      some (1, h)
    else
      if ((4 : Nat) : Int) ≤ x3 then
        some (1, h)
      else
        if x3 ≤ 0 then
          f_X3_readNumbers_J18 rec x1 x2 x3 h
        else
          bd (f_X3_readSign 44 h) fun r6 h6 =>
          if ¬ r6 = 0 then
            f_X3_readNumbers_J18 rec x1 x2 x3 h6
          else
            some (0, h6)) n
theorem f_X3_readNumbers_L2_s (x1 : Int) (x2 : Int) (n : Nat) (x3 : Int) (h : Hp) : f_X3_readNumbers_L2 x1 x2 (n + 1) x3 h =
    if x1 ≤ x3 then
      some (1, h)
    else
      if ((4 : Nat) : Int) ≤ x3 then
        some (1, h)
      else
        if x3 ≤ 0 then
          f_X3_readNumbers_J18 (f_X3_readNumbers_L2 x1 x2 n) x1 x2 x3 h
        else
          bd (f_X3_readSign 44 h) fun r6 h6 =>
          if ¬ r6 = 0 then
            f_X3_readNumbers_J18 (f_X3_readNumbers_L2 x1 x2 n) x1 x2 x3 h6
          else
            some (0, h6) := rfl
noncomputable def f_X3_readNumbers (x1 : Int) (x2 : Int) (h : Hp) : Option (Int × Hp) :=
  (f_X3_readNumbers_L2 x1 x2
     fu 0 h)
noncomputable def f_X3_readWord_L2 (x1 : Nat) (n1 : Nat) (n : Nat) : Int → Hp → Option (Int × Hp) :=
  Nat.rec (motive := fun _ => Int → Hp → Option (Int × Hp)) (fun _ _ => none) (fun _ rec x2 h =>
    bd (f_J_length x1 n1 h) fun r1 h1 =>
    if r1 ≤ x2 then
      some (1, h1)
    else
      bd (f_J_charAt x1 n1 x2 h1) fun r2 h2 =>
      bd (f_X3_readSign r2 h2) fun r3 h3 =>
      if ¬ r3 = 0 then
        rec (wr (x2 + 1)) h3
      else
        some (0, h3)) n
theorem f_X3_readWord_L2_s (x1 : Nat) (n1 : Nat) (n : Nat) (x2 : Int) (h : Hp) : f_X3_readWord_L2 x1 n1 (n + 1) x2 h =
    bd (f_J_length x1 n1 h) fun r1 h1 =>
    if r1 ≤ x2 then
      some (1, h1)
    else
      bd (f_J_charAt x1 n1 x2 h1) fun r2 h2 =>
      bd (f_X3_readSign r2 h2) fun r3 h3 =>
      if ¬ r3 = 0 then
        f_X3_readWord_L2 x1 n1 n (wr (x2 + 1)) h3
      else
        some (0, h3) := rfl
noncomputable def f_X3_readWord (x1 : Nat) (n1 : Nat) (h : Hp) : Option (Int × Hp) :=
  (f_X3_readWord_L2 x1 n1
     fu 0 h)
noncomputable def f_X3_readOrder (x1 : Int) (h : Hp) : Option (Int × Hp) :=
  lt (hup h 28 2 x1) fun h1 =>
  bd (f_X3_signHere  h1) fun r2 h2 =>
  if r2 = 99 then
    lt (hup h2 28 3 1) fun h3 =>
    bd (f_X3_readWord 88 6 h3) fun r4 h4 =>
    if r4 = 0 then
      some (0, h4)
    else
      bd (f_X3_readNumbers 4 1 h4) fun r5 h5 =>
      if r5 = 0 then
        some (0, h5)
      else
        bd (f_X3_readSign 59 h5) fun r6 h6 =>
        if r6 = 0 then
          some (0, h6)
        else
          some (1, h6)
  else
    if r2 = 102 then
      lt (hup h2 28 3 0) fun h8 =>
      bd (f_X3_readWord 87 5 h8) fun r9 h9 =>
      if r9 = 0 then
        some (0, h9)
      else
        bd (f_X3_readNumbers 4 0 h9) fun r10 h10 =>
        if r10 = 0 then
          some (0, h10)
        else
          bd (f_X3_readSign 59 h10) fun r11 h11 =>
          if r11 = 0 then
            some (0, h11)
          else
            some (1, h11)
    else
      if r2 = 104 then
        lt (hup h2 28 3 4) fun h13 =>
        bd (f_X3_readWord 91 4 h13) fun r14 h14 =>
        if r14 = 0 then
          some (0, h14)
        else
          bd (f_X3_readSign 59 h14) fun r15 h15 =>
          if r15 = 0 then
            some (0, h15)
          else
            some (1, h15)
      else
        if r2 = 116 then
          lt (hup h2 28 3 2) fun h17 =>
          bd (f_X3_readWord 89 5 h17) fun r18 h18 =>
          if r18 = 0 then
            some (0, h18)
          else
            bd (f_X3_readNumbers 3 0 h18) fun r19 h19 =>
            if r19 = 0 then
              some (0, h19)
            else
              bd (f_X3_readSign 59 h19) fun r20 h20 =>
              if r20 = 0 then
                some (0, h20)
              else
                some (1, h20)
        else
          if r2 = 119 then
            lt (hup h2 28 3 3) fun h22 =>
            bd (f_X3_readWord 90 5 h22) fun r23 h23 =>
            if r23 = 0 then
              some (0, h23)
            else
              bd (f_X3_readNumbers 1 0 h23) fun r24 h24 =>
              if r24 = 0 then
                some (0, h24)
              else
                bd (f_X3_readSign 59 h24) fun r25 h25 =>
                if r25 = 0 then
                  some (0, h25)
                else
                  some (1, h25)
          else
            some (0, h2)
noncomputable def f_X4_bitsOf_L6 (c20 : UInt32 → Int → Hp → Option (Int × Hp)) (n : Nat) : UInt32 → Int → Int → Hp → Option (Int × Hp) :=
  Nat.rec (motive := fun _ => UInt32 → Int → Int → Hp → Option (Int × Hp)) (fun _ _ _ _ => none) (fun _ rec x1 x2 x3 h =>
    if 127 ≤ x3 then
      c20 x1 x2 h
    else
      if (Op.cmpValue (FP.fcmp x1 0x40000000) .l).toInt < 0 then
        c20 x1 x2 h
      else
        if nN (FP.fdiv x1 0x40000000) then
          rec (FP.fdiv x1 0x40000000) (wr (x2 + 1)) (wr (x3 + 1)) h
        else none) n
theorem f_X4_bitsOf_L6_s (c20 : UInt32 → Int → Hp → Option (Int × Hp)) (n : Nat) (x1 : UInt32) (x2 : Int) (x3 : Int) (h : Hp) : f_X4_bitsOf_L6 c20 (n + 1) x1 x2 x3 h =
    if 127 ≤ x3 then
      c20 x1 x2 h
    else
      if (Op.cmpValue (FP.fcmp x1 0x40000000) .l).toInt < 0 then
        c20 x1 x2 h
      else
        if nN (FP.fdiv x1 0x40000000) then
          f_X4_bitsOf_L6 c20 n (FP.fdiv x1 0x40000000) (wr (x2 + 1)) (wr (x3 + 1)) h
        else none := rfl
noncomputable def f_X4_bitsOf (x0 : UInt32) (h : Hp) : Option (Int × Hp) :=
  (f_X4_bitsOf_L6 
    (fun y1 y2 h3 =>
      if nN (FP.fsub y1 0x3f800000) then
        if nN (FP.fmul (FP.fsub y1 0x3f800000) 1258291200) then
          lv (FP.f2i (FP.fmul (FP.fsub y1 0x3f800000) 1258291200)).toInt fun y4 =>
          some ((Int32.ofInt (Int32.ofInt y2 <<< (Int32.ofInt 23 &&& 31)).toInt ||| Int32.ofInt y4).toInt, h3)
        else none
      else none)
     fu x0 127 0 h)
noncomputable def f_X4_book (x1 : Int) (x2 : Int) (h : Hp) : Option (Int × Hp) :=
  if x1 < 0 then
    some ((-1000001), h)
  else
    if x2 < 0 then
      some ((-1000001), h)
    else
      if x2 < 4 then
        lv (wr ((wr ((h 6 1) - 1)) - x1)) fun y1 =>
        if 0 ≤ y1 then
          bd (f_X2_cell 6 y1 x2 h) fun r2 h2 =>
          some (r2, h2)
        else
          some ((-1000004), h)
      else
        some ((-1000001), h)
noncomputable def f_X4_keepState  (h : Hp) : Option (Int × Hp) :=
  if (h 0 4) < 0 then
    some (0, h)
  else
    if ((5 : Nat) : Int) ≤ (h 0 4) then
      some (0, h)
    else
      if okA h 27 (h 0 4) 5 then
        if okA h 27 (h 0 4) 5 then
          bd (f_X1_become (Int.toNat (h 27 (Int.toNat (h 0 4)))) 1 h) fun _ h3 =>
          some (0, h3)
        else none
      else none
noncomputable def f_X4_forgetOldestState_L7 (y2 : Nat) (c24 : Hp → Option (Int × Hp)) (n : Nat) : Int → Hp → Option (Int × Hp) :=
  Nat.rec (motive := fun _ => Int → Hp → Option (Int × Hp)) (fun _ _ => none) (fun _ rec x2 h =>
    if ((5 : Nat) : Int) ≤ x2 then
      c24 h
    else
      if okA h 27 x2 5 then
        if inb (wr (x2 - 1)) 5 then
          lt (hup h 27 (Int.toNat (wr (x2 - 1))) (((Int.toNat (h 27 (Int.toNat x2))) : Nat) : Int)) fun h4 =>
          rec (wr (x2 + 1)) h4
        else none
      else none) n
theorem f_X4_forgetOldestState_L7_s (y2 : Nat) (c24 : Hp → Option (Int × Hp)) (n : Nat) (x2 : Int) (h : Hp) : f_X4_forgetOldestState_L7 y2 c24 (n + 1) x2 h =
    if ((5 : Nat) : Int) ≤ x2 then
      c24 h
    else
      if okA h 27 x2 5 then
        if inb (wr (x2 - 1)) 5 then
          lt (hup h 27 (Int.toNat (wr (x2 - 1))) (((Int.toNat (h 27 (Int.toNat x2))) : Nat) : Int)) fun h4 =>
          f_X4_forgetOldestState_L7 y2 c24 n (wr (x2 + 1)) h4
        else none
      else none := rfl
noncomputable def f_X4_forgetOldestState  (h : Hp) : Option (Int × Hp) :=
  if okA h 27 0 5 then
    lr (Int.toNat (h 27 (Int.toNat 0))) fun y2 =>
    (f_X4_forgetOldestState_L7 y2
      (fun h5 =>
        if inb (wr (((5 : Nat) : Int) - 1)) 5 then
          lt (hup h5 27 (Int.toNat (wr (((5 : Nat) : Int) - 1))) ((y2 : Nat) : Int)) fun h6 =>
          lt (hup h6 0 4 (wr ((h6 0 4) - 1))) fun h7 =>
          some (0, h7)
        else none)
       fu 1 h)
  else none
noncomputable def f_X4_recorded (x1 : Int) (h : Hp) : Option (Int × Hp) :=
  if x1 < 0 then
    some (x1, h)
  else
    lt (hup h 0 4 (wr ((h 0 4) + 1))) fun h1 =>
    if (h1 0 4) ≤ 4 then
      some (x1, h1)
    else
      bd (f_X4_forgetOldestState  h1) fun _ h2 =>
      some (x1, h2)
noncomputable def f_X4_claim (x1 : Int) (x2 : Int) (x3 : Int) (x4 : Int) (h : Hp) : Option (Int × Hp) :=
  bd (f_X4_keepState  h) fun _ h1 =>
  bd (f_X1_takeClaim 1 x1 x2 x3 x4 h1) fun r2 h2 =>
  bd (f_X4_recorded r2 h2) fun r3 h3 =>
  some (r3, h3)
noncomputable def f_X4_orNotFound (x0 : Int) (h : Hp) : Option (Int × Hp) :=
  if ¬ x0 = (-1) then
    some (x0, h)
  else
    some ((-1000004), h)
noncomputable def f_X4_claimOf (x1 : Int) (x2 : Int) (h : Hp) : Option (Int × Hp) :=
  bd (f_X2_has 4 x1 h) fun r1 h1 =>
  if r1 = 0 then
    some ((-1000001), h1)
  else
    if x2 < 0 then
      some ((-1000001), h1)
    else
      if x2 ≤ 7 then
        if 4 ≤ x2 then
          if ¬ x2 = 4 then
            if ¬ x2 = 7 then
              bd (f_X0_matchAll 1 h1) fun _ h2 =>
              if ¬ x2 = 5 then
                bd (f_X0_umbrellasSuiting x1 h2) fun r3 h3 =>
                some (r3, h3)
              else
                bd (f_X0_umbrellaMatched x1 h2) fun r4 h4 =>
                bd (f_X4_orNotFound r4 h4) fun r5 h5 =>
                some (r5, h5)
            else
              bd (f_X2_cell 4 x1 5 h1) fun r6 h6 =>
              some (r6, h6)
          else
            bd (f_X2_cell 4 x1 4 h1) fun r7 h7 =>
            some (r7, h7)
        else
          bd (f_X2_cell 4 x1 x2 h1) fun r8 h8 =>
          if ¬ r8 = (-1) then
            some (r8, h8)
          else
            some ((-1000004), h8)
      else
        some ((-1000001), h1)
noncomputable def f_X4_clearText  (h : Hp) : Option (Int × Hp) :=
  lv (h 28 1) fun y1 =>
  lt (hup h 28 1 0) fun h2 =>
  some (y1, h2)
noncomputable def f_X4_count_J13 (x1 : Int) (h : Hp) : Option (Int × Hp) :=
  if x1 = 1 then
    some ((h 2 1), h)
  else
    if x1 = 2 then
      some ((h 4 1), h)
    else
      if x1 = 3 then
        bd (f_X0_matchAll 1 h) fun _ h3 =>
        some ((h3 19 9), h3)
      else
        if x1 = 4 then
          bd (f_X0_matchByAsking 1 h) fun _ h5 =>
          some ((h5 19 9), h5)
        else
          if x1 = 5 then
            if x1 < 0 then
              some ((-1000001), h)
            else
              if 12 ≤ x1 then
                some ((-1000001), h)
              else
                bd (f_X1_sum 1 x1 h) fun r7 h7 =>
                some (r7, h7)
          else
            if x1 = 6 then
              if x1 < 0 then
                some ((-1000001), h)
              else
                if 12 ≤ x1 then
                  some ((-1000001), h)
                else
                  bd (f_X1_sum 1 x1 h) fun r9 h9 =>
                  some (r9, h9)
            else
              if x1 = 7 then
                if x1 < 0 then
                  some ((-1000001), h)
                else
                  if 12 ≤ x1 then
                    some ((-1000001), h)
                  else
                    bd (f_X1_sum 1 x1 h) fun r11 h11 =>
                    some (r11, h11)
              else
                if x1 = 8 then
                  if x1 < 0 then
                    some ((-1000001), h)
                  else
                    if 12 ≤ x1 then
                      some ((-1000001), h)
                    else
                      bd (f_X1_sum 1 x1 h) fun r13 h13 =>
                      some (r13, h13)
                else
                  if x1 = 9 then
                    if x1 < 0 then
                      some ((-1000001), h)
                    else
                      if 12 ≤ x1 then
                        some ((-1000001), h)
                      else
                        bd (f_X1_sum 1 x1 h) fun r15 h15 =>
                        some (r15, h15)
                  else
                    if x1 = 10 then
                      if x1 < 0 then
                        some ((-1000001), h)
                      else
                        if 12 ≤ x1 then
                          some ((-1000001), h)
                        else
                          bd (f_X1_sum 1 x1 h) fun r17 h17 =>
                          some (r17, h17)
                    else
                      if x1 = 11 then
                        if x1 < 0 then
                          some ((-1000001), h)
                        else
                          if 12 ≤ x1 then
                            some ((-1000001), h)
                          else
                            bd (f_X1_sum 1 x1 h) fun r19 h19 =>
                            some (r19, h19)
                      else
                        if x1 = 12 then
                          some ((h 6 1), h)
                        else
                          if x1 = 13 then
                            some ((h 0 4), h)
                          else
                            if x1 = 14 then
                              some ((h 28 1), h)
                            else
                              if x1 < 0 then
                                some ((-1000001), h)
                              else
                                if 12 ≤ x1 then
                                  some ((-1000001), h)
                                else
                                  bd (f_X1_sum 1 x1 h) fun r24 h24 =>
                                  some (r24, h24)
noncomputable def f_X4_count (x1 : Int) (h : Hp) : Option (Int × Hp) :=
  if x1 < 20 then
    f_X4_count_J13 x1 h
  else
    if 27 ≤ x1 then
      f_X4_count_J13 x1 h
    else
      bd (f_X1_setting 1 (wr (x1 - 20)) h) fun r25 h25 =>
      some (r25, h25)
noncomputable def f_X4_doOrder (x1 : Nat) (h : Hp) : Option (Int × Hp) :=
  if (h 28 3) = 0 then
    bd (f_X3_number 0 h) fun r1 h1 =>
    bd (f_X3_number 1 h1) fun r2 h2 =>
    bd (f_X3_number 2 h2) fun r3 h3 =>
    bd (f_X3_number 3 h3) fun r4 h4 =>
    bd (f_X1_takeUmbrella x1 r1 r2 r3 r4 h4) fun r5 h5 =>
    some (r5, h5)
  else
    if (h 28 3) = 1 then
      bd (f_X3_number 0 h) fun r7 h7 =>
      bd (f_X3_number 1 h7) fun r8 h8 =>
      bd (f_X3_number 2 h8) fun r9 h9 =>
      bd (f_X3_number 3 h9) fun r10 h10 =>
      bd (f_X1_takeClaim x1 r7 r8 r9 r10 h10) fun r11 h11 =>
      some (r11, h11)
    else
      if (h 28 3) = 2 then
        bd (f_X3_number 0 h) fun r13 h13 =>
        bd (f_X3_number 1 h13) fun r14 h14 =>
        bd (f_X3_number 2 h14) fun r15 h15 =>
        bd (f_X1_noteDetail x1 r13 r14 r15 h15) fun r16 h16 =>
        some (r16, h16)
      else
        if (h 28 3) = 3 then
          bd (f_X3_number 0 h) fun r18 h18 =>
          bd (f_X1_passWeeks x1 r18 999 h18) fun r19 h19 =>
          some (r19, h19)
        else
          bd (f_X0_matchAll x1 h) fun _ h21 =>
          bd (f_X1_handOut x1 h21) fun r22 h22 =>
          some (r22, h22)
noncomputable def f_X4_drop (x1 : Int) (h : Hp) : Option (Int × Hp) :=
  bd (f_X4_keepState  h) fun _ h1 =>
  bd (f_X1_dropClaim 1 x1 h1) fun r2 h2 =>
  bd (f_X4_recorded r2 h2) fun r3 h3 =>
  some (r3, h3)
noncomputable def f_X4_tellFault (x1 : Int) (x2 : Int) (x3 : Int) (h : Hp) : Option (Int × Hp) :=
  lt (hup h 0 7 x1) fun h1 =>
  lt (hup h1 0 8 x2) fun h2 =>
  lt (hup h2 0 9 x3) fun h3 =>
  some (0, h3)
noncomputable def f_X4_tryText_L13 (c27 : Int → Hp → Option (Int × Hp)) (n : Nat) : Int → Hp → Option (Int × Hp) :=
  Nat.rec (motive := fun _ => Int → Hp → Option (Int × Hp)) (fun _ _ => none) (fun _ rec x1 h =>
    if (h 28 1) ≤ x1 then
      some (0, h)
    else
      if 60 ≤ (h 0 6) then
        some (0, h)
      else
        bd (f_X3_readOrder x1 h) fun r4 h4 =>
        if ¬ r4 = 0 then
          bd (f_X4_doOrder 10 h4) fun r5 h5 =>
          if 0 ≤ r5 then
            lt (hup h5 0 6 (wr ((h5 0 6) + 1))) fun h6 =>
            lv (h6 28 2) fun y7 =>
            rec y7 h6
          else
            bd (f_X4_tellFault x1 2 r5 h5) fun _ h8 =>
            some (0, h8)
        else
          c27 x1 h4) n
theorem f_X4_tryText_L13_s (c27 : Int → Hp → Option (Int × Hp)) (n : Nat) (x1 : Int) (h : Hp) : f_X4_tryText_L13 c27 (n + 1) x1 h =
    if (h 28 1) ≤ x1 then
      some (0, h)
    else
      if 60 ≤ (h 0 6) then
        some (0, h)
      else
        bd (f_X3_readOrder x1 h) fun r4 h4 =>
        if ¬ r4 = 0 then
          bd (f_X4_doOrder 10 h4) fun r5 h5 =>
          if 0 ≤ r5 then
            lt (hup h5 0 6 (wr ((h5 0 6) + 1))) fun h6 =>
            lv (h6 28 2) fun y7 =>
            f_X4_tryText_L13 c27 n y7 h6
          else
            bd (f_X4_tellFault x1 2 r5 h5) fun _ h8 =>
            some (0, h8)
        else
          c27 x1 h4 := rfl
noncomputable def f_X4_tryText  (h : Hp) : Option (Int × Hp) :=
  bd (f_X1_become 10 1 h) fun _ h1 =>
  lt (hup h1 0 6 0) fun h2 =>
  lt (hup h2 0 7 (-1)) fun h3 =>
  (f_X4_tryText_L13 
    (fun y9 h10 =>
      bd (f_X4_tellFault y9 1 (wr ((h10 28 2) - y9)) h10) fun _ h11 =>
      some (0, h11))
     fu 0 h3)
noncomputable def f_X4_fault (x1 : Int) (h : Hp) : Option (Int × Hp) :=
  if x1 < 0 then
    some ((-1000001), h)
  else
    if x1 ≤ 2 then
      bd (f_X4_tryText  h) fun _ h1 =>
      if ¬ (h1 0 7) = (-1) then
        if ¬ x1 = 0 then
          if ¬ x1 = 1 then
            some ((h1 0 9), h1)
          else
            some ((h1 0 8), h1)
        else
          some ((h1 0 7), h1)
      else
        some ((-1000004), h1)
    else
      some ((-1000001), h)
noncomputable def f_X4_find (x1 : Int) (x2 : Int) (x3 : Int) (x4 : Int) (h : Hp) : Option (Int × Hp) :=
  bd (f_X4_keepState  h) fun _ h1 =>
  bd (f_X1_takeUmbrella 1 x1 x2 x3 x4 h1) fun r2 h2 =>
  bd (f_X4_recorded r2 h2) fun r3 h3 =>
  some (r3, h3)
noncomputable def f_X4_hand  (h : Hp) : Option (Int × Hp) :=
  bd (f_X4_keepState  h) fun _ h1 =>
  bd (f_X0_matchAll 1 h1) fun _ h2 =>
  bd (f_X1_handOut 1 h2) fun r3 h3 =>
  bd (f_X4_recorded r3 h3) fun r4 h4 =>
  some (r4, h4)
noncomputable def f_X4_having (x1 : Int) (x2 : Int) (h : Hp) : Option (Int × Hp) :=
  bd (f_X4_isDetail x1 h) fun r1 h1 =>
  if r1 = 0 then
    some ((-1000001), h1)
  else
    bd (f_X4_isValue x2 h1) fun r2 h2 =>
    if ¬ r2 = 0 then
      bd (f_X1_umbrellasWith 1 x1 x2 h2) fun r3 h3 =>
      some (r3, h3)
    else
      some ((-1000001), h2)
noncomputable def f_X4_ifTold (x1 : Int) (x2 : Int) (x3 : Int) (h : Hp) : Option (Int × Hp) :=
  bd (f_X1_become 10 1 h) fun _ h1 =>
  bd (f_X1_noteDetail 10 x1 x2 x3 h1) fun r2 h2 =>
  if 0 ≤ r2 then
    bd (f_X0_matchAll 10 h2) fun _ h3 =>
    bd (f_X0_umbrellaMatched x1 h3) fun r4 h4 =>
    bd (f_X4_orNotFound r4 h4) fun r5 h5 =>
    some (r5, h5)
  else
    some (r2, h2)
noncomputable def f_X4_ifWeeks (x1 : Int) (x2 : Int) (h : Hp) : Option (Int × Hp) :=
  bd (f_X4_isWeeksAtOnce x1 h) fun r1 h1 =>
  if r1 = 0 then
    some ((-1000001), h1)
  else
    if x2 < 0 then
      some ((-1000001), h1)
    else
      if x2 ≤ 2 then
        bd (f_X1_become 10 1 h1) fun _ h2 =>
        bd (f_X1_passWeeks 10 x1 1019 h2) fun r3 h3 =>
        if ¬ x2 = 0 then
          if ¬ x2 = 1 then
            bd (f_X0_matchAll 10 h3) fun _ h4 =>
            some ((h4 19 9), h4)
          else
            bd (f_X1_sum 10 9 h3) fun r5 h5 =>
            bd (f_X1_sum 1 9 h5) fun r6 h6 =>
            some ((wr (r5 - r6)), h6)
        else
          bd (f_X1_sum 10 8 h3) fun r7 h7 =>
          bd (f_X1_sum 1 8 h7) fun r8 h8 =>
          some ((wr (r7 - r8)), h8)
      else
        some ((-1000001), h1)
noncomputable def f_X4_isPair (x1 : Int) (x2 : Int) (h : Hp) : Option (Int × Hp) :=
  bd (f_X2_has 2 x1 h) fun r1 h1 =>
  if r1 = 0 then
    some (0, h1)
  else
    bd (f_X2_has 4 x2 h1) fun r2 h2 =>
    if r2 = 0 then
      some (0, h2)
    else
      some (1, h2)
noncomputable def f_X4_mean  (h : Hp) : Option (Int × Hp) :=
  bd (f_X0_matchAll 1 h) fun _ h1 =>
  lv (h1 19 9) fun y2 =>
  if 0 < y2 then
    bd (f_X0_worthOfMatched  h1) fun r3 h3 =>
    if nN (FP.fdiv (FP.i2f (Int32.ofInt r3)) (FP.i2f (Int32.ofInt y2))) then
      bd (f_X4_bitsOf (FP.fdiv (FP.i2f (Int32.ofInt r3)) (FP.i2f (Int32.ofInt y2))) h3) fun r4 h4 =>
      some (r4, h4)
    else none
  else
    some ((-1000004), h1)
noncomputable def f_X4_oddest_L6  (n : Nat) : Int → Int → Int → Hp → Option (Int × Hp) :=
  Nat.rec (motive := fun _ => Int → Int → Int → Hp → Option (Int × Hp)) (fun _ _ _ _ => none) (fun _ rec x1 x2 x3 h =>
    if (h 2 1) ≤ x3 then
      bd (f_X4_orNotFound x1 h) fun r1 h1 =>
      some (r1, h1)
    else
      bd (f_X1_oddnessTogether 1 x3 h) fun r2 h2 =>
      if x1 = (-1) then
        rec x3 r2 (wr (x3 + 1)) h2
      else
        if r2 ≤ x2 then
          rec x1 x2 (wr (x3 + 1)) h2
        else
          rec x3 r2 (wr (x3 + 1)) h2) n
theorem f_X4_oddest_L6_s  (n : Nat) (x1 : Int) (x2 : Int) (x3 : Int) (h : Hp) : f_X4_oddest_L6  (n + 1) x1 x2 x3 h =
    if (h 2 1) ≤ x3 then
      bd (f_X4_orNotFound x1 h) fun r1 h1 =>
      some (r1, h1)
    else
      bd (f_X1_oddnessTogether 1 x3 h) fun r2 h2 =>
      if x1 = (-1) then
        f_X4_oddest_L6  n x3 r2 (wr (x3 + 1)) h2
      else
        if r2 ≤ x2 then
          f_X4_oddest_L6  n x1 x2 (wr (x3 + 1)) h2
        else
          f_X4_oddest_L6  n x3 r2 (wr (x3 + 1)) h2 := rfl
noncomputable def f_X4_oddest  (h : Hp) : Option (Int × Hp) :=
  (f_X4_oddest_L6 
     fu (-1) 0 0 h)
noncomputable def f_X4_play  (h : Hp) : Option (Int × Hp) :=
  bd (f_X4_tryText  h) fun _ h1 =>
  if (h1 0 7) = (-1) then
    bd (f_X4_keepState  h1) fun _ h2 =>
    bd (f_X1_become 1 10 h2) fun _ h3 =>
    bd (f_X4_recorded (h3 0 6) h3) fun r4 h4 =>
    some (r4, h4)
  else
    some ((-1000002), h1)
noncomputable def f_X4_points (x1 : Int) (x2 : Int) (h : Hp) : Option (Int × Hp) :=
  bd (f_X4_isPair x1 x2 h) fun r1 h1 =>
  if ¬ r1 = 0 then
    bd (f_X0_weighAll 1 h1) fun _ h2 =>
    bd (f_X0_worthOf x1 x2 h2) fun r3 h3 =>
    some ((wr (1000 + r3)), h3)
  else
    some ((-1000001), h1)
noncomputable def f_X4_set (x1 : Int) (x2 : Int) (h : Hp) : Option (Int × Hp) :=
  bd (f_X4_keepState  h) fun _ h1 =>
  bd (f_X1_changeSetting 1 x1 x2 h1) fun r2 h2 =>
  bd (f_X4_recorded r2 h2) fun r3 h3 =>
  some (r3, h3)
noncomputable def f_X4_tell (x1 : Int) (x2 : Int) (x3 : Int) (h : Hp) : Option (Int × Hp) :=
  bd (f_X4_keepState  h) fun _ h1 =>
  bd (f_X1_noteDetail 1 x1 x2 x3 h1) fun r2 h2 =>
  bd (f_X4_recorded r2 h2) fun r3 h3 =>
  some (r3, h3)
noncomputable def f_X4_type (x1 : Int) (h : Hp) : Option (Int × Hp) :=
  if x1 < 32 then
    some ((-1000001), h)
  else
    if x1 ≤ 126 then
      if isC x1 then
        bd (f_X3_append x1 h) fun r1 h1 =>
        if r1 = 0 then
          some ((-1000003), h1)
        else
          some ((h1 28 1), h1)
      else none
    else
      some ((-1000001), h)
noncomputable def f_X4_umbrella (x1 : Int) (x2 : Int) (h : Hp) : Option (Int × Hp) :=
  bd (f_X2_has 2 x1 h) fun r1 h1 =>
  if r1 = 0 then
    some ((-1000001), h1)
  else
    if x2 < 0 then
      some ((-1000001), h1)
    else
      if x2 ≤ 8 then
        if 4 < x2 then
          if ¬ x2 = 8 then
            bd (f_X0_matchAll 1 h1) fun _ h2 =>
            if ¬ x2 = 7 then
              bd (f_X0_claimMatched x1 h2) fun r3 h3 =>
              if ¬ r3 = (-1) then
                if ¬ x2 = 5 then
                  bd (f_X0_worthOf x1 r3 h3) fun r4 h4 =>
                  some (r4, h4)
                else
                  some (r3, h3)
              else
                some ((-1000004), h3)
            else
              bd (f_X0_claimsSuiting x1 h2) fun r5 h5 =>
              some (r5, h5)
          else
            bd (f_X1_oddnessTogether 1 x1 h1) fun r6 h6 =>
            some (r6, h6)
        else
          bd (f_X2_cell 2 x1 x2 h1) fun r7 h7 =>
          some (r7, h7)
      else
        some ((-1000001), h1)
noncomputable def f_X4_undo  (h : Hp) : Option (Int × Hp) :=
  if (h 0 4) ≤ 0 then
    some ((-1000002), h)
  else
    if (h 0 4) ≤ ((5 : Nat) : Int) then
      lt (hup h 0 4 (wr ((h 0 4) - 1))) fun h1 =>
      if okA h1 27 (h1 0 4) 5 then
        bd (f_X1_become 1 (Int.toNat (h1 27 (Int.toNat (h1 0 4)))) h1) fun _ h3 =>
        some ((h3 0 4), h3)
      else none
    else
      some ((-1000002), h)
noncomputable def f_X4_weeks (x1 : Int) (h : Hp) : Option (Int × Hp) :=
  bd (f_X4_keepState  h) fun _ h1 =>
  bd (f_X1_passWeeks 1 x1 999 h1) fun r2 h2 =>
  bd (f_X4_recorded r2 h2) fun r3 h3 =>
  some (r3, h3)
noncomputable def f_X4_why (x1 : Int) (x2 : Int) (h : Hp) : Option (Int × Hp) :=
  bd (f_X4_isPair x1 x2 h) fun r1 h1 =>
  if ¬ r1 = 0 then
    bd (f_X0_matchAll 1 h1) fun _ h2 =>
    bd (f_X0_reasonAgainst x1 x2 1 h2) fun r3 h3 =>
    some (r3, h3)
  else
    some ((-1000001), h1)
noncomputable def f_X5_in (x0 : Int) (x1 : Int) (x2 : Int) (h : Hp) : Option (Int × Hp) :=
  if x0 < x1 then
    some (0, h)
  else
    if x2 < x0 then
      some (0, h)
    else
      some (1, h)
noncomputable def f_X5_areValues (x0 : Int) (x1 : Int) (x2 : Int) (x3 : Int) (x4 : Int) (h : Hp) : Option (Int × Hp) :=
  bd (f_X5_in x1 x0 9 h) fun r1 h1 =>
  if r1 = 0 then
    some (0, h1)
  else
    bd (f_X5_in x2 x0 9 h1) fun r2 h2 =>
    if r2 = 0 then
      some (0, h2)
    else
      bd (f_X5_in x3 x0 9 h2) fun r3 h3 =>
      if r3 = 0 then
        some (0, h3)
      else
        bd (f_X5_in x4 x0 9 h3) fun r4 h4 =>
        if r4 = 0 then
          some (0, h4)
        else
          some (1, h4)
noncomputable def f_X5_asks_L13 (x1 : Int) (x2 : Int) (x4 : Int) (c59 : Int → Hp → Option (Int × Hp)) (n : Nat) : Int → Int → Hp → Option (Int × Hp) :=
  Nat.rec (motive := fun _ => Int → Int → Hp → Option (Int × Hp)) (fun _ _ _ => none) (fun _ rec x5 x6 h =>
    if 12 ≤ x6 then
      c59 x5 h
    else
      if inb (wr ((wr (12 * x6)) + x1)) 144 then
        if inb (wr ((wr (12 * x4)) + x1)) 144 then
          lv (wr ((h 81 (Int.toNat (wr ((wr (12 * x6)) + x1)))) - (h 81 (Int.toNat (wr ((wr (12 * x4)) + x1)))))) fun y1 =>
          if inb (wr ((wr (12 * x6)) + x1)) 144 then
            if (h 81 (Int.toNat (wr ((wr (12 * x6)) + x1)))) = (-1) then
              lv (wr (x5 + 0)) fun y2 =>
              rec y2 (wr (x6 + 1)) h
            else
              if 0 < y1 then
                lv (wr (x5 + 1)) fun y3 =>
                rec y3 (wr (x6 + 1)) h
              else
                if ¬ y1 = 0 then
                  lv (wr (x5 + 0)) fun y4 =>
                  rec y4 (wr (x6 + 1)) h
                else
                  if x4 ≤ x6 then
                    lv (wr (x5 + 0)) fun y5 =>
                    rec y5 (wr (x6 + 1)) h
                  else
                    lv (wr (x5 + 1)) fun y6 =>
                    rec y6 (wr (x6 + 1)) h
          else none
        else none
      else none) n
theorem f_X5_asks_L13_s (x1 : Int) (x2 : Int) (x4 : Int) (c59 : Int → Hp → Option (Int × Hp)) (n : Nat) (x5 : Int) (x6 : Int) (h : Hp) : f_X5_asks_L13 x1 x2 x4 c59 (n + 1) x5 x6 h =
    if 12 ≤ x6 then
      c59 x5 h
    else
      if inb (wr ((wr (12 * x6)) + x1)) 144 then
        if inb (wr ((wr (12 * x4)) + x1)) 144 then
          lv (wr ((h 81 (Int.toNat (wr ((wr (12 * x6)) + x1)))) - (h 81 (Int.toNat (wr ((wr (12 * x4)) + x1)))))) fun y1 =>
          if inb (wr ((wr (12 * x6)) + x1)) 144 then
            if (h 81 (Int.toNat (wr ((wr (12 * x6)) + x1)))) = (-1) then
              lv (wr (x5 + 0)) fun y2 =>
              f_X5_asks_L13 x1 x2 x4 c59 n y2 (wr (x6 + 1)) h
            else
              if 0 < y1 then
                lv (wr (x5 + 1)) fun y3 =>
                f_X5_asks_L13 x1 x2 x4 c59 n y3 (wr (x6 + 1)) h
              else
                if ¬ y1 = 0 then
                  lv (wr (x5 + 0)) fun y4 =>
                  f_X5_asks_L13 x1 x2 x4 c59 n y4 (wr (x6 + 1)) h
                else
                  if x4 ≤ x6 then
                    lv (wr (x5 + 0)) fun y5 =>
                    f_X5_asks_L13 x1 x2 x4 c59 n y5 (wr (x6 + 1)) h
                  else
                    lv (wr (x5 + 1)) fun y6 =>
                    f_X5_asks_L13 x1 x2 x4 c59 n y6 (wr (x6 + 1)) h
          else none
        else none
      else none := rfl
noncomputable def f_X5_asks_L6 (x1 : Int) (c81 : Int → Hp → Option (Int × Hp)) (n : Nat) : Int → Int → Hp → Option (Int × Hp) :=
  Nat.rec (motive := fun _ => Int → Int → Hp → Option (Int × Hp)) (fun _ _ _ => none) (fun _ rec x2 x4 h =>
    if 12 ≤ x4 then
      c81 x2 h
    else
      (f_X5_asks_L13 x1 x2 x4
        (fun y7 h8 =>
          if inb (wr ((wr (12 * x4)) + x1)) 144 then
            if (h8 81 (Int.toNat (wr ((wr (12 * x4)) + x1)))) = (-1) then
              rec x2 (wr (x4 + 1)) h8
            else
              if inb x1 12 then
                if ¬ y7 = (h8 82 (Int.toNat x1)) then
                  rec x2 (wr (x4 + 1)) h8
                else
                  rec x4 (wr (x4 + 1)) h8
              else none
          else none)
         fu 0 0 h)) n
theorem f_X5_asks_L6_s (x1 : Int) (c81 : Int → Hp → Option (Int × Hp)) (n : Nat) (x2 : Int) (x4 : Int) (h : Hp) : f_X5_asks_L6 x1 c81 (n + 1) x2 x4 h =
    if 12 ≤ x4 then
      c81 x2 h
    else
      (f_X5_asks_L13 x1 x2 x4
        (fun y7 h8 =>
          if inb (wr ((wr (12 * x4)) + x1)) 144 then
            if (h8 81 (Int.toNat (wr ((wr (12 * x4)) + x1)))) = (-1) then
              f_X5_asks_L6 x1 c81 n x2 (wr (x4 + 1)) h8
            else
              if inb x1 12 then
                if ¬ y7 = (h8 82 (Int.toNat x1)) then
                  f_X5_asks_L6 x1 c81 n x2 (wr (x4 + 1)) h8
                else
                  f_X5_asks_L6 x1 c81 n x4 (wr (x4 + 1)) h8
              else none
          else none)
         fu 0 0 h) := rfl
noncomputable def f_X5_asks (x1 : Int) (h : Hp) : Option (Int × Hp) :=
  (f_X5_asks_L6 x1
    (fun y9 h10 =>
      if inb x1 12 then
        if inb x1 12 then
          lt (hup h10 82 (Int.toNat x1) (wr ((h10 82 (Int.toNat x1)) + 1))) fun h11 =>
          some (y9, h11)
        else none
      else none)
     fu (-1) 0 h)
noncomputable def f_X5_asksOn_J34 (c4 : Int → Hp → Option (Int × Hp)) (x1 : Int) (x2 : Int) (x3 : Int) (x4 : Int) (s0 : Int) (h : Hp) : Option (Int × Hp) :=
  if x3 = (-1) then
    if inb x2 12 then
      lt (hup h 79 (Int.toNat x2) x1) fun h4 =>
      some (x3, h4)
    else none
  else
    if s0 < x4 then
      if inb x2 12 then
        lt (hup h 79 (Int.toNat x2) x1) fun h5 =>
        some (x3, h5)
      else none
    else
      if ¬ x4 = s0 then
        bd (f_X5_asks x1 h) fun r6 h6 =>
        c4 r6 h6
      else
        if x3 ≤ x1 then
          bd (f_X5_asks x1 h) fun r7 h7 =>
          c4 r7 h7
        else
          if inb x2 12 then
            lt (hup h 79 (Int.toNat x2) x1) fun h8 =>
            some (x3, h8)
          else none
noncomputable def f_X5_asksOn_L4 (x1 : Int) (n : Nat) : Int → Hp → Option (Int × Hp) :=
  Nat.rec (motive := fun _ => Int → Hp → Option (Int × Hp)) (fun _ _ => none) (fun _ rec x2 h =>
    if x2 = (-1) then
      some ((-1), h)
    else
      if inb x2 12 then
        lv (h 79 (Int.toNat x2)) fun y2 =>
        if inb (wr ((wr (12 * x2)) + x1)) 144 then
          lv (h 81 (Int.toNat (wr ((wr (12 * x2)) + x1)))) fun y3 =>
          if ¬ y2 = (-1) then
            if inb (wr ((wr (12 * x2)) + y2)) 144 then
              f_X5_asksOn_J34 rec x1 x2 y2 y3 (h 81 (Int.toNat (wr ((wr (12 * x2)) + y2)))) h
            else none
          else
            f_X5_asksOn_J34 rec x1 x2 y2 y3 (-1) h
        else none
      else none) n
theorem f_X5_asksOn_L4_s (x1 : Int) (n : Nat) (x2 : Int) (h : Hp) : f_X5_asksOn_L4 x1 (n + 1) x2 h =
    if x2 = (-1) then
      some ((-1), h)
    else
      if inb x2 12 then
        lv (h 79 (Int.toNat x2)) fun y2 =>
        if inb (wr ((wr (12 * x2)) + x1)) 144 then
          lv (h 81 (Int.toNat (wr ((wr (12 * x2)) + x1)))) fun y3 =>
          if ¬ y2 = (-1) then
            if inb (wr ((wr (12 * x2)) + y2)) 144 then
              f_X5_asksOn_J34 (f_X5_asksOn_L4 x1 n) x1 x2 y2 y3 (h 81 (Int.toNat (wr ((wr (12 * x2)) + y2)))) h
            else none
          else
            f_X5_asksOn_J34 (f_X5_asksOn_L4 x1 n) x1 x2 y2 y3 (-1) h
        else none
      else none := rfl
noncomputable def f_X5_asksOn (x1 : Int) (h : Hp) : Option (Int × Hp) :=
  bd (f_X5_asks x1 h) fun r1 h1 =>
  (f_X5_asksOn_L4 x1
     fu r1 h1)
noncomputable def f_X5_book (x1 : Int) (x2 : Int) (h : Hp) : Option (Int × Hp) :=
  if x1 < 0 then
    some ((-1000001), h)
  else
    bd (f_X5_in x2 0 3 h) fun r1 h1 =>
    if ¬ r1 = 0 then
      if inb 17 1330 then
        if (h1 77 (Int.toNat 17)) ≤ x1 then
          some ((-1000004), h1)
        else
          if inb 17 1330 then
            if inb (wr ((wr (150 + (wr (4 * (wr ((wr ((h1 77 (Int.toNat 17)) - 1)) - x1)))))) + x2)) 1330 then
              some ((h1 77 (Int.toNat (wr ((wr (150 + (wr (4 * (wr ((wr ((h1 77 (Int.toNat 17)) - 1)) - x1)))))) + x2)))), h1)
            else none
          else none
      else none
    else
      some ((-1000001), h1)
noncomputable def f_X5_claimAt (x0 : Int) (x1 : Int) (h : Hp) : Option (Int × Hp) :=
  some ((wr ((wr (x0 + 78)) + (wr (6 * x1)))), h)
noncomputable def f_X5_umbrellaAt (x0 : Int) (x1 : Int) (h : Hp) : Option (Int × Hp) :=
  some ((wr ((wr (x0 + 18)) + (wr (5 * x1)))), h)
noncomputable def f_X5_many_L4 (x1 : Int) (x2 : Int) (x3 : Int) (n : Nat) : Int → Int → Hp → Option (Int × Hp) :=
  Nat.rec (motive := fun _ => Int → Int → Hp → Option (Int × Hp)) (fun _ _ _ => none) (fun _ rec x4 x5 h =>
    if inb (wr (x1 + 15)) 1330 then
      if (h 77 (Int.toNat (wr (x1 + 15)))) ≤ x5 then
        some (x4, h)
      else
        bd (f_X5_umbrellaAt x1 x5 h) fun r1 h1 =>
        if inb (wr (r1 + x2)) 1330 then
          if ¬ (h1 77 (Int.toNat (wr (r1 + x2)))) = x3 then
            lv (wr (x4 + 0)) fun y2 =>
            rec y2 (wr (x5 + 1)) h1
          else
            lv (wr (x4 + 1)) fun y3 =>
            rec y3 (wr (x5 + 1)) h1
        else none
    else none) n
theorem f_X5_many_L4_s (x1 : Int) (x2 : Int) (x3 : Int) (n : Nat) (x4 : Int) (x5 : Int) (h : Hp) : f_X5_many_L4 x1 x2 x3 (n + 1) x4 x5 h =
    if inb (wr (x1 + 15)) 1330 then
      if (h 77 (Int.toNat (wr (x1 + 15)))) ≤ x5 then
        some (x4, h)
      else
        bd (f_X5_umbrellaAt x1 x5 h) fun r1 h1 =>
        if inb (wr (r1 + x2)) 1330 then
          if ¬ (h1 77 (Int.toNat (wr (r1 + x2)))) = x3 then
            lv (wr (x4 + 0)) fun y2 =>
            f_X5_many_L4 x1 x2 x3 n y2 (wr (x5 + 1)) h1
          else
            lv (wr (x4 + 1)) fun y3 =>
            f_X5_many_L4 x1 x2 x3 n y3 (wr (x5 + 1)) h1
        else none
    else none := rfl
noncomputable def f_X5_many (x1 : Int) (x2 : Int) (x3 : Int) (h : Hp) : Option (Int × Hp) :=
  (f_X5_many_L4 x1 x2 x3
     fu 0 0 h)
noncomputable def f_X5_misses_L4 (x1 : Int) (x2 : Int) (x3 : Int) (n : Nat) : Int → Int → Hp → Option (Int × Hp) :=
  Nat.rec (motive := fun _ => Int → Int → Hp → Option (Int × Hp)) (fun _ _ _ => none) (fun _ rec x4 x5 h =>
    if 4 ≤ x5 then
      some (x4, h)
    else
      bd (f_X5_claimAt x1 x3 h) fun r1 h1 =>
      if inb (wr (r1 + x5)) 1330 then
        lv (h1 77 (Int.toNat (wr (r1 + x5)))) fun y2 =>
        if y2 = (-1) then
          lv (wr (x4 + 0)) fun y3 =>
          rec y3 (wr (x5 + 1)) h1
        else
          bd (f_X5_umbrellaAt x1 x2 h1) fun r4 h4 =>
          if inb (wr (r4 + x5)) 1330 then
            if y2 = (h4 77 (Int.toNat (wr (r4 + x5)))) then
              lv (wr (x4 + 0)) fun y5 =>
              rec y5 (wr (x5 + 1)) h4
            else
              lv (wr (x4 + 1)) fun y6 =>
              rec y6 (wr (x5 + 1)) h4
          else none
      else none) n
theorem f_X5_misses_L4_s (x1 : Int) (x2 : Int) (x3 : Int) (n : Nat) (x4 : Int) (x5 : Int) (h : Hp) : f_X5_misses_L4 x1 x2 x3 (n + 1) x4 x5 h =
    if 4 ≤ x5 then
      some (x4, h)
    else
      bd (f_X5_claimAt x1 x3 h) fun r1 h1 =>
      if inb (wr (r1 + x5)) 1330 then
        lv (h1 77 (Int.toNat (wr (r1 + x5)))) fun y2 =>
        if y2 = (-1) then
          lv (wr (x4 + 0)) fun y3 =>
          f_X5_misses_L4 x1 x2 x3 n y3 (wr (x5 + 1)) h1
        else
          bd (f_X5_umbrellaAt x1 x2 h1) fun r4 h4 =>
          if inb (wr (r4 + x5)) 1330 then
            if y2 = (h4 77 (Int.toNat (wr (r4 + x5)))) then
              lv (wr (x4 + 0)) fun y5 =>
              f_X5_misses_L4 x1 x2 x3 n y5 (wr (x5 + 1)) h4
            else
              lv (wr (x4 + 1)) fun y6 =>
              f_X5_misses_L4 x1 x2 x3 n y6 (wr (x5 + 1)) h4
          else none
      else none := rfl
noncomputable def f_X5_misses (x1 : Int) (x2 : Int) (x3 : Int) (h : Hp) : Option (Int × Hp) :=
  (f_X5_misses_L4 x1 x2 x3
     fu 0 0 h)
noncomputable def f_X5_pointsOf_L32 (x1 : Int) (x2 : Int) (x3 : Int) (n : Nat) : Int → Int → Hp → Option (Int × Hp) :=
  Nat.rec (motive := fun _ => Int → Int → Hp → Option (Int × Hp)) (fun _ _ _ => none) (fun _ rec x4 x5 h =>
    if 4 ≤ x5 then
      some (x4, h)
    else
      bd (f_X5_umbrellaAt x1 x2 h) fun r4 h4 =>
      if inb (wr (r4 + x5)) 1330 then
        lv (h4 77 (Int.toNat (wr (r4 + x5)))) fun y5 =>
        bd (f_X5_claimAt x1 x3 h4) fun r6 h6 =>
        if inb (wr (r6 + x5)) 1330 then
          if ¬ (h6 77 (Int.toNat (wr (r6 + x5)))) = y5 then
            lv (wr (x4 + 0)) fun y7 =>
            rec y7 (wr (x5 + 1)) h6
          else
            bd (f_X5_many x1 x5 y5 h6) fun r8 h8 =>
            lv (wr (x4 + (wr (13 - r8)))) fun y9 =>
            rec y9 (wr (x5 + 1)) h8
        else none
      else none) n
theorem f_X5_pointsOf_L32_s (x1 : Int) (x2 : Int) (x3 : Int) (n : Nat) (x4 : Int) (x5 : Int) (h : Hp) : f_X5_pointsOf_L32 x1 x2 x3 (n + 1) x4 x5 h =
    if 4 ≤ x5 then
      some (x4, h)
    else
      bd (f_X5_umbrellaAt x1 x2 h) fun r4 h4 =>
      if inb (wr (r4 + x5)) 1330 then
        lv (h4 77 (Int.toNat (wr (r4 + x5)))) fun y5 =>
        bd (f_X5_claimAt x1 x3 h4) fun r6 h6 =>
        if inb (wr (r6 + x5)) 1330 then
          if ¬ (h6 77 (Int.toNat (wr (r6 + x5)))) = y5 then
            lv (wr (x4 + 0)) fun y7 =>
            f_X5_pointsOf_L32 x1 x2 x3 n y7 (wr (x5 + 1)) h6
          else
            bd (f_X5_many x1 x5 y5 h6) fun r8 h8 =>
            lv (wr (x4 + (wr (13 - r8)))) fun y9 =>
            f_X5_pointsOf_L32 x1 x2 x3 n y9 (wr (x5 + 1)) h8
        else none
      else none := rfl
noncomputable def f_X5_pointsOf (x1 : Int) (x2 : Int) (x3 : Int) (h : Hp) : Option (Int × Hp) :=
  if inb (wr (x1 + 2)) 1330 then
    bd (f_X5_misses x1 x2 x3 h) fun r1 h1 =>
    if inb (wr (x1 + 3)) 1330 then
      bd (f_X5_claimAt x1 x3 h1) fun r2 h2 =>
      if inb (wr (r2 + 5)) 1330 then
        lv (wr ((wr ((wr (-(h 77 (Int.toNat (wr (x1 + 2)))))) * r1)) - (wr ((h1 77 (Int.toNat (wr (x1 + 3)))) * (h2 77 (Int.toNat (wr (r2 + 5)))))))) fun y3 =>
        (f_X5_pointsOf_L32 x1 x2 x3
           fu y3 0 h2)
      else none
    else none
  else none
noncomputable def f_X5_suits (x1 : Int) (x2 : Int) (x3 : Int) (h : Hp) : Option (Int × Hp) :=
  bd (f_X5_misses x1 x2 x3 h) fun r1 h1 =>
  if inb (wr (x1 + 1)) 1330 then
    if (h1 77 (Int.toNat (wr (x1 + 1)))) < r1 then
      some (0, h1)
    else
      bd (f_X5_pointsOf x1 x2 x3 h1) fun r2 h2 =>
      if inb (wr (x1 + 4)) 1330 then
        if r2 < (h2 77 (Int.toNat (wr (x1 + 4)))) then
          some (0, h2)
        else
          some (1, h2)
      else none
  else none
noncomputable def f_X5_clears_L2 (x1 : Int) (c22 : Hp → Option (Int × Hp)) (n : Nat) : Int → Hp → Option (Int × Hp) :=
  Nat.rec (motive := fun _ => Int → Hp → Option (Int × Hp)) (fun _ _ => none) (fun _ rec x2 h =>
    if 12 ≤ x2 then
      c22 h
    else
      if inb x2 12 then
        lt (hup h 79 (Int.toNat x2) (-1)) fun h1 =>
        if inb x2 12 then
          lt (hup h1 80 (Int.toNat x2) (-1)) fun h2 =>
          if inb x2 12 then
            lt (hup h2 82 (Int.toNat x2) 0) fun h3 =>
            rec (wr (x2 + 1)) h3
          else none
        else none
      else none) n
theorem f_X5_clears_L2_s (x1 : Int) (c22 : Hp → Option (Int × Hp)) (n : Nat) (x2 : Int) (h : Hp) : f_X5_clears_L2 x1 c22 (n + 1) x2 h =
    if 12 ≤ x2 then
      c22 h
    else
      if inb x2 12 then
        lt (hup h 79 (Int.toNat x2) (-1)) fun h1 =>
        if inb x2 12 then
          lt (hup h1 80 (Int.toNat x2) (-1)) fun h2 =>
          if inb x2 12 then
            lt (hup h2 82 (Int.toNat x2) 0) fun h3 =>
            f_X5_clears_L2 x1 c22 n (wr (x2 + 1)) h3
          else none
        else none
      else none := rfl
noncomputable def f_X5_clears_J50 (c24 : Int → Hp → Option (Int × Hp)) (x1 : Int) (x2 : Int) (s0 : Int) (h : Hp) : Option (Int × Hp) :=
  if s0 = 0 then
    if inb x2 144 then
      lt (hup h 81 (Int.toNat x2) (-1)) fun h5 =>
      c24 (wr (x2 + 1)) h5
    else none
  else
    bd (f_X5_suits x1 (wr (Int.tdiv x2 12)) (wr (x2 - Int.tdiv x2 12 * 12)) h) fun r6 h6 =>
    if r6 = 0 then
      if inb x2 144 then
        lt (hup h6 81 (Int.toNat x2) (-1)) fun h7 =>
        c24 (wr (x2 + 1)) h7
      else none
    else
      bd (f_X5_pointsOf x1 (wr (Int.tdiv x2 12)) (wr (x2 - Int.tdiv x2 12 * 12)) h6) fun r8 h8 =>
      if inb x2 144 then
        lt (hup h8 81 (Int.toNat x2) r8) fun h9 =>
        c24 (wr (x2 + 1)) h9
      else none
noncomputable def f_X5_clears_J49 (c24 : Int → Hp → Option (Int × Hp)) (x1 : Int) (x2 : Int) (h : Hp) : Option (Int × Hp) :=
  f_X5_clears_J50 c24 x1 x2 0 h
noncomputable def f_X5_clears_L24 (x1 : Int) (n : Nat) : Int → Hp → Option (Int × Hp) :=
  Nat.rec (motive := fun _ => Int → Hp → Option (Int × Hp)) (fun _ _ => none) (fun _ rec x2 h =>
    if 144 ≤ x2 then
      some (0, h)
    else
      if inb (wr (x1 + 15)) 1330 then
        if (h 77 (Int.toNat (wr (x1 + 15)))) ≤ (wr (Int.tdiv x2 12)) then
          f_X5_clears_J49 rec x1 x2 h
        else
          if inb (wr (x1 + 16)) 1330 then
            if (h 77 (Int.toNat (wr (x1 + 16)))) ≤ (wr (x2 - Int.tdiv x2 12 * 12)) then
              f_X5_clears_J49 rec x1 x2 h
            else
              f_X5_clears_J50 rec x1 x2 1 h
          else none
      else none) n
theorem f_X5_clears_L24_s (x1 : Int) (n : Nat) (x2 : Int) (h : Hp) : f_X5_clears_L24 x1 (n + 1) x2 h =
    if 144 ≤ x2 then
      some (0, h)
    else
      if inb (wr (x1 + 15)) 1330 then
        if (h 77 (Int.toNat (wr (x1 + 15)))) ≤ (wr (Int.tdiv x2 12)) then
          f_X5_clears_J49 (f_X5_clears_L24 x1 n) x1 x2 h
        else
          if inb (wr (x1 + 16)) 1330 then
            if (h 77 (Int.toNat (wr (x1 + 16)))) ≤ (wr (x2 - Int.tdiv x2 12 * 12)) then
              f_X5_clears_J49 (f_X5_clears_L24 x1 n) x1 x2 h
            else
              f_X5_clears_J50 (f_X5_clears_L24 x1 n) x1 x2 1 h
          else none
      else none := rfl
noncomputable def f_X5_clears (x1 : Int) (h : Hp) : Option (Int × Hp) :=
  (f_X5_clears_L2 x1
    (fun h4 =>
      (f_X5_clears_L24 x1
         fu 0 h4))
     fu 0 h)
noncomputable def f_X5_byAsking_L15 (x1 : Int) (x2 : Int) (c23 : Hp → Option (Int × Hp)) (n : Nat) : Int → Hp → Option (Int × Hp) :=
  Nat.rec (motive := fun _ => Int → Hp → Option (Int × Hp)) (fun _ _ => none) (fun _ rec x3 h =>
    if x3 = (-1) then
      c23 h
    else
      bd (f_X5_asksOn x3 h) fun r2 h2 =>
      rec r2 h2) n
theorem f_X5_byAsking_L15_s (x1 : Int) (x2 : Int) (c23 : Hp → Option (Int × Hp)) (n : Nat) (x3 : Int) (h : Hp) : f_X5_byAsking_L15 x1 x2 c23 (n + 1) x3 h =
    if x3 = (-1) then
      c23 h
    else
      bd (f_X5_asksOn x3 h) fun r2 h2 =>
      f_X5_byAsking_L15 x1 x2 c23 n r2 h2 := rfl
noncomputable def f_X5_byAsking_L5 (x1 : Int) (c25 : Hp → Option (Int × Hp)) (n : Nat) : Int → Hp → Option (Int × Hp) :=
  Nat.rec (motive := fun _ => Int → Hp → Option (Int × Hp)) (fun _ _ => none) (fun _ rec x2 h =>
    if inb (wr (x1 + 16)) 1330 then
      if (h 77 (Int.toNat (wr (x1 + 16)))) ≤ x2 then
        c25 h
      else
        (f_X5_byAsking_L15 x1 x2
          (fun h3 =>
            rec (wr (x2 + 1)) h3)
           fu x2 h)
    else none) n
theorem f_X5_byAsking_L5_s (x1 : Int) (c25 : Hp → Option (Int × Hp)) (n : Nat) (x2 : Int) (h : Hp) : f_X5_byAsking_L5 x1 c25 (n + 1) x2 h =
    if inb (wr (x1 + 16)) 1330 then
      if (h 77 (Int.toNat (wr (x1 + 16)))) ≤ x2 then
        c25 h
      else
        (f_X5_byAsking_L15 x1 x2
          (fun h3 =>
            f_X5_byAsking_L5 x1 c25 n (wr (x2 + 1)) h3)
           fu x2 h)
    else none := rfl
noncomputable def f_X5_byAsking_L29  (n : Nat) : Int → Int → Hp → Option (Int × Hp) :=
  Nat.rec (motive := fun _ => Int → Int → Hp → Option (Int × Hp)) (fun _ _ _ => none) (fun _ rec x2 x3 h =>
    if 12 ≤ x3 then
      some (x2, h)
    else
      if inb x3 12 then
        if ¬ (h 79 (Int.toNat x3)) = (-1) then
          lv (wr (x2 + 1)) fun y5 =>
          rec y5 (wr (x3 + 1)) h
        else
          lv (wr (x2 + 0)) fun y6 =>
          rec y6 (wr (x3 + 1)) h
      else none) n
theorem f_X5_byAsking_L29_s  (n : Nat) (x2 : Int) (x3 : Int) (h : Hp) : f_X5_byAsking_L29  (n + 1) x2 x3 h =
    if 12 ≤ x3 then
      some (x2, h)
    else
      if inb x3 12 then
        if ¬ (h 79 (Int.toNat x3)) = (-1) then
          lv (wr (x2 + 1)) fun y5 =>
          f_X5_byAsking_L29  n y5 (wr (x3 + 1)) h
        else
          lv (wr (x2 + 0)) fun y6 =>
          f_X5_byAsking_L29  n y6 (wr (x3 + 1)) h
      else none := rfl
noncomputable def f_X5_byAsking (x1 : Int) (h : Hp) : Option (Int × Hp) :=
  bd (f_X5_clears x1 h) fun _ h1 =>
  (f_X5_byAsking_L5 x1
    (fun h4 =>
      (f_X5_byAsking_L29 
         fu 0 0 h4))
     fu 0 h1)
noncomputable def f_X5_lays (x1 : Int) (x2 : Int) (x3 : Int) (x4 : Int) (x5 : Int) (h : Hp) : Option (Int × Hp) :=
  if inb x1 1330 then
    lt (hup h 77 (Int.toNat x1) x2) fun h1 =>
    if inb (wr (x1 + 1)) 1330 then
      lt (hup h1 77 (Int.toNat (wr (x1 + 1))) x3) fun h2 =>
      if inb (wr (x1 + 2)) 1330 then
        lt (hup h2 77 (Int.toNat (wr (x1 + 2))) x4) fun h3 =>
        if inb (wr (x1 + 3)) 1330 then
          lt (hup h3 77 (Int.toNat (wr (x1 + 3))) x5) fun h4 =>
          if inb (wr (x1 + 4)) 1330 then
            lt (hup h4 77 (Int.toNat (wr (x1 + 4))) 0) fun h5 =>
            some (0, h5)
          else none
        else none
      else none
    else none
  else none
noncomputable def f_X5_claims (x1 : Int) (x2 : Int) (x3 : Int) (x4 : Int) (x5 : Int) (h : Hp) : Option (Int × Hp) :=
  bd (f_X5_areValues (-1) x2 x3 x4 x5 h) fun r1 h1 =>
  if ¬ r1 = 0 then
    if ¬ (wr ((wr ((wr (x2 + x3)) + x4)) + x5)) = (-4) then
      if inb (wr (x1 + 16)) 1330 then
        if ¬ (h1 77 (Int.toNat (wr (x1 + 16)))) = 12 then
          if inb (wr (x1 + 16)) 1330 then
            bd (f_X5_claimAt x1 (h1 77 (Int.toNat (wr (x1 + 16)))) h1) fun r2 h2 =>
            bd (f_X5_lays r2 x2 x3 x4 x5 h2) fun _ h3 =>
            if inb (wr (x1 + 16)) 1330 then
              bd (f_X5_claimAt x1 (h3 77 (Int.toNat (wr (x1 + 16)))) h3) fun r4 h4 =>
              if inb (wr (r4 + 5)) 1330 then
                lt (hup h4 77 (Int.toNat (wr (r4 + 5))) 0) fun h5 =>
                if inb (wr (x1 + 9)) 1330 then
                  if inb (wr (x1 + 9)) 1330 then
                    lt (hup h5 77 (Int.toNat (wr (x1 + 9))) (wr ((h5 77 (Int.toNat (wr (x1 + 9)))) + 1))) fun h6 =>
                    if inb (wr (x1 + 16)) 1330 then
                      if inb (wr (x1 + 16)) 1330 then
                        lt (hup h6 77 (Int.toNat (wr (x1 + 16))) (wr ((h6 77 (Int.toNat (wr (x1 + 16)))) + 1))) fun h7 =>
                        if inb (wr (x1 + 16)) 1330 then
                          some ((wr ((h7 77 (Int.toNat (wr (x1 + 16)))) - 1)), h7)
                        else none
                      else none
                    else none
                  else none
                else none
              else none
            else none
          else none
        else
          some ((-1000003), h1)
      else none
    else
      some ((-1000002), h1)
  else
    some ((-1000001), h1)
noncomputable def f_X5_copies_L2 (x1 : Int) (x2 : Int) (n : Nat) : Int → Hp → Option (Int × Hp) :=
  Nat.rec (motive := fun _ => Int → Hp → Option (Int × Hp)) (fun _ _ => none) (fun _ rec x3 h =>
    if 190 ≤ x3 then
      some (0, h)
    else
      if inb (wr ((wr (190 * x1)) + x3)) 1330 then
        if inb (wr ((wr (190 * x2)) + x3)) 1330 then
          lt (hup h 77 (Int.toNat (wr ((wr (190 * x2)) + x3))) (h 77 (Int.toNat (wr ((wr (190 * x1)) + x3))))) fun h1 =>
          rec (wr (x3 + 1)) h1
        else none
      else none) n
theorem f_X5_copies_L2_s (x1 : Int) (x2 : Int) (n : Nat) (x3 : Int) (h : Hp) : f_X5_copies_L2 x1 x2 (n + 1) x3 h =
    if 190 ≤ x3 then
      some (0, h)
    else
      if inb (wr ((wr (190 * x1)) + x3)) 1330 then
        if inb (wr ((wr (190 * x2)) + x3)) 1330 then
          lt (hup h 77 (Int.toNat (wr ((wr (190 * x2)) + x3))) (h 77 (Int.toNat (wr ((wr (190 * x1)) + x3))))) fun h1 =>
          f_X5_copies_L2 x1 x2 n (wr (x3 + 1)) h1
        else none
      else none := rfl
noncomputable def f_X5_copies (x1 : Int) (x2 : Int) (h : Hp) : Option (Int × Hp) :=
  (f_X5_copies_L2 x1 x2
     fu 0 h)
noncomputable def f_X5_records_J23  (h : Hp) : Option (Int × Hp) :=
  lt (hup h 76 1 (wr ((h 76 1) + 1))) fun h1 =>
  bd (f_X5_copies 0 (h1 76 1) h1) fun _ h2 =>
  some (0, h2)
noncomputable def f_X5_records_L6 (c17 : Hp → Option (Int × Hp)) (n : Nat) : Int → Hp → Option (Int × Hp) :=
  Nat.rec (motive := fun _ => Int → Hp → Option (Int × Hp)) (fun _ _ => none) (fun _ rec x1 h =>
    if 4 ≤ x1 then
      c17 h
    else
      bd (f_X5_copies (wr (x1 + 1)) x1 h) fun _ h3 =>
      rec (wr (x1 + 1)) h3) n
theorem f_X5_records_L6_s (c17 : Hp → Option (Int × Hp)) (n : Nat) (x1 : Int) (h : Hp) : f_X5_records_L6 c17 (n + 1) x1 h =
    if 4 ≤ x1 then
      c17 h
    else
      bd (f_X5_copies (wr (x1 + 1)) x1 h) fun _ h3 =>
      f_X5_records_L6 c17 n (wr (x1 + 1)) h3 := rfl
noncomputable def f_X5_records  (h : Hp) : Option (Int × Hp) :=
  if ¬ (h 76 1) = 4 then
    f_X5_records_J23  h
  else
    (f_X5_records_L6 
      (fun h4 =>
        lt (hup h4 76 1 (wr ((h4 76 1) - 1))) fun h5 =>
        f_X5_records_J23  h5)
       fu 1 h)
noncomputable def f_X5_done (x1 : Int) (h : Hp) : Option (Int × Hp) :=
  if x1 < 0 then
    some (x1, h)
  else
    bd (f_X5_records  h) fun _ h1 =>
    bd (f_X5_copies 5 0 h1) fun _ h2 =>
    some (x1, h2)
noncomputable def f_X5_tried  (h : Hp) : Option (Int × Hp) :=
  bd (f_X5_copies 0 5 h) fun _ h1 =>
  some (950, h1)
noncomputable def f_X5_claim (x1 : Int) (x2 : Int) (x3 : Int) (x4 : Int) (h : Hp) : Option (Int × Hp) :=
  bd (f_X5_tried  h) fun r1 h1 =>
  bd (f_X5_claims r1 x1 x2 x3 x4 h1) fun r2 h2 =>
  bd (f_X5_done r2 h2) fun r3 h3 =>
  some (r3, h3)
noncomputable def f_X5_claimGoes_L14 (x1 : Int) (n : Nat) : Int → Hp → Option (Int × Hp) :=
  Nat.rec (motive := fun _ => Int → Hp → Option (Int × Hp)) (fun _ _ => none) (fun _ rec x3 h =>
    if inb (wr (x1 + 16)) 1330 then
      bd (f_X5_claimAt x1 (h 77 (Int.toNat (wr (x1 + 16)))) h) fun r3 h3 =>
      if r3 ≤ x3 then
        some (0, h3)
      else
        if inb (wr (x3 + 6)) 1330 then
          if inb x3 1330 then
            lt (hup h3 77 (Int.toNat x3) (h3 77 (Int.toNat (wr (x3 + 6))))) fun h4 =>
            rec (wr (x3 + 1)) h4
          else none
        else none
    else none) n
theorem f_X5_claimGoes_L14_s (x1 : Int) (n : Nat) (x3 : Int) (h : Hp) : f_X5_claimGoes_L14 x1 (n + 1) x3 h =
    if inb (wr (x1 + 16)) 1330 then
      bd (f_X5_claimAt x1 (h 77 (Int.toNat (wr (x1 + 16)))) h) fun r3 h3 =>
      if r3 ≤ x3 then
        some (0, h3)
      else
        if inb (wr (x3 + 6)) 1330 then
          if inb x3 1330 then
            lt (hup h3 77 (Int.toNat x3) (h3 77 (Int.toNat (wr (x3 + 6))))) fun h4 =>
            f_X5_claimGoes_L14 x1 n (wr (x3 + 1)) h4
          else none
        else none
    else none := rfl
noncomputable def f_X5_claimGoes (x1 : Int) (x2 : Int) (h : Hp) : Option (Int × Hp) :=
  if inb (wr (x1 + 16)) 1330 then
    if inb (wr (x1 + 16)) 1330 then
      lt (hup h 77 (Int.toNat (wr (x1 + 16))) (wr ((h 77 (Int.toNat (wr (x1 + 16)))) - 1))) fun h1 =>
      bd (f_X5_claimAt x1 x2 h1) fun r2 h2 =>
      (f_X5_claimGoes_L14 x1
         fu r2 h2)
    else none
  else none
noncomputable def f_X5_isClaim (x1 : Int) (x2 : Int) (h : Hp) : Option (Int × Hp) :=
  if inb (wr (x1 + 16)) 1330 then
    bd (f_X5_in x2 0 (wr ((h 77 (Int.toNat (wr (x1 + 16)))) - 1)) h) fun r1 h1 =>
    if isB r1 then some (r1, h1) else none
  else none
noncomputable def f_X5_matches_J41 (c13 : Int → Int → Hp → Option (Int × Hp)) (x2 : Int) (x4 : Int) (x5 : Int) (s0 : Int) (h : Hp) : Option (Int × Hp) :=
  if s0 = 0 then
    c13 x4 (wr (x5 + 1)) h
  else
    if x4 = (-1) then
      c13 x5 (wr (x5 + 1)) h
    else
      if inb x5 144 then
        if inb x4 144 then
          if (h 81 (Int.toNat x5)) ≤ (h 81 (Int.toNat x4)) then
            c13 x4 (wr (x5 + 1)) h
          else
            c13 x5 (wr (x5 + 1)) h
        else none
      else none
noncomputable def f_X5_matches_J40 (c13 : Int → Int → Hp → Option (Int × Hp)) (x2 : Int) (x4 : Int) (x5 : Int) (h : Hp) : Option (Int × Hp) :=
  f_X5_matches_J41 c13 x2 x4 x5 0 h
noncomputable def f_X5_matches_L13 (x2 : Int) (c62 : Int → Hp → Option (Int × Hp)) (n : Nat) : Int → Int → Hp → Option (Int × Hp) :=
  Nat.rec (motive := fun _ => Int → Int → Hp → Option (Int × Hp)) (fun _ _ _ => none) (fun _ rec x4 x5 h =>
    if 144 ≤ x5 then
      c62 x4 h
    else
      if inb x5 144 then
        if (h 81 (Int.toNat x5)) = (-1) then
          f_X5_matches_J40 rec x2 x4 x5 h
        else
          if inb (wr (Int.tdiv x5 12)) 12 then
            if ¬ (h 79 (Int.toNat (wr (Int.tdiv x5 12)))) = (-1) then
              f_X5_matches_J40 rec x2 x4 x5 h
            else
              if inb (wr (x5 - Int.tdiv x5 12 * 12)) 12 then
                if ¬ (h 80 (Int.toNat (wr (x5 - Int.tdiv x5 12 * 12)))) = (-1) then
                  f_X5_matches_J40 rec x2 x4 x5 h
                else
                  f_X5_matches_J41 rec x2 x4 x5 1 h
              else none
          else none
      else none) n
theorem f_X5_matches_L13_s (x2 : Int) (c62 : Int → Hp → Option (Int × Hp)) (n : Nat) (x4 : Int) (x5 : Int) (h : Hp) : f_X5_matches_L13 x2 c62 (n + 1) x4 x5 h =
    if 144 ≤ x5 then
      c62 x4 h
    else
      if inb x5 144 then
        if (h 81 (Int.toNat x5)) = (-1) then
          f_X5_matches_J40 (f_X5_matches_L13 x2 c62 n) x2 x4 x5 h
        else
          if inb (wr (Int.tdiv x5 12)) 12 then
            if ¬ (h 79 (Int.toNat (wr (Int.tdiv x5 12)))) = (-1) then
              f_X5_matches_J40 (f_X5_matches_L13 x2 c62 n) x2 x4 x5 h
            else
              if inb (wr (x5 - Int.tdiv x5 12 * 12)) 12 then
                if ¬ (h 80 (Int.toNat (wr (x5 - Int.tdiv x5 12 * 12)))) = (-1) then
                  f_X5_matches_J40 (f_X5_matches_L13 x2 c62 n) x2 x4 x5 h
                else
                  f_X5_matches_J41 (f_X5_matches_L13 x2 c62 n) x2 x4 x5 1 h
              else none
          else none
      else none := rfl
noncomputable def f_X5_matches_J68 (c7 : Int → Int → Hp → Option (Int × Hp)) (x2 : Int) (x4 : Int) (s0 : Int) (h : Hp) : Option (Int × Hp) :=
  if s0 = 0 then
    c7 x2 s0 h
  else
    if inb (wr (Int.tdiv x4 12)) 12 then
      lt (hup h 79 (Int.toNat (wr (Int.tdiv x4 12))) (wr (x4 - Int.tdiv x4 12 * 12))) fun h4 =>
      if inb (wr (x4 - Int.tdiv x4 12 * 12)) 12 then
        lt (hup h4 80 (Int.toNat (wr (x4 - Int.tdiv x4 12 * 12))) (wr (Int.tdiv x4 12))) fun h5 =>
        c7 (wr (x2 + 1)) s0 h5
      else none
    else none
noncomputable def f_X5_matches_L7  (n : Nat) : Int → Int → Hp → Option (Int × Hp) :=
  Nat.rec (motive := fun _ => Int → Int → Hp → Option (Int × Hp)) (fun _ _ _ => none) (fun _ rec x2 x3 h =>
    if x3 = 0 then
      some (x2, h)
    else
      (f_X5_matches_L13 x2
        (fun y2 h3 =>
          if y2 = (-1) then
            f_X5_matches_J68 rec x2 y2 0 h3
          else
            f_X5_matches_J68 rec x2 y2 1 h3)
         fu (-1) 0 h)) n
theorem f_X5_matches_L7_s  (n : Nat) (x2 : Int) (x3 : Int) (h : Hp) : f_X5_matches_L7  (n + 1) x2 x3 h =
    if x3 = 0 then
      some (x2, h)
    else
      (f_X5_matches_L13 x2
        (fun y2 h3 =>
          if y2 = (-1) then
            f_X5_matches_J68 (f_X5_matches_L7  n) x2 y2 0 h3
          else
            f_X5_matches_J68 (f_X5_matches_L7  n) x2 y2 1 h3)
         fu (-1) 0 h) := rfl
noncomputable def f_X5_matches (x1 : Int) (h : Hp) : Option (Int × Hp) :=
  bd (f_X5_clears x1 h) fun _ h1 =>
  (f_X5_matches_L7 
     fu 0 1 h1)
noncomputable def f_X5_matchOf (x1 : Int) (x2 : Int) (h : Hp) : Option (Int × Hp) :=
  bd (f_X5_matches x1 h) fun r1 h1 =>
  if inb x2 12 then
    if ¬ (h1 80 (Int.toNat x2)) = (-1) then
      if inb x2 12 then
        some ((h1 80 (Int.toNat x2)), h1)
      else none
    else
      some ((-1000004), h1)
  else none
noncomputable def f_X5_suiting_J30 (c7 : Int → Int → Hp → Option (Int × Hp)) (x1 : Int) (x2 : Int) (x3 : Int) (x4 : Int) (s0 : Int) (h : Hp) : Option (Int × Hp) :=
  if s0 = 0 then
    lv (wr (x3 + 0)) fun y2 =>
    c7 y2 (wr (x4 + 1)) h
  else
    if inb x4 144 then
      if (h 81 (Int.toNat x4)) = (-1) then
        lv (wr (x3 + 0)) fun y3 =>
        c7 y3 (wr (x4 + 1)) h
      else
        lv (wr (x3 + 1)) fun y4 =>
        c7 y4 (wr (x4 + 1)) h
    else none
noncomputable def f_X5_suiting_L7 (x1 : Int) (x2 : Int) (n : Nat) : Int → Int → Hp → Option (Int × Hp) :=
  Nat.rec (motive := fun _ => Int → Int → Hp → Option (Int × Hp)) (fun _ _ _ => none) (fun _ rec x3 x4 h =>
    if 144 ≤ x4 then
      some (x3, h)
    else
      if ¬ x1 = (-1) then
        if ¬ (wr (Int.tdiv x4 12)) = x1 then
          f_X5_suiting_J30 rec x1 x2 x3 x4 0 h
        else
          f_X5_suiting_J30 rec x1 x2 x3 x4 1 h
      else
        if ¬ (wr (x4 - Int.tdiv x4 12 * 12)) = x2 then
          f_X5_suiting_J30 rec x1 x2 x3 x4 0 h
        else
          f_X5_suiting_J30 rec x1 x2 x3 x4 1 h) n
theorem f_X5_suiting_L7_s (x1 : Int) (x2 : Int) (n : Nat) (x3 : Int) (x4 : Int) (h : Hp) : f_X5_suiting_L7 x1 x2 (n + 1) x3 x4 h =
    if 144 ≤ x4 then
      some (x3, h)
    else
      if ¬ x1 = (-1) then
        if ¬ (wr (Int.tdiv x4 12)) = x1 then
          f_X5_suiting_J30 (f_X5_suiting_L7 x1 x2 n) x1 x2 x3 x4 0 h
        else
          f_X5_suiting_J30 (f_X5_suiting_L7 x1 x2 n) x1 x2 x3 x4 1 h
      else
        if ¬ (wr (x4 - Int.tdiv x4 12 * 12)) = x2 then
          f_X5_suiting_J30 (f_X5_suiting_L7 x1 x2 n) x1 x2 x3 x4 0 h
        else
          f_X5_suiting_J30 (f_X5_suiting_L7 x1 x2 n) x1 x2 x3 x4 1 h := rfl
noncomputable def f_X5_suiting (x1 : Int) (x2 : Int) (h : Hp) : Option (Int × Hp) :=
  bd (f_X5_clears 0 h) fun _ h1 =>
  (f_X5_suiting_L7 x1 x2
     fu 0 0 h1)
noncomputable def f_X5_claimOf (x1 : Int) (x2 : Int) (h : Hp) : Option (Int × Hp) :=
  bd (f_X5_isClaim 0 x1 h) fun r1 h1 =>
  if r1 = 0 then
    some ((-1000001), h1)
  else
    bd (f_X5_in x2 0 7 h1) fun r2 h2 =>
    if ¬ r2 = 0 then
      bd (f_X5_claimAt 0 x1 h2) fun r3 h3 =>
      if x2 = 4 then
        if inb (wr (r3 + 4)) 1330 then
          some ((h3 77 (Int.toNat (wr (r3 + 4)))), h3)
        else none
      else
        if x2 = 5 then
          bd (f_X5_matchOf 0 x1 h3) fun r5 h5 =>
          some (r5, h5)
        else
          if x2 = 6 then
            bd (f_X5_suiting (-1) x1 h3) fun r7 h7 =>
            some (r7, h7)
          else
            if x2 = 7 then
              if inb (wr (r3 + 5)) 1330 then
                some ((h3 77 (Int.toNat (wr (r3 + 5)))), h3)
              else none
            else
              if inb (wr (r3 + x2)) 1330 then
                if ¬ (h3 77 (Int.toNat (wr (r3 + x2)))) = (-1) then
                  if inb (wr (r3 + x2)) 1330 then
                    some ((h3 77 (Int.toNat (wr (r3 + x2)))), h3)
                  else none
                else
                  some ((-1000004), h3)
              else none
    else
      some ((-1000001), h2)
noncomputable def f_X5_clearText  (h : Hp) : Option (Int × Hp) :=
  lv (h 76 3) fun y1 =>
  lt (hup h 76 3 0) fun h2 =>
  some (y1, h2)
noncomputable def f_X5_count (x1 : Int) (h : Hp) : Option (Int × Hp) :=
  bd (f_X5_in x1 20 26 h) fun r1 h1 =>
  if r1 = 0 then
    if x1 = 0 then
      if inb 0 1330 then
        some ((h1 77 (Int.toNat 0)), h1)
      else none
    else
      if x1 = 1 then
        if inb (wr ((wr (15 + x1)) - 1)) 1330 then
          some ((h1 77 (Int.toNat (wr ((wr (15 + x1)) - 1)))), h1)
        else none
      else
        if x1 = 2 then
          if inb (wr ((wr (15 + x1)) - 1)) 1330 then
            some ((h1 77 (Int.toNat (wr ((wr (15 + x1)) - 1)))), h1)
          else none
        else
          if x1 = 3 then
            bd (f_X5_matches 0 h1) fun r5 h5 =>
            some (r5, h5)
          else
            if x1 = 4 then
              bd (f_X5_byAsking 0 h1) fun r7 h7 =>
              some (r7, h7)
            else
              if x1 = 5 then
                if inb (wr ((wr (8 + x1)) - 5)) 1330 then
                  some ((h1 77 (Int.toNat (wr ((wr (8 + x1)) - 5)))), h1)
                else none
              else
                if x1 = 6 then
                  if inb (wr ((wr (8 + x1)) - 5)) 1330 then
                    some ((h1 77 (Int.toNat (wr ((wr (8 + x1)) - 5)))), h1)
                  else none
                else
                  if x1 = 7 then
                    if inb (wr ((wr (8 + x1)) - 5)) 1330 then
                      some ((h1 77 (Int.toNat (wr ((wr (8 + x1)) - 5)))), h1)
                    else none
                  else
                    if x1 = 8 then
                      if inb (wr ((wr (8 + x1)) - 5)) 1330 then
                        some ((h1 77 (Int.toNat (wr ((wr (8 + x1)) - 5)))), h1)
                      else none
                    else
                      if x1 = 9 then
                        if inb (wr ((wr (8 + x1)) - 5)) 1330 then
                          some ((h1 77 (Int.toNat (wr ((wr (8 + x1)) - 5)))), h1)
                        else none
                      else
                        if x1 = 10 then
                          if inb (wr ((wr (8 + x1)) - 5)) 1330 then
                            some ((h1 77 (Int.toNat (wr ((wr (8 + x1)) - 5)))), h1)
                          else none
                        else
                          if x1 = 11 then
                            if inb (wr ((wr (8 + x1)) - 5)) 1330 then
                              some ((h1 77 (Int.toNat (wr ((wr (8 + x1)) - 5)))), h1)
                            else none
                          else
                            if x1 = 12 then
                              if inb 17 1330 then
                                some ((h1 77 (Int.toNat 17)), h1)
                              else none
                            else
                              if x1 = 13 then
                                some ((h1 76 1), h1)
                              else
                                if x1 = 14 then
                                  some ((h1 76 3), h1)
                                else
                                  some ((-1000001), h1)
  else
    if inb (wr ((wr (1 + x1)) - 20)) 1330 then
      some ((h1 77 (Int.toNat (wr ((wr (1 + x1)) - 20)))), h1)
    else none
noncomputable def f_X5_finds (x1 : Int) (x2 : Int) (x3 : Int) (x4 : Int) (x5 : Int) (h : Hp) : Option (Int × Hp) :=
  bd (f_X5_areValues 0 x2 x3 x4 x5 h) fun r1 h1 =>
  if ¬ r1 = 0 then
    if inb (wr (x1 + 15)) 1330 then
      if ¬ (h1 77 (Int.toNat (wr (x1 + 15)))) = 12 then
        if inb (wr (x1 + 15)) 1330 then
          bd (f_X5_umbrellaAt x1 (h1 77 (Int.toNat (wr (x1 + 15)))) h1) fun r2 h2 =>
          bd (f_X5_lays r2 x2 x3 x4 x5 h2) fun _ h3 =>
          if inb (wr (x1 + 8)) 1330 then
            if inb (wr (x1 + 8)) 1330 then
              lt (hup h3 77 (Int.toNat (wr (x1 + 8))) (wr ((h3 77 (Int.toNat (wr (x1 + 8)))) + 1))) fun h4 =>
              if inb (wr (x1 + 15)) 1330 then
                if inb (wr (x1 + 15)) 1330 then
                  lt (hup h4 77 (Int.toNat (wr (x1 + 15))) (wr ((h4 77 (Int.toNat (wr (x1 + 15)))) + 1))) fun h5 =>
                  if inb (wr (x1 + 15)) 1330 then
                    some ((wr ((h5 77 (Int.toNat (wr (x1 + 15)))) - 1)), h5)
                  else none
                else none
              else none
            else none
          else none
        else none
      else
        some ((-1000003), h1)
    else none
  else
    some ((-1000001), h1)
noncomputable def f_X5_umbrellaGoes_L14 (x1 : Int) (n : Nat) : Int → Hp → Option (Int × Hp) :=
  Nat.rec (motive := fun _ => Int → Hp → Option (Int × Hp)) (fun _ _ => none) (fun _ rec x3 h =>
    if inb (wr (x1 + 15)) 1330 then
      bd (f_X5_umbrellaAt x1 (h 77 (Int.toNat (wr (x1 + 15)))) h) fun r3 h3 =>
      if r3 ≤ x3 then
        some (0, h3)
      else
        if inb (wr (x3 + 5)) 1330 then
          if inb x3 1330 then
            lt (hup h3 77 (Int.toNat x3) (h3 77 (Int.toNat (wr (x3 + 5))))) fun h4 =>
            rec (wr (x3 + 1)) h4
          else none
        else none
    else none) n
theorem f_X5_umbrellaGoes_L14_s (x1 : Int) (n : Nat) (x3 : Int) (h : Hp) : f_X5_umbrellaGoes_L14 x1 (n + 1) x3 h =
    if inb (wr (x1 + 15)) 1330 then
      bd (f_X5_umbrellaAt x1 (h 77 (Int.toNat (wr (x1 + 15)))) h) fun r3 h3 =>
      if r3 ≤ x3 then
        some (0, h3)
      else
        if inb (wr (x3 + 5)) 1330 then
          if inb x3 1330 then
            lt (hup h3 77 (Int.toNat x3) (h3 77 (Int.toNat (wr (x3 + 5))))) fun h4 =>
            f_X5_umbrellaGoes_L14 x1 n (wr (x3 + 1)) h4
          else none
        else none
    else none := rfl
noncomputable def f_X5_umbrellaGoes (x1 : Int) (x2 : Int) (h : Hp) : Option (Int × Hp) :=
  if inb (wr (x1 + 15)) 1330 then
    if inb (wr (x1 + 15)) 1330 then
      lt (hup h 77 (Int.toNat (wr (x1 + 15))) (wr ((h 77 (Int.toNat (wr (x1 + 15)))) - 1))) fun h1 =>
      bd (f_X5_umbrellaAt x1 x2 h1) fun r2 h2 =>
      (f_X5_umbrellaGoes_L14 x1
         fu r2 h2)
    else none
  else none
noncomputable def f_X5_writes_J41 (x1 : Int) (x2 : Int) (x3 : Int) (x4 : Int) (h : Hp) : Option (Int × Hp) :=
  if inb (wr (x1 + 17)) 1330 then
    lv (wr ((wr (x1 + 150)) + (wr (4 * (h 77 (Int.toNat (wr (x1 + 17)))))))) fun y1 =>
    if inb (wr (x1 + 0)) 1330 then
      if inb y1 1330 then
        lt (hup h 77 (Int.toNat y1) (h 77 (Int.toNat (wr (x1 + 0))))) fun h2 =>
        if inb (wr (y1 + 1)) 1330 then
          lt (hup h2 77 (Int.toNat (wr (y1 + 1))) x2) fun h3 =>
          if inb (wr (y1 + 2)) 1330 then
            lt (hup h3 77 (Int.toNat (wr (y1 + 2))) x3) fun h4 =>
            if inb (wr (y1 + 3)) 1330 then
              lt (hup h4 77 (Int.toNat (wr (y1 + 3))) x4) fun h5 =>
              if inb (wr (x1 + 17)) 1330 then
                if inb (wr (x1 + 17)) 1330 then
                  lt (hup h5 77 (Int.toNat (wr (x1 + 17))) (wr ((h5 77 (Int.toNat (wr (x1 + 17)))) + 1))) fun h6 =>
                  if inb (wr (x1 + 13)) 1330 then
                    if inb (wr (x1 + 13)) 1330 then
                      lt (hup h6 77 (Int.toNat (wr (x1 + 13))) (wr ((h6 77 (Int.toNat (wr (x1 + 13)))) + x4))) fun h7 =>
                      some (0, h7)
                    else none
                  else none
                else none
              else none
            else none
          else none
        else none
      else none
    else none
  else none
noncomputable def f_X5_writes_L12 (x1 : Int) (x2 : Int) (x3 : Int) (x4 : Int) (c31 : Hp → Option (Int × Hp)) (n : Nat) : Int → Hp → Option (Int × Hp) :=
  Nat.rec (motive := fun _ => Int → Hp → Option (Int × Hp)) (fun _ _ => none) (fun _ rec x5 h =>
    if (wr ((wr (x1 + 150)) + 36)) ≤ x5 then
      c31 h
    else
      if inb (wr (x5 + 4)) 1330 then
        if inb x5 1330 then
          lt (hup h 77 (Int.toNat x5) (h 77 (Int.toNat (wr (x5 + 4))))) fun h9 =>
          rec (wr (x5 + 1)) h9
        else none
      else none) n
theorem f_X5_writes_L12_s (x1 : Int) (x2 : Int) (x3 : Int) (x4 : Int) (c31 : Hp → Option (Int × Hp)) (n : Nat) (x5 : Int) (h : Hp) : f_X5_writes_L12 x1 x2 x3 x4 c31 (n + 1) x5 h =
    if (wr ((wr (x1 + 150)) + 36)) ≤ x5 then
      c31 h
    else
      if inb (wr (x5 + 4)) 1330 then
        if inb x5 1330 then
          lt (hup h 77 (Int.toNat x5) (h 77 (Int.toNat (wr (x5 + 4))))) fun h9 =>
          f_X5_writes_L12 x1 x2 x3 x4 c31 n (wr (x5 + 1)) h9
        else none
      else none := rfl
noncomputable def f_X5_writes (x1 : Int) (x2 : Int) (x3 : Int) (x4 : Int) (h : Hp) : Option (Int × Hp) :=
  if inb (wr (x1 + 17)) 1330 then
    if ¬ (h 77 (Int.toNat (wr (x1 + 17)))) = 10 then
      f_X5_writes_J41 x1 x2 x3 x4 h
    else
      lv (wr (x1 + 150)) fun y8 =>
      (f_X5_writes_L12 x1 x2 x3 x4
        (fun h10 =>
          if inb (wr (x1 + 17)) 1330 then
            if inb (wr (x1 + 17)) 1330 then
              lt (hup h10 77 (Int.toNat (wr (x1 + 17))) (wr ((h10 77 (Int.toNat (wr (x1 + 17)))) - 1))) fun h11 =>
              f_X5_writes_J41 x1 x2 x3 x4 h11
            else none
          else none)
         fu y8 h)
  else none
noncomputable def f_X5_handsOut_L6 (x1 : Int) (x2 : Int) (c44 : Hp → Option (Int × Hp)) (n : Nat) : Int → Hp → Option (Int × Hp) :=
  Nat.rec (motive := fun _ => Int → Hp → Option (Int × Hp)) (fun _ _ => none) (fun _ rec x3 h =>
    if inb (wr (x1 + 15)) 1330 then
      if (h 77 (Int.toNat (wr (x1 + 15)))) ≤ x3 then
        c44 h
      else
        if inb x3 12 then
          if (h 79 (Int.toNat x3)) = (-1) then
            rec (wr (x3 + 1)) h
          else
            bd (f_X5_umbrellaAt x1 x3 h) fun r2 h2 =>
            if inb (wr (r2 + 4)) 1330 then
              lv (h2 77 (Int.toNat (wr (r2 + 4)))) fun y3 =>
              if inb (wr (x1 + 5)) 1330 then
                bd (f_X5_writes x1 0 y3 (wr (y3 * (h2 77 (Int.toNat (wr (x1 + 5)))))) h2) fun _ h4 =>
                rec (wr (x3 + 1)) h4
              else none
            else none
        else none
    else none) n
theorem f_X5_handsOut_L6_s (x1 : Int) (x2 : Int) (c44 : Hp → Option (Int × Hp)) (n : Nat) (x3 : Int) (h : Hp) : f_X5_handsOut_L6 x1 x2 c44 (n + 1) x3 h =
    if inb (wr (x1 + 15)) 1330 then
      if (h 77 (Int.toNat (wr (x1 + 15)))) ≤ x3 then
        c44 h
      else
        if inb x3 12 then
          if (h 79 (Int.toNat x3)) = (-1) then
            f_X5_handsOut_L6 x1 x2 c44 n (wr (x3 + 1)) h
          else
            bd (f_X5_umbrellaAt x1 x3 h) fun r2 h2 =>
            if inb (wr (r2 + 4)) 1330 then
              lv (h2 77 (Int.toNat (wr (r2 + 4)))) fun y3 =>
              if inb (wr (x1 + 5)) 1330 then
                bd (f_X5_writes x1 0 y3 (wr (y3 * (h2 77 (Int.toNat (wr (x1 + 5)))))) h2) fun _ h4 =>
                f_X5_handsOut_L6 x1 x2 c44 n (wr (x3 + 1)) h4
              else none
            else none
        else none
    else none := rfl
noncomputable def f_X5_handsOut_J58 (c46 : Int → Hp → Option (Int × Hp)) (x1 : Int) (x2 : Int) (x3 : Int) (h : Hp) : Option (Int × Hp) :=
  if inb x3 12 then
    if (h 80 (Int.toNat x3)) = (-1) then
      c46 (wr (x3 + (-1))) h
    else
      bd (f_X5_claimGoes x1 x3 h) fun _ h6 =>
      c46 (wr (x3 + (-1))) h6
  else none
noncomputable def f_X5_handsOut_L46 (x1 : Int) (x2 : Int) (c70 : Hp → Option (Int × Hp)) (n : Nat) : Int → Hp → Option (Int × Hp) :=
  Nat.rec (motive := fun _ => Int → Hp → Option (Int × Hp)) (fun _ _ => none) (fun _ rec x3 h =>
    if x3 < 0 then
      c70 h
    else
      if inb x3 12 then
        if (h 79 (Int.toNat x3)) = (-1) then
          f_X5_handsOut_J58 rec x1 x2 x3 h
        else
          bd (f_X5_umbrellaGoes x1 x3 h) fun _ h7 =>
          f_X5_handsOut_J58 rec x1 x2 x3 h7
      else none) n
theorem f_X5_handsOut_L46_s (x1 : Int) (x2 : Int) (c70 : Hp → Option (Int × Hp)) (n : Nat) (x3 : Int) (h : Hp) : f_X5_handsOut_L46 x1 x2 c70 (n + 1) x3 h =
    if x3 < 0 then
      c70 h
    else
      if inb x3 12 then
        if (h 79 (Int.toNat x3)) = (-1) then
          f_X5_handsOut_J58 (f_X5_handsOut_L46 x1 x2 c70 n) x1 x2 x3 h
        else
          bd (f_X5_umbrellaGoes x1 x3 h) fun _ h7 =>
          f_X5_handsOut_J58 (f_X5_handsOut_L46 x1 x2 c70 n) x1 x2 x3 h7
      else none := rfl
noncomputable def f_X5_handsOut (x1 : Int) (h : Hp) : Option (Int × Hp) :=
  bd (f_X5_matches x1 h) fun r1 h1 =>
  (f_X5_handsOut_L6 x1 r1
    (fun h5 =>
      (f_X5_handsOut_L46 x1 r1
        (fun h8 =>
          if inb (wr (x1 + 10)) 1330 then
            if inb (wr (x1 + 10)) 1330 then
              lt (hup h8 77 (Int.toNat (wr (x1 + 10))) (wr ((h8 77 (Int.toNat (wr (x1 + 10)))) + r1))) fun h9 =>
              some (r1, h9)
            else none
          else none)
         fu 11 h5))
     fu 0 h1)
noncomputable def f_X5_isDetail (x0 : Int) (x1 : Int) (h : Hp) : Option (Int × Hp) :=
  bd (f_X5_in x0 0 3 h) fun r1 h1 =>
  if r1 = 0 then
    some (0, h1)
  else
    bd (f_X5_in x1 0 9 h1) fun r2 h2 =>
    if r2 = 0 then
      some (0, h2)
    else
      some (1, h2)
noncomputable def f_X5_tells_J41 (x3 : Int) (x4 : Int) (x5 : Int) (s1 : Int) (s2 : Int) (s3 : Int) (h : Hp) : Option (Int × Hp) :=
  if inb s1 1330 then
    lt (hup h 77 (Int.toNat s1) (wr (s2 + s3))) fun h4 =>
    if inb (wr (x5 + x3)) 1330 then
      lt (hup h4 77 (Int.toNat (wr (x5 + x3))) x4) fun h5 =>
      if inb (wr (x5 + 5)) 1330 then
        some ((h5 77 (Int.toNat (wr (x5 + 5)))), h5)
      else none
    else none
  else none
noncomputable def f_X5_tells_J40 (x3 : Int) (x4 : Int) (x5 : Int) (s1 : Int) (s2 : Int) (h : Hp) : Option (Int × Hp) :=
  f_X5_tells_J41 x3 x4 x5 s1 s2 0 h
noncomputable def f_X5_tells (x1 : Int) (x2 : Int) (x3 : Int) (x4 : Int) (h : Hp) : Option (Int × Hp) :=
  bd (f_X5_isClaim x1 x2 h) fun r1 h1 =>
  if r1 = 0 then
    some ((-1000001), h1)
  else
    bd (f_X5_isDetail x3 x4 h1) fun r2 h2 =>
    if ¬ r2 = 0 then
      bd (f_X5_claimAt x1 x2 h2) fun r3 h3 =>
      if inb (wr (r3 + 5)) 1330 then
        if inb (wr (r3 + x3)) 1330 then
          if (h3 77 (Int.toNat (wr (r3 + x3)))) = (-1) then
            f_X5_tells_J40 x3 x4 r3 (wr (r3 + 5)) (h3 77 (Int.toNat (wr (r3 + 5)))) h3
          else
            if inb (wr (r3 + x3)) 1330 then
              if (h3 77 (Int.toNat (wr (r3 + x3)))) = x4 then
                f_X5_tells_J40 x3 x4 r3 (wr (r3 + 5)) (h3 77 (Int.toNat (wr (r3 + 5)))) h3
              else
                f_X5_tells_J41 x3 x4 r3 (wr (r3 + 5)) (h3 77 (Int.toNat (wr (r3 + 5)))) 1 h3
            else none
        else none
      else none
    else
      some ((-1000001), h2)
noncomputable def f_X5_lapses_L2 (x1 : Int) (n : Nat) : Int → Hp → Option (Int × Hp) :=
  Nat.rec (motive := fun _ => Int → Hp → Option (Int × Hp)) (fun _ _ => none) (fun _ rec x2 h =>
    if inb (wr (x1 + 16)) 1330 then
      if (h 77 (Int.toNat (wr (x1 + 16)))) ≤ x2 then
        some (0, h)
      else
        bd (f_X5_claimAt x1 x2 h) fun r1 h1 =>
        if inb (wr (r1 + 4)) 1330 then
          lv (h1 77 (Int.toNat (wr (r1 + 4)))) fun y2 =>
          if inb (wr (x1 + 6)) 1330 then
            if y2 < (h1 77 (Int.toNat (wr (x1 + 6)))) then
              rec (wr (x2 + 1)) h1
            else
              bd (f_X5_writes x1 2 y2 0 h1) fun _ h3 =>
              if inb (wr (x1 + 12)) 1330 then
                if inb (wr (x1 + 12)) 1330 then
                  lt (hup h3 77 (Int.toNat (wr (x1 + 12))) (wr ((h3 77 (Int.toNat (wr (x1 + 12)))) + 1))) fun h4 =>
                  bd (f_X5_claimGoes x1 x2 h4) fun _ h5 =>
                  rec x2 h5
                else none
              else none
          else none
        else none
    else none) n
theorem f_X5_lapses_L2_s (x1 : Int) (n : Nat) (x2 : Int) (h : Hp) : f_X5_lapses_L2 x1 (n + 1) x2 h =
    if inb (wr (x1 + 16)) 1330 then
      if (h 77 (Int.toNat (wr (x1 + 16)))) ≤ x2 then
        some (0, h)
      else
        bd (f_X5_claimAt x1 x2 h) fun r1 h1 =>
        if inb (wr (r1 + 4)) 1330 then
          lv (h1 77 (Int.toNat (wr (r1 + 4)))) fun y2 =>
          if inb (wr (x1 + 6)) 1330 then
            if y2 < (h1 77 (Int.toNat (wr (x1 + 6)))) then
              f_X5_lapses_L2 x1 n (wr (x2 + 1)) h1
            else
              bd (f_X5_writes x1 2 y2 0 h1) fun _ h3 =>
              if inb (wr (x1 + 12)) 1330 then
                if inb (wr (x1 + 12)) 1330 then
                  lt (hup h3 77 (Int.toNat (wr (x1 + 12))) (wr ((h3 77 (Int.toNat (wr (x1 + 12)))) + 1))) fun h4 =>
                  bd (f_X5_claimGoes x1 x2 h4) fun _ h5 =>
                  f_X5_lapses_L2 x1 n x2 h5
                else none
              else none
          else none
        else none
    else none := rfl
noncomputable def f_X5_lapses (x1 : Int) (h : Hp) : Option (Int × Hp) :=
  (f_X5_lapses_L2 x1
     fu 0 h)
noncomputable def f_X5_sells_L2 (x1 : Int) (n : Nat) : Int → Hp → Option (Int × Hp) :=
  Nat.rec (motive := fun _ => Int → Hp → Option (Int × Hp)) (fun _ _ => none) (fun _ rec x2 h =>
    if inb (wr (x1 + 15)) 1330 then
      if (h 77 (Int.toNat (wr (x1 + 15)))) ≤ x2 then
        some (0, h)
      else
        bd (f_X5_umbrellaAt x1 x2 h) fun r1 h1 =>
        if inb (wr (r1 + 4)) 1330 then
          lv (h1 77 (Int.toNat (wr (r1 + 4)))) fun y2 =>
          if inb (wr (x1 + 6)) 1330 then
            if y2 < (h1 77 (Int.toNat (wr (x1 + 6)))) then
              rec (wr (x2 + 1)) h1
            else
              if inb (wr (x1 + 7)) 1330 then
                bd (f_X5_writes x1 1 y2 (h1 77 (Int.toNat (wr (x1 + 7)))) h1) fun _ h3 =>
                if inb (wr (x1 + 11)) 1330 then
                  if inb (wr (x1 + 11)) 1330 then
                    lt (hup h3 77 (Int.toNat (wr (x1 + 11))) (wr ((h3 77 (Int.toNat (wr (x1 + 11)))) + 1))) fun h4 =>
                    bd (f_X5_umbrellaGoes x1 x2 h4) fun _ h5 =>
                    rec x2 h5
                  else none
                else none
              else none
          else none
        else none
    else none) n
theorem f_X5_sells_L2_s (x1 : Int) (n : Nat) (x2 : Int) (h : Hp) : f_X5_sells_L2 x1 (n + 1) x2 h =
    if inb (wr (x1 + 15)) 1330 then
      if (h 77 (Int.toNat (wr (x1 + 15)))) ≤ x2 then
        some (0, h)
      else
        bd (f_X5_umbrellaAt x1 x2 h) fun r1 h1 =>
        if inb (wr (r1 + 4)) 1330 then
          lv (h1 77 (Int.toNat (wr (r1 + 4)))) fun y2 =>
          if inb (wr (x1 + 6)) 1330 then
            if y2 < (h1 77 (Int.toNat (wr (x1 + 6)))) then
              f_X5_sells_L2 x1 n (wr (x2 + 1)) h1
            else
              if inb (wr (x1 + 7)) 1330 then
                bd (f_X5_writes x1 1 y2 (h1 77 (Int.toNat (wr (x1 + 7)))) h1) fun _ h3 =>
                if inb (wr (x1 + 11)) 1330 then
                  if inb (wr (x1 + 11)) 1330 then
                    lt (hup h3 77 (Int.toNat (wr (x1 + 11))) (wr ((h3 77 (Int.toNat (wr (x1 + 11)))) + 1))) fun h4 =>
                    bd (f_X5_umbrellaGoes x1 x2 h4) fun _ h5 =>
                    f_X5_sells_L2 x1 n x2 h5
                  else none
                else none
              else none
          else none
        else none
    else none := rfl
noncomputable def f_X5_sells (x1 : Int) (h : Hp) : Option (Int × Hp) :=
  (f_X5_sells_L2 x1
     fu 0 h)
noncomputable def f_X5_goBy_L24 (x1 : Int) (x2 : Int) (x3 : Int) (x4 : Int) (c53 : Hp → Option (Int × Hp)) (n : Nat) : Int → Hp → Option (Int × Hp) :=
  Nat.rec (motive := fun _ => Int → Hp → Option (Int × Hp)) (fun _ _ => none) (fun _ rec x5 h =>
    if 12 ≤ x5 then
      c53 h
    else
      bd (f_X5_umbrellaAt x1 x5 h) fun r3 h3 =>
      if inb (wr (r3 + 4)) 1330 then
        if inb (wr (r3 + 4)) 1330 then
          lt (hup h3 77 (Int.toNat (wr (r3 + 4))) (wr ((h3 77 (Int.toNat (wr (r3 + 4)))) + 1))) fun h4 =>
          bd (f_X5_claimAt x1 x5 h4) fun r5 h5 =>
          if inb (wr (r5 + 4)) 1330 then
            if inb (wr (r5 + 4)) 1330 then
              lt (hup h5 77 (Int.toNat (wr (r5 + 4))) (wr ((h5 77 (Int.toNat (wr (r5 + 4)))) + 1))) fun h6 =>
              rec (wr (x5 + 1)) h6
            else none
          else none
        else none
      else none) n
theorem f_X5_goBy_L24_s (x1 : Int) (x2 : Int) (x3 : Int) (x4 : Int) (c53 : Hp → Option (Int × Hp)) (n : Nat) (x5 : Int) (h : Hp) : f_X5_goBy_L24 x1 x2 x3 x4 c53 (n + 1) x5 h =
    if 12 ≤ x5 then
      c53 h
    else
      bd (f_X5_umbrellaAt x1 x5 h) fun r3 h3 =>
      if inb (wr (r3 + 4)) 1330 then
        if inb (wr (r3 + 4)) 1330 then
          lt (hup h3 77 (Int.toNat (wr (r3 + 4))) (wr ((h3 77 (Int.toNat (wr (r3 + 4)))) + 1))) fun h4 =>
          bd (f_X5_claimAt x1 x5 h4) fun r5 h5 =>
          if inb (wr (r5 + 4)) 1330 then
            if inb (wr (r5 + 4)) 1330 then
              lt (hup h5 77 (Int.toNat (wr (r5 + 4))) (wr ((h5 77 (Int.toNat (wr (r5 + 4)))) + 1))) fun h6 =>
              f_X5_goBy_L24 x1 x2 x3 x4 c53 n (wr (x5 + 1)) h6
            else none
          else none
        else none
      else none := rfl
noncomputable def f_X5_goBy_L9 (x1 : Int) (x2 : Int) (x3 : Int) (c61 : Hp → Option (Int × Hp)) (n : Nat) : Int → Hp → Option (Int × Hp) :=
  Nat.rec (motive := fun _ => Int → Hp → Option (Int × Hp)) (fun _ _ => none) (fun _ rec x4 h =>
    if x2 ≤ x4 then
      c61 h
    else
      if inb (wr (x1 + 0)) 1330 then
        if inb (wr (x1 + 0)) 1330 then
          lt (hup h 77 (Int.toNat (wr (x1 + 0))) (wr ((h 77 (Int.toNat (wr (x1 + 0)))) + 1))) fun h2 =>
          (f_X5_goBy_L24 x1 x2 x3 x4
            (fun h7 =>
              bd (f_X5_sells x1 h7) fun _ h8 =>
              bd (f_X5_lapses x1 h8) fun _ h9 =>
              rec (wr (x4 + 1)) h9)
             fu 0 h2)
        else none
      else none) n
theorem f_X5_goBy_L9_s (x1 : Int) (x2 : Int) (x3 : Int) (c61 : Hp → Option (Int × Hp)) (n : Nat) (x4 : Int) (h : Hp) : f_X5_goBy_L9 x1 x2 x3 c61 (n + 1) x4 h =
    if x2 ≤ x4 then
      c61 h
    else
      if inb (wr (x1 + 0)) 1330 then
        if inb (wr (x1 + 0)) 1330 then
          lt (hup h 77 (Int.toNat (wr (x1 + 0))) (wr ((h 77 (Int.toNat (wr (x1 + 0)))) + 1))) fun h2 =>
          (f_X5_goBy_L24 x1 x2 x3 x4
            (fun h7 =>
              bd (f_X5_sells x1 h7) fun _ h8 =>
              bd (f_X5_lapses x1 h8) fun _ h9 =>
              f_X5_goBy_L9 x1 x2 x3 c61 n (wr (x4 + 1)) h9)
             fu 0 h2)
        else none
      else none := rfl
noncomputable def f_X5_goBy (x1 : Int) (x2 : Int) (h : Hp) : Option (Int × Hp) :=
  if inb (wr (x1 + 11)) 1330 then
    lv (h 77 (Int.toNat (wr (x1 + 11)))) fun y1 =>
    (f_X5_goBy_L9 x1 x2 y1
      (fun h10 =>
        if inb (wr (x1 + 11)) 1330 then
          some ((wr ((h10 77 (Int.toNat (wr (x1 + 11)))) - y1)), h10)
        else none)
       fu 0 h)
  else none
noncomputable def f_X5_weeksIn (x1 : Int) (x2 : Int) (h : Hp) : Option (Int × Hp) :=
  bd (f_X5_in x2 1 20 h) fun r1 h1 =>
  if ¬ r1 = 0 then
    if inb (wr (x1 + 0)) 1330 then
      if (wr ((h1 77 (Int.toNat (wr (x1 + 0)))) + x2)) ≤ 999 then
        bd (f_X5_goBy x1 x2 h1) fun r2 h2 =>
        some (r2, h2)
      else
        some ((-1000003), h1)
    else none
  else
    some ((-1000001), h1)
noncomputable def f_X5_does (x1 : Int) (h : Hp) : Option (Int × Hp) :=
  if (h 76 9) = 99 then
    if inb 0 4 then
      if inb 1 4 then
        if inb 2 4 then
          if inb 3 4 then
            bd (f_X5_claims x1 (h 83 (Int.toNat 0)) (h 83 (Int.toNat 1)) (h 83 (Int.toNat 2)) (h 83 (Int.toNat 3)) h) fun r1 h1 =>
            some (r1, h1)
          else none
        else none
      else none
    else none
  else
    if (h 76 9) = 102 then
      if inb 0 4 then
        if inb 1 4 then
          if inb 2 4 then
            if inb 3 4 then
              bd (f_X5_finds x1 (h 83 (Int.toNat 0)) (h 83 (Int.toNat 1)) (h 83 (Int.toNat 2)) (h 83 (Int.toNat 3)) h) fun r3 h3 =>
              some (r3, h3)
            else none
          else none
        else none
      else none
    else
      if (h 76 9) = 116 then
        if inb 0 4 then
          if inb 1 4 then
            if inb 2 4 then
              bd (f_X5_tells x1 (h 83 (Int.toNat 0)) (h 83 (Int.toNat 1)) (h 83 (Int.toNat 2)) h) fun r5 h5 =>
              some (r5, h5)
            else none
          else none
        else none
      else
        if (h 76 9) = 119 then
          if inb 0 4 then
            bd (f_X5_weeksIn x1 (h 83 (Int.toNat 0)) h) fun r7 h7 =>
            some (r7, h7)
          else none
        else
          bd (f_X5_handsOut x1 h) fun r9 h9 =>
          some (r9, h9)
noncomputable def f_X5_drop (x1 : Int) (h : Hp) : Option (Int × Hp) :=
  bd (f_X5_isClaim 0 x1 h) fun r1 h1 =>
  if ¬ r1 = 0 then
    bd (f_X5_records  h1) fun _ h2 =>
    bd (f_X5_claimGoes 0 x1 h2) fun _ h3 =>
    if inb 14 1330 then
      if inb 14 1330 then
        lt (hup h3 77 (Int.toNat 14) (wr ((h3 77 (Int.toNat 14)) + 1))) fun h4 =>
        if inb 16 1330 then
          some ((h4 77 (Int.toNat 16)), h4)
        else none
      else none
    else none
  else
    some ((-1000001), h1)
noncomputable def f_X5_isDigit  (h : Hp) : Option (Int × Hp) :=
  if (h 76 3) ≤ (h 76 8) then
    some (0, h)
  else
    if inb (h 76 8) 60 then
      bd (f_X5_in (h 78 (Int.toNat (h 76 8))) 48 57 h) fun r1 h1 =>
      if r1 = 0 then
        some (0, h1)
      else
        some (1, h1)
    else none
noncomputable def f_X5_readsNumber_L8 (x1 : Int) (x2 : Int) (n : Nat) : Hp → Option (Int × Hp) :=
  Nat.rec (motive := fun _ => Hp → Option (Int × Hp)) (fun  _ => none) (fun _ rec  h =>
    bd (f_X5_isDigit  h) fun r3 h3 =>
    if r3 = 0 then
      if (h3 76 8) ≤ x2 then
        some (0, h3)
      else
        some (1, h3)
    else
      if (wr (x2 + 2)) ≤ (h3 76 8) then
        if (h3 76 8) ≤ x2 then
          some (0, h3)
        else
          some (1, h3)
      else
        if inb x1 4 then
          if inb (h3 76 8) 60 then
            if inb x1 4 then
              lt (hup h3 83 (Int.toNat x1) (wr ((wr ((wr (10 * (h3 83 (Int.toNat x1)))) + (h3 78 (Int.toNat (h3 76 8))))) - 48))) fun h4 =>
              lt (hup h4 76 8 (wr ((h4 76 8) + 1))) fun h5 =>
              rec h5
            else none
          else none
        else none) n
theorem f_X5_readsNumber_L8_s (x1 : Int) (x2 : Int) (n : Nat)  (h : Hp) : f_X5_readsNumber_L8 x1 x2 (n + 1)  h =
    bd (f_X5_isDigit  h) fun r3 h3 =>
    if r3 = 0 then
      if (h3 76 8) ≤ x2 then
        some (0, h3)
      else
        some (1, h3)
    else
      if (wr (x2 + 2)) ≤ (h3 76 8) then
        if (h3 76 8) ≤ x2 then
          some (0, h3)
        else
          some (1, h3)
      else
        if inb x1 4 then
          if inb (h3 76 8) 60 then
            if inb x1 4 then
              lt (hup h3 83 (Int.toNat x1) (wr ((wr ((wr (10 * (h3 83 (Int.toNat x1)))) + (h3 78 (Int.toNat (h3 76 8))))) - 48))) fun h4 =>
              lt (hup h4 76 8 (wr ((h4 76 8) + 1))) fun h5 =>
              f_X5_readsNumber_L8 x1 x2 n h5
            else none
          else none
        else none := rfl
noncomputable def f_X5_readsNumber (x1 : Int) (h : Hp) : Option (Int × Hp) :=
  if inb x1 4 then
    lt (hup h 83 (Int.toNat x1) 0) fun h1 =>
    lv (h1 76 8) fun y2 =>
    (f_X5_readsNumber_L8 x1 y2
       fu  h1)
  else none
noncomputable def f_X5_takes_J15 (s0 : Int) (h : Hp) : Option (Int × Hp) :=
  if s0 = 0 then
    lt (hup h 76 8 (wr ((h 76 8) + 0))) fun h1 =>
    if isB s0 then some (s0, h1) else none
  else
    lt (hup h 76 8 (wr ((h 76 8) + 1))) fun h2 =>
    if isB s0 then some (s0, h2) else none
noncomputable def f_X5_takes_J14  (h : Hp) : Option (Int × Hp) :=
  f_X5_takes_J15 0 h
noncomputable def f_X5_takes (x1 : Int) (h : Hp) : Option (Int × Hp) :=
  if (h 76 3) ≤ (h 76 8) then
    f_X5_takes_J14  h
  else
    if inb (h 76 8) 60 then
      if ¬ (h 78 (Int.toNat (h 76 8))) = x1 then
        f_X5_takes_J14  h
      else
        f_X5_takes_J15 1 h
    else none
noncomputable def f_X5_readsValue (x1 : Int) (x2 : Int) (h : Hp) : Option (Int × Hp) :=
  if ¬ x2 = 0 then
    bd (f_X5_readsNumber x1 h) fun r1 h1 =>
    if isB r1 then some (r1, h1) else none
  else
    bd (f_X5_takes 45 h) fun r2 h2 =>
    if r2 = 0 then
      bd (f_X5_readsNumber x1 h2) fun r3 h3 =>
      if isB r3 then some (r3, h3) else none
    else
      if inb x1 4 then
        lt (hup h2 83 (Int.toNat x1) (-1)) fun h4 =>
        some (1, h4)
      else none
noncomputable def f_X5_readsRow_L7 (x1 : Int) (x2 : Int) (n : Nat) : Int → Int → Hp → Option (Int × Hp) :=
  Nat.rec (motive := fun _ => Int → Int → Hp → Option (Int × Hp)) (fun _ _ _ => none) (fun _ rec x3 x4 h =>
    if x1 ≤ x4 then
      if isB x3 then some (x3, h) else none
    else
      if x3 = 0 then
        if isB x3 then some (x3, h) else none
      else
        bd (f_X5_takes 44 h) fun r2 h2 =>
        if r2 = 0 then
          rec 0 (wr (x4 + 1)) h2
        else
          bd (f_X5_readsValue x4 x2 h2) fun r3 h3 =>
          if r3 = 0 then
            rec 0 (wr (x4 + 1)) h3
          else
            rec 1 (wr (x4 + 1)) h3) n
theorem f_X5_readsRow_L7_s (x1 : Int) (x2 : Int) (n : Nat) (x3 : Int) (x4 : Int) (h : Hp) : f_X5_readsRow_L7 x1 x2 (n + 1) x3 x4 h =
    if x1 ≤ x4 then
      if isB x3 then some (x3, h) else none
    else
      if x3 = 0 then
        if isB x3 then some (x3, h) else none
      else
        bd (f_X5_takes 44 h) fun r2 h2 =>
        if r2 = 0 then
          f_X5_readsRow_L7 x1 x2 n 0 (wr (x4 + 1)) h2
        else
          bd (f_X5_readsValue x4 x2 h2) fun r3 h3 =>
          if r3 = 0 then
            f_X5_readsRow_L7 x1 x2 n 0 (wr (x4 + 1)) h3
          else
            f_X5_readsRow_L7 x1 x2 n 1 (wr (x4 + 1)) h3 := rfl
noncomputable def f_X5_readsRow (x1 : Int) (x2 : Int) (h : Hp) : Option (Int × Hp) :=
  bd (f_X5_readsValue 0 x2 h) fun r1 h1 =>
  (f_X5_readsRow_L7 x1 x2
     fu r1 1 h1)
noncomputable def f_X5_takesWord_L4 (x1 : Int64) (n : Nat) : Int → Int → Hp → Option (Int × Hp) :=
  Nat.rec (motive := fun _ => Int → Int → Hp → Option (Int × Hp)) (fun _ _ _ => none) (fun _ rec x3 x4 h =>
    if x4 < 0 then
      if isB x3 then some (x3, h) else none
    else
      if x3 = 0 then
        if isB x3 then some (x3, h) else none
      else
        lv (Int64.toInt32 ((x1 >>> ((Int32.ofInt x4).toInt64 &&& 63)) &&& 255)).toInt fun y1 =>
        if y1 = 0 then
          rec 1 (wr (x4 + (-8))) h
        else
          bd (f_X5_takes y1 h) fun r2 h2 =>
          if r2 = 0 then
            rec 0 (wr (x4 + (-8))) h2
          else
            rec 1 (wr (x4 + (-8))) h2) n
theorem f_X5_takesWord_L4_s (x1 : Int64) (n : Nat) (x3 : Int) (x4 : Int) (h : Hp) : f_X5_takesWord_L4 x1 (n + 1) x3 x4 h =
    if x4 < 0 then
      if isB x3 then some (x3, h) else none
    else
      if x3 = 0 then
        if isB x3 then some (x3, h) else none
      else
        lv (Int64.toInt32 ((x1 >>> ((Int32.ofInt x4).toInt64 &&& 63)) &&& 255)).toInt fun y1 =>
        if y1 = 0 then
          f_X5_takesWord_L4 x1 n 1 (wr (x4 + (-8))) h
        else
          bd (f_X5_takes y1 h) fun r2 h2 =>
          if r2 = 0 then
            f_X5_takesWord_L4 x1 n 0 (wr (x4 + (-8))) h2
          else
            f_X5_takesWord_L4 x1 n 1 (wr (x4 + (-8))) h2 := rfl
noncomputable def f_X5_takesWord (x1 : Int64) (h : Hp) : Option (Int × Hp) :=
  (f_X5_takesWord_L4 x1
     fu 1 40 h)
noncomputable def f_X5_readsOrder_J13 (s1 : Int) (h : Hp) : Option (Int × Hp) :=
  lt (hup h 76 9 s1) fun h1 =>
  if (h1 76 9) = 99 then
    bd (f_X5_takesWord 109317141916960 h1) fun r2 h2 =>
    if r2 = 0 then
      some (0, h2)
    else
      bd (f_X5_readsRow 4 0 h2) fun r3 h3 =>
      if r3 = 0 then
        some (0, h3)
      else
        bd (f_X5_takes 59 h3) fun r4 h4 =>
        if r4 = 0 then
          some (0, h4)
        else
          some (1, h4)
  else
    if (h1 76 9) = 102 then
      bd (f_X5_takesWord 439855506464 h1) fun r6 h6 =>
      if r6 = 0 then
        some (0, h6)
      else
        bd (f_X5_readsRow 4 1 h6) fun r7 h7 =>
        if r7 = 0 then
          some (0, h7)
        else
          bd (f_X5_takes 59 h7) fun r8 h8 =>
          if r8 = 0 then
            some (0, h8)
          else
            some (1, h8)
    else
      if (h1 76 9) = 104 then
        bd (f_X5_takesWord 1751215716 h1) fun r10 h10 =>
        if r10 = 0 then
          some (0, h10)
        else
          bd (f_X5_takes 59 h10) fun r11 h11 =>
          if r11 = 0 then
            some (0, h11)
          else
            some (1, h11)
      else
        if (h1 76 9) = 116 then
          bd (f_X5_takesWord 499917810720 h1) fun r13 h13 =>
          if r13 = 0 then
            some (0, h13)
          else
            bd (f_X5_readsRow 3 1 h13) fun r14 h14 =>
            if r14 = 0 then
              some (0, h14)
            else
              bd (f_X5_takes 59 h14) fun r15 h15 =>
              if r15 = 0 then
                some (0, h15)
              else
                some (1, h15)
        else
          if (h1 76 9) = 119 then
            bd (f_X5_takesWord 512802253600 h1) fun r17 h17 =>
            if r17 = 0 then
              some (0, h17)
            else
              bd (f_X5_readsRow 1 1 h17) fun r18 h18 =>
              if r18 = 0 then
                some (0, h18)
              else
                bd (f_X5_takes 59 h18) fun r19 h19 =>
                if r19 = 0 then
                  some (0, h19)
                else
                  some (1, h19)
          else
            some (0, h1)
noncomputable def f_X5_readsOrder  (h : Hp) : Option (Int × Hp) :=
  if (h 76 3) ≤ (h 76 8) then
    f_X5_readsOrder_J13 0 h
  else
    if inb (h 76 8) 60 then
      f_X5_readsOrder_J13 (h 78 (Int.toNat (h 76 8))) h
    else none
noncomputable def f_X5_looks_J57 (c12 : Int → Hp → Option (Int × Hp)) (x1 : Int) (s1 : Int) (h : Hp) : Option (Int × Hp) :=
  lt (hup h 76 13 s1) fun h8 =>
  if ¬ (h8 76 12) = 0 then
    lv (wr (x1 + 0)) fun y9 =>
    c12 y9 h8
  else
    lv (wr (x1 + 1)) fun y10 =>
    c12 y10 h8
noncomputable def f_X5_looks_J44 (c12 : Int → Hp → Option (Int × Hp)) (x1 : Int) (x2 : Int) (x3 : Int) (x4 : Int) (s1 : Int) (h : Hp) : Option (Int × Hp) :=
  lt (hup h 76 12 s1) fun h6 =>
  lt (hup h6 76 11 x2) fun h7 =>
  if x3 = 0 then
    f_X5_looks_J57 c12 x1 (wr ((h7 76 8) - x2)) h7
  else
    f_X5_looks_J57 c12 x1 x4 h7
noncomputable def f_X5_looks_J33 (c12 : Int → Hp → Option (Int × Hp)) (x1 : Int) (x2 : Int) (x3 : Int) (s0 : Int) (h : Hp) : Option (Int × Hp) :=
  if ¬ x3 = 0 then
    if 0 ≤ s0 then
      f_X5_looks_J44 c12 x1 x2 x3 s0 0 h
    else
      f_X5_looks_J44 c12 x1 x2 x3 s0 2 h
  else
    f_X5_looks_J44 c12 x1 x2 x3 s0 1 h
noncomputable def f_X5_looks_L12  (n : Nat) : Int → Hp → Option (Int × Hp) :=
  Nat.rec (motive := fun _ => Int → Hp → Option (Int × Hp)) (fun _ _ => none) (fun _ rec x1 h =>
    if ¬ (h 76 12) = 0 then
      some (x1, h)
    else
      if (h 76 3) ≤ (h 76 8) then
        some (x1, h)
      else
        lv (h 76 8) fun y4 =>
        bd (f_X5_readsOrder  h) fun r5 h5 =>
        if r5 = 0 then
          f_X5_looks_J33 rec x1 y4 r5 0 h5
        else
          bd (f_X5_does 1140 h5) fun r11 h11 =>
          f_X5_looks_J33 rec x1 y4 r5 r11 h11) n
theorem f_X5_looks_L12_s  (n : Nat) (x1 : Int) (h : Hp) : f_X5_looks_L12  (n + 1) x1 h =
    if ¬ (h 76 12) = 0 then
      some (x1, h)
    else
      if (h 76 3) ≤ (h 76 8) then
        some (x1, h)
      else
        lv (h 76 8) fun y4 =>
        bd (f_X5_readsOrder  h) fun r5 h5 =>
        if r5 = 0 then
          f_X5_looks_J33 (f_X5_looks_L12  n) x1 y4 r5 0 h5
        else
          bd (f_X5_does 1140 h5) fun r11 h11 =>
          f_X5_looks_J33 (f_X5_looks_L12  n) x1 y4 r5 r11 h11 := rfl
noncomputable def f_X5_looks  (h : Hp) : Option (Int × Hp) :=
  bd (f_X5_copies 0 6 h) fun _ h1 =>
  lt (hup h1 76 8 0) fun h2 =>
  lt (hup h2 76 12 0) fun h3 =>
  (f_X5_looks_L12 
     fu 0 h3)
noncomputable def f_X5_fault (x1 : Int) (h : Hp) : Option (Int × Hp) :=
  bd (f_X5_in x1 0 2 h) fun r1 h1 =>
  if ¬ r1 = 0 then
    bd (f_X5_looks  h1) fun r2 h2 =>
    if ¬ (h2 76 12) = 0 then
      if ¬ x1 = 0 then
        if ¬ x1 = 1 then
          some ((h2 76 13), h2)
        else
          some ((h2 76 12), h2)
      else
        some ((h2 76 11), h2)
    else
      some ((-1000004), h2)
  else
    some ((-1000001), h1)
noncomputable def f_X5_find (x1 : Int) (x2 : Int) (x3 : Int) (x4 : Int) (h : Hp) : Option (Int × Hp) :=
  bd (f_X5_tried  h) fun r1 h1 =>
  bd (f_X5_finds r1 x1 x2 x3 x4 h1) fun r2 h2 =>
  bd (f_X5_done r2 h2) fun r3 h3 =>
  some (r3, h3)
noncomputable def f_X5_hand  (h : Hp) : Option (Int × Hp) :=
  bd (f_X5_tried  h) fun r1 h1 =>
  bd (f_X5_handsOut r1 h1) fun r2 h2 =>
  bd (f_X5_done r2 h2) fun r3 h3 =>
  some (r3, h3)
noncomputable def f_X5_having (x1 : Int) (x2 : Int) (h : Hp) : Option (Int × Hp) :=
  bd (f_X5_isDetail x1 x2 h) fun r1 h1 =>
  if r1 = 0 then
    some ((-1000001), h1)
  else
    bd (f_X5_many 0 x1 x2 h1) fun r2 h2 =>
    some (r2, h2)
noncomputable def f_X5_ifTold (x1 : Int) (x2 : Int) (x3 : Int) (h : Hp) : Option (Int × Hp) :=
  bd (f_X5_tried  h) fun r1 h1 =>
  bd (f_X5_tells r1 x1 x2 x3 h1) fun r2 h2 =>
  if ¬ r2 = (-1000001) then
    bd (f_X5_matchOf r1 x1 h2) fun r3 h3 =>
    some (r3, h3)
  else
    some ((-1000001), h2)
noncomputable def f_X5_ifWeeks (x1 : Int) (x2 : Int) (h : Hp) : Option (Int × Hp) :=
  bd (f_X5_in x1 1 20 h) fun r1 h1 =>
  if r1 = 0 then
    some ((-1000001), h1)
  else
    bd (f_X5_in x2 0 2 h1) fun r2 h2 =>
    if ¬ r2 = 0 then
      bd (f_X5_tried  h2) fun r3 h3 =>
      bd (f_X5_goBy r3 x1 h3) fun r4 h4 =>
      if ¬ x2 = 0 then
        if ¬ x2 = 1 then
          bd (f_X5_matches r3 h4) fun r5 h5 =>
          some (r5, h5)
        else
          if inb (wr (r3 + 12)) 1330 then
            if inb 12 1330 then
              some ((wr ((h4 77 (Int.toNat (wr (r3 + 12)))) - (h4 77 (Int.toNat 12)))), h4)
            else none
          else none
      else
        some (r4, h4)
    else
      some ((-1000001), h2)
noncomputable def f_X5_isSetting (x0 : Int) (x1 : Int) (h : Hp) : Option (Int × Hp) :=
  if x0 = 0 then
    bd (f_X5_in x1 0 3 h) fun r1 h1 =>
    if isB r1 then some (r1, h1) else none
  else
    if x0 = 1 then
      bd (f_X5_in x1 0 20 h) fun r3 h3 =>
      if isB r3 then some (r3, h3) else none
    else
      if x0 = 2 then
        bd (f_X5_in x1 0 20 h) fun r5 h5 =>
        if isB r5 then some (r5, h5) else none
      else
        if x0 = 3 then
          bd (f_X5_in x1 1 48 h) fun r7 h7 =>
          if isB r7 then some (r7, h7) else none
        else
          if x0 = 4 then
            bd (f_X5_in x1 0 9 h) fun r9 h9 =>
            if isB r9 then some (r9, h9) else none
          else
            if x0 = 5 then
              bd (f_X5_in x1 1 20 h) fun r11 h11 =>
              if isB r11 then some (r11, h11) else none
            else
              if x0 = 6 then
                bd (f_X5_in x1 1 20 h) fun r13 h13 =>
                if isB r13 then some (r13, h13) else none
              else
                some (0, h)
noncomputable def f_X5_isUmbrella (x1 : Int) (h : Hp) : Option (Int × Hp) :=
  if inb 15 1330 then
    bd (f_X5_in x1 0 (wr ((h 77 (Int.toNat 15)) - 1)) h) fun r1 h1 =>
    if isB r1 then some (r1, h1) else none
  else none
noncomputable def f_X5_mateOf (x1 : Int) (x2 : Int) (h : Hp) : Option (Int × Hp) :=
  bd (f_X5_matches 0 h) fun r1 h1 =>
  if inb x1 12 then
    lv (h1 79 (Int.toNat x1)) fun y2 =>
    if ¬ y2 = (-1) then
      if x2 = 0 then
        bd (f_X5_pointsOf 0 x1 y2 h1) fun r3 h3 =>
        some (r3, h3)
      else
        some (y2, h1)
    else
      some ((-1000004), h1)
  else none
noncomputable def f_X5_mean_L8 (x1 : Int) (c35 : Int → Hp → Option (Int × Hp)) (n : Nat) : Int → Int → Hp → Option (Int × Hp) :=
  Nat.rec (motive := fun _ => Int → Int → Hp → Option (Int × Hp)) (fun _ _ _ => none) (fun _ rec x2 x3 h =>
    if 12 ≤ x3 then
      c35 x2 h
    else
      if inb x3 12 then
        if ¬ (h 79 (Int.toNat x3)) = (-1) then
          if inb x3 12 then
            if inb (wr ((wr (12 * x3)) + (h 79 (Int.toNat x3)))) 144 then
              lv (wr (x2 + (h 81 (Int.toNat (wr ((wr (12 * x3)) + (h 79 (Int.toNat x3)))))))) fun y2 =>
              rec y2 (wr (x3 + 1)) h
            else none
          else none
        else
          lv (wr (x2 + 0)) fun y3 =>
          rec y3 (wr (x3 + 1)) h
      else none) n
theorem f_X5_mean_L8_s (x1 : Int) (c35 : Int → Hp → Option (Int × Hp)) (n : Nat) (x2 : Int) (x3 : Int) (h : Hp) : f_X5_mean_L8 x1 c35 (n + 1) x2 x3 h =
    if 12 ≤ x3 then
      c35 x2 h
    else
      if inb x3 12 then
        if ¬ (h 79 (Int.toNat x3)) = (-1) then
          if inb x3 12 then
            if inb (wr ((wr (12 * x3)) + (h 79 (Int.toNat x3)))) 144 then
              lv (wr (x2 + (h 81 (Int.toNat (wr ((wr (12 * x3)) + (h 79 (Int.toNat x3)))))))) fun y2 =>
              f_X5_mean_L8 x1 c35 n y2 (wr (x3 + 1)) h
            else none
          else none
        else
          lv (wr (x2 + 0)) fun y3 =>
          f_X5_mean_L8 x1 c35 n y3 (wr (x3 + 1)) h
      else none := rfl
noncomputable def f_X5_mean  (h : Hp) : Option (Int × Hp) :=
  bd (f_X5_matches 0 h) fun r1 h1 =>
  (f_X5_mean_L8 r1
    (fun y4 h5 =>
      if ¬ r1 = 0 then
        if nN (FP.fdiv (FP.i2f (Int32.ofInt y4)) (FP.i2f (Int32.ofInt r1))) then
          bd (f_J_floatToIntBits (FP.fdiv (FP.i2f (Int32.ofInt y4)) (FP.i2f (Int32.ofInt r1))) h5) fun r6 h6 =>
          some (r6, h6)
        else none
      else
        some ((-1000004), h5))
     fu 0 0 h1)
noncomputable def f_X5_oddness_L4 (x1 : Int) (n : Nat) : Int → Int → Hp → Option (Int × Hp) :=
  Nat.rec (motive := fun _ => Int → Int → Hp → Option (Int × Hp)) (fun _ _ _ => none) (fun _ rec x2 x3 h =>
    if 4 ≤ x3 then
      some (x2, h)
    else
      bd (f_X5_umbrellaAt 0 x1 h) fun r1 h1 =>
      if inb (wr (r1 + x3)) 1330 then
        bd (f_X5_many 0 x3 (h1 77 (Int.toNat (wr (r1 + x3)))) h1) fun r2 h2 =>
        lv (wr (x2 + (wr (13 - r2)))) fun y3 =>
        rec y3 (wr (x3 + 1)) h2
      else none) n
theorem f_X5_oddness_L4_s (x1 : Int) (n : Nat) (x2 : Int) (x3 : Int) (h : Hp) : f_X5_oddness_L4 x1 (n + 1) x2 x3 h =
    if 4 ≤ x3 then
      some (x2, h)
    else
      bd (f_X5_umbrellaAt 0 x1 h) fun r1 h1 =>
      if inb (wr (r1 + x3)) 1330 then
        bd (f_X5_many 0 x3 (h1 77 (Int.toNat (wr (r1 + x3)))) h1) fun r2 h2 =>
        lv (wr (x2 + (wr (13 - r2)))) fun y3 =>
        f_X5_oddness_L4 x1 n y3 (wr (x3 + 1)) h2
      else none := rfl
noncomputable def f_X5_oddness (x1 : Int) (h : Hp) : Option (Int × Hp) :=
  (f_X5_oddness_L4 x1
     fu 0 0 h)
noncomputable def f_X5_oddest_L4  (n : Nat) : Int → Int → Hp → Option (Int × Hp) :=
  Nat.rec (motive := fun _ => Int → Int → Hp → Option (Int × Hp)) (fun _ _ _ => none) (fun _ rec x1 x2 h =>
    if inb 15 1330 then
      if (h 77 (Int.toNat 15)) ≤ x2 then
        some (x1, h)
      else
        if x1 = (-1000004) then
          rec x2 (wr (x2 + 1)) h
        else
          bd (f_X5_oddness x2 h) fun r1 h1 =>
          bd (f_X5_oddness x1 h1) fun r2 h2 =>
          if r1 ≤ r2 then
            rec x1 (wr (x2 + 1)) h2
          else
            rec x2 (wr (x2 + 1)) h2
    else none) n
theorem f_X5_oddest_L4_s  (n : Nat) (x1 : Int) (x2 : Int) (h : Hp) : f_X5_oddest_L4  (n + 1) x1 x2 h =
    if inb 15 1330 then
      if (h 77 (Int.toNat 15)) ≤ x2 then
        some (x1, h)
      else
        if x1 = (-1000004) then
          f_X5_oddest_L4  n x2 (wr (x2 + 1)) h
        else
          bd (f_X5_oddness x2 h) fun r1 h1 =>
          bd (f_X5_oddness x1 h1) fun r2 h2 =>
          if r1 ≤ r2 then
            f_X5_oddest_L4  n x1 (wr (x2 + 1)) h2
          else
            f_X5_oddest_L4  n x2 (wr (x2 + 1)) h2
    else none := rfl
noncomputable def f_X5_oddest  (h : Hp) : Option (Int × Hp) :=
  (f_X5_oddest_L4 
     fu (-1000004) 0 h)
noncomputable def f_X5_play  (h : Hp) : Option (Int × Hp) :=
  bd (f_X5_looks  h) fun r1 h1 =>
  if (h1 76 12) ≤ 0 then
    bd (f_X5_records  h1) fun _ h2 =>
    bd (f_X5_copies 6 0 h2) fun _ h3 =>
    some (r1, h3)
  else
    some ((-1000002), h1)
noncomputable def f_X5_points (x1 : Int) (x2 : Int) (h : Hp) : Option (Int × Hp) :=
  bd (f_X5_isUmbrella x1 h) fun r1 h1 =>
  if r1 = 0 then
    some ((-1000001), h1)
  else
    bd (f_X5_isClaim 0 x2 h1) fun r2 h2 =>
    if r2 = 0 then
      some ((-1000001), h2)
    else
      bd (f_X5_pointsOf 0 x1 x2 h2) fun r3 h3 =>
      some ((wr (1000 + r3)), h3)
noncomputable def f_X5_set (x1 : Int) (x2 : Int) (h : Hp) : Option (Int × Hp) :=
  bd (f_X5_isSetting x1 x2 h) fun r1 h1 =>
  if ¬ r1 = 0 then
    bd (f_X5_records  h1) fun _ h2 =>
    if inb (wr (1 + x1)) 1330 then
      lv (h2 77 (Int.toNat (wr (1 + x1)))) fun y3 =>
      if inb (wr (1 + x1)) 1330 then
        lt (hup h2 77 (Int.toNat (wr (1 + x1))) x2) fun h4 =>
        some (y3, h4)
      else none
    else none
  else
    some ((-1000001), h1)
noncomputable def f_X5_tell (x1 : Int) (x2 : Int) (x3 : Int) (h : Hp) : Option (Int × Hp) :=
  bd (f_X5_tried  h) fun r1 h1 =>
  bd (f_X5_tells r1 x1 x2 x3 h1) fun r2 h2 =>
  bd (f_X5_done r2 h2) fun r3 h3 =>
  some (r3, h3)
noncomputable def f_X5_type (x1 : Int) (h : Hp) : Option (Int × Hp) :=
  bd (f_X5_in x1 32 126 h) fun r1 h1 =>
  if ¬ r1 = 0 then
    if ¬ (h1 76 3) = 60 then
      if inb (h1 76 3) 60 then
        lt (hup h1 78 (Int.toNat (h1 76 3)) x1) fun h2 =>
        lt (hup h2 76 3 (wr ((h2 76 3) + 1))) fun h3 =>
        some ((h3 76 3), h3)
      else none
    else
      some ((-1000003), h1)
  else
    some ((-1000001), h1)
noncomputable def f_X5_umbrella (x1 : Int) (x2 : Int) (h : Hp) : Option (Int × Hp) :=
  bd (f_X5_isUmbrella x1 h) fun r1 h1 =>
  if r1 = 0 then
    some ((-1000001), h1)
  else
    bd (f_X5_in x2 0 8 h1) fun r2 h2 =>
    if ¬ r2 = 0 then
      if x2 = 5 then
        if ¬ x2 = 5 then
          bd (f_X5_mateOf x1 0 h2) fun r3 h3 =>
          some (r3, h3)
        else
          bd (f_X5_mateOf x1 1 h2) fun r4 h4 =>
          some (r4, h4)
      else
        if x2 = 6 then
          if ¬ x2 = 5 then
            bd (f_X5_mateOf x1 0 h2) fun r6 h6 =>
            some (r6, h6)
          else
            bd (f_X5_mateOf x1 1 h2) fun r7 h7 =>
            some (r7, h7)
        else
          if x2 = 7 then
            bd (f_X5_suiting x1 (-1) h2) fun r9 h9 =>
            some (r9, h9)
          else
            if x2 = 8 then
              bd (f_X5_oddness x1 h2) fun r11 h11 =>
              some (r11, h11)
            else
              bd (f_X5_umbrellaAt 0 x1 h2) fun r13 h13 =>
              if inb (wr (r13 + x2)) 1330 then
                some ((h13 77 (Int.toNat (wr (r13 + x2)))), h13)
              else none
    else
      some ((-1000001), h2)
noncomputable def f_X5_undo  (h : Hp) : Option (Int × Hp) :=
  if ¬ (h 76 1) = 0 then
    bd (f_X5_copies (h 76 1) 0 h) fun _ h1 =>
    lt (hup h1 76 1 (wr ((h1 76 1) - 1))) fun h2 =>
    some ((h2 76 1), h2)
  else
    some ((-1000002), h)
noncomputable def f_X5_weeks (x1 : Int) (h : Hp) : Option (Int × Hp) :=
  bd (f_X5_tried  h) fun r1 h1 =>
  bd (f_X5_weeksIn r1 x1 h1) fun r2 h2 =>
  bd (f_X5_done r2 h2) fun r3 h3 =>
  some (r3, h3)
noncomputable def f_X5_why_J80  (h : Hp) : Option (Int × Hp) :=
  if (1 : Int) = 0 then
    some (4, h)
  else
    some (3, h)
noncomputable def f_X5_why (x1 : Int) (x2 : Int) (h : Hp) : Option (Int × Hp) :=
  bd (f_X5_isUmbrella x1 h) fun r1 h1 =>
  if r1 = 0 then
    some ((-1000001), h1)
  else
    bd (f_X5_isClaim 0 x2 h1) fun r2 h2 =>
    if ¬ r2 = 0 then
      bd (f_X5_matches 0 h2) fun r3 h3 =>
      if inb x1 12 then
        if ¬ (h3 79 (Int.toNat x1)) = x2 then
          bd (f_X5_misses 0 x1 x2 h3) fun r4 h4 =>
          if inb 1 1330 then
            if r4 ≤ (h4 77 (Int.toNat 1)) then
              bd (f_X5_pointsOf 0 x1 x2 h4) fun r5 h5 =>
              if inb 4 1330 then
                if (h5 77 (Int.toNat 4)) ≤ r5 then
                  if inb x1 12 then
                    lv (h5 79 (Int.toNat x1)) fun y6 =>
                    if y6 = (-1) then
                      if (0 : Int) = 0 then
                        some (4, h5)
                      else
                        some (3, h5)
                    else
                      if inb (wr ((wr (12 * x1)) + y6)) 144 then
                        if r5 < (h5 81 (Int.toNat (wr ((wr (12 * x1)) + y6)))) then
                          f_X5_why_J80  h5
                        else
                          if inb (wr ((wr (12 * x1)) + y6)) 144 then
                            if ¬ (h5 81 (Int.toNat (wr ((wr (12 * x1)) + y6)))) = r5 then
                              if (0 : Int) = 0 then
                                some (4, h5)
                              else
                                some (3, h5)
                            else
                              if x2 ≤ y6 then
                                if (0 : Int) = 0 then
                                  some (4, h5)
                                else
                                  some (3, h5)
                              else
                                f_X5_why_J80  h5
                          else none
                      else none
                  else none
                else
                  some (2, h5)
              else none
            else
              some (1, h4)
          else none
        else
          some (0, h3)
      else none
    else
      some ((-1000001), h2)

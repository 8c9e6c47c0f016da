/-! printed by wip/gen/gen26.py: each method as a function over the heap of numbers -/
theorem fu_ex : ∃ n : Nat, 4999 < n := ⟨5000, by omega⟩
/-- enough for every loop; hidden behind a choice, so that nothing unrolls it -/
noncomputable def fu : Nat := Classical.choose fu_ex
theorem fu_gt : 4999 < fu := Classical.choose_spec fu_ex
noncomputable def f_J_min (x0 : Int) (x1 : Int) (h : Hp) : Option (Int × Hp) :=
  if x1 < x0 then
    some (x1, h)
  else
    some (x0, h)
noncomputable def f_X2_become (x0 : Nat) (x1 : Nat) (h : Hp) : Option (Int × Hp) :=
  bd (some (0, hcpy h (x1 + 1) (x0 + 1) 72)) fun _ h1 =>
  lt (hup h1 x0 1 (h1 x1 1)) fun h2 =>
  some (0, h2)
noncomputable def f_X1_become (x0 : Nat) (x1 : Nat) (h : Hp) : Option (Int × Hp) :=
  bd (f_X2_become (x0 + 1) (x1 + 1) h) fun _ h1 =>
  bd (f_X2_become (x0 + 3) (x1 + 3) h1) fun _ h2 =>
  bd (f_X2_become (x0 + 5) (x1 + 5) h2) fun _ h3 =>
  bd (some (0, hcpy h3 (x1 + 7) (x0 + 7) 7)) fun _ h4 =>
  bd (some (0, hcpy h4 (x1 + 8) (x0 + 8) 12)) fun _ h5 =>
  some (0, h5)
noncomputable def f_X4_keepState  (h : Hp) : Option (Int × Hp) :=
  if (h 0 4) < 0 then
    some (0, h)
  else
    if ((5 : Nat) : Int) ≤ (h 0 4) then
      some (0, h)
    else
      if okA h 27 (h 0 4) 5 then
        if okA h 27 (h 0 4) 5 then
          bd (f_X1_become (Int.toNat (h 27 (Int.toNat (h 0 4)))) 1 h) fun _ h3 =>
          some (0, h3)
        else none
      else none
noncomputable def f_X4_forgetOldestState_L7 (y2 : Nat) (c24 : Hp → Option (Int × Hp)) (n : Nat) : Int → Hp → Option (Int × Hp) :=
  Nat.rec (motive := fun _ => Int → Hp → Option (Int × Hp)) (fun _ _ => none) (fun _ rec x2 h =>
    if ((5 : Nat) : Int) ≤ x2 then
      c24 h
    else
      if okA h 27 x2 5 then
        if inb (wr (x2 - 1)) 5 then
          lt (hup h 27 (Int.toNat (wr (x2 - 1))) (((Int.toNat (h 27 (Int.toNat x2))) : Nat) : Int)) fun h4 =>
          rec (wr (x2 + 1)) h4
        else none
      else none) n
theorem f_X4_forgetOldestState_L7_s (y2 : Nat) (c24 : Hp → Option (Int × Hp)) (n : Nat) (x2 : Int) (h : Hp) : f_X4_forgetOldestState_L7 y2 c24 (n + 1) x2 h =
    if ((5 : Nat) : Int) ≤ x2 then
      c24 h
    else
      if okA h 27 x2 5 then
        if inb (wr (x2 - 1)) 5 then
          lt (hup h 27 (Int.toNat (wr (x2 - 1))) (((Int.toNat (h 27 (Int.toNat x2))) : Nat) : Int)) fun h4 =>
          f_X4_forgetOldestState_L7 y2 c24 n (wr (x2 + 1)) h4
        else none
      else none := rfl
noncomputable def f_X4_forgetOldestState  (h : Hp) : Option (Int × Hp) :=
  if okA h 27 0 5 then
    lr (Int.toNat (h 27 (Int.toNat 0))) fun y2 =>
    (f_X4_forgetOldestState_L7 y2
      (fun h5 =>
        if inb (wr (((5 : Nat) : Int) - 1)) 5 then
          lt (hup h5 27 (Int.toNat (wr (((5 : Nat) : Int) - 1))) ((y2 : Nat) : Int)) fun h6 =>
          lt (hup h6 0 4 (wr ((h6 0 4) - 1))) fun h7 =>
          some (0, h7)
        else none)
       fu 1 h)
  else none
noncomputable def f_X4_recorded (x1 : Int) (h : Hp) : Option (Int × Hp) :=
  if x1 < 0 then
    some (x1, h)
  else
    lt (hup h 0 4 (wr ((h 0 4) + 1))) fun h1 =>
    if (h1 0 4) ≤ 4 then
      some (x1, h1)
    else
      bd (f_X4_forgetOldestState  h1) fun _ h2 =>
      some (x1, h2)
noncomputable def f_X4_isValue (x0 : Int) (h : Hp) : Option (Int × Hp) :=
  if x0 < 0 then
    some (0, h)
  else
    if 10 ≤ x0 then
      some (0, h)
    else
      some (1, h)
noncomputable def f_X4_isValueOrNotTold (x0 : Int) (h : Hp) : Option (Int × Hp) :=
  if x0 = (-1) then
    some (1, h)
  else
    bd (f_X4_isValue x0 h) fun r1 h1 =>
    if r1 = 0 then
      some (0, h1)
    else
      some (1, h1)
noncomputable def f_X1_addTo (x0 : Nat) (x1 : Int) (x2 : Int) (h : Hp) : Option (Int × Hp) :=
  if x1 < 0 then
    some (0, h)
  else
    if ((12 : Nat) : Int) ≤ x1 then
      some (0, h)
    else
      if inb x1 12 then
        if inb x1 12 then
          lt (hup h (x0 + 8) (Int.toNat x1) (wr ((h (x0 + 8) (Int.toNat x1)) + x2))) fun h1 =>
          some (0, h1)
        else none
      else none
noncomputable def f_X2_append (x0 : Nat) (x1 : Int) (x2 : Int) (x3 : Int) (x4 : Int) (h : Hp) : Option (Int × Hp) :=
  lv (wr ((h x0 1) * 6)) fun y1 =>
  if y1 < 0 then
    some ((-1), h)
  else
    if (wr (y1 + 6)) ≤ ((72 : Nat) : Int) then
      if inb y1 72 then
        lt (hup h (x0 + 1) (Int.toNat y1) x1) fun h2 =>
        if inb (wr (y1 + 1)) 72 then
          lt (hup h2 (x0 + 1) (Int.toNat (wr (y1 + 1))) x2) fun h3 =>
          if inb (wr (y1 + 2)) 72 then
            lt (hup h3 (x0 + 1) (Int.toNat (wr (y1 + 2))) x3) fun h4 =>
            if inb (wr (y1 + 3)) 72 then
              lt (hup h4 (x0 + 1) (Int.toNat (wr (y1 + 3))) x4) fun h5 =>
              if inb (wr (y1 + 4)) 72 then
                lt (hup h5 (x0 + 1) (Int.toNat (wr (y1 + 4))) 0) fun h6 =>
                if inb (wr (y1 + 5)) 72 then
                  lt (hup h6 (x0 + 1) (Int.toNat (wr (y1 + 5))) 0) fun h7 =>
                  lt (hup h7 x0 1 (wr ((h7 x0 1) + 1))) fun h8 =>
                  some ((wr ((h8 x0 1) - 1)), h8)
                else none
              else none
            else none
          else none
        else none
      else none
    else
      some ((-1), h)
noncomputable def f_X1_takeClaim_J28 (x0 : Nat) (x1 : Int) (x2 : Int) (x3 : Int) (x4 : Int) (h : Hp) : Option (Int × Hp) :=
  if (h (x0 + 3) 1) < 12 then
    bd (f_X1_addTo x0 6 1 h) fun _ h5 =>
    bd (f_X2_append (x0 + 3) x1 x2 x3 x4 h5) fun r6 h6 =>
    some (r6, h6)
  else
    some ((-1000003), h)
noncomputable def f_X1_takeClaim (x0 : Nat) (x1 : Int) (x2 : Int) (x3 : Int) (x4 : Int) (h : Hp) : Option (Int × Hp) :=
  bd (f_X4_isValueOrNotTold x1 h) fun r1 h1 =>
  if r1 = 0 then
    some ((-1000001), h1)
  else
    bd (f_X4_isValueOrNotTold x2 h1) fun r2 h2 =>
    if r2 = 0 then
      some ((-1000001), h2)
    else
      bd (f_X4_isValueOrNotTold x3 h2) fun r3 h3 =>
      if r3 = 0 then
        some ((-1000001), h3)
      else
        bd (f_X4_isValueOrNotTold x4 h3) fun r4 h4 =>
        if ¬ r4 = 0 then
          if ¬ x1 = (-1) then
            f_X1_takeClaim_J28 x0 x1 x2 x3 x4 h4
          else
            if ¬ x2 = (-1) then
              f_X1_takeClaim_J28 x0 x1 x2 x3 x4 h4
            else
              if ¬ x3 = (-1) then
                f_X1_takeClaim_J28 x0 x1 x2 x3 x4 h4
              else
                if ¬ x4 = (-1) then
                  f_X1_takeClaim_J28 x0 x1 x2 x3 x4 h4
                else
                  some ((-1000002), h4)
        else
          some ((-1000001), h4)
noncomputable def f_X4_claim (x1 : Int) (x2 : Int) (x3 : Int) (x4 : Int) (h : Hp) : Option (Int × Hp) :=
  bd (f_X4_keepState  h) fun _ h1 =>
  bd (f_X1_takeClaim 1 x1 x2 x3 x4 h1) fun r2 h2 =>
  bd (f_X4_recorded r2 h2) fun r3 h3 =>
  some (r3, h3)
noncomputable def f_X2_has (x0 : Nat) (x1 : Int) (h : Hp) : Option (Int × Hp) :=
  if x1 < 0 then
    some (0, h)
  else
    if (h x0 1) ≤ x1 then
      some (0, h)
    else
      some (1, h)
noncomputable def f_X2_remove_L11 (x0 : Nat) (n : Nat) : Int → Hp → Option (Int × Hp) :=
  Nat.rec (motive := fun _ => Int → Hp → Option (Int × Hp)) (fun _ _ => none) (fun _ rec x2 h =>
    if ((72 : Nat) : Int) ≤ (wr (x2 + 6)) then
      lt (hup h x0 1 (wr ((h x0 1) - 1))) fun h2 =>
      some (0, h2)
    else
      if inb (wr (x2 + 6)) 72 then
        if inb x2 72 then
          lt (hup h (x0 + 1) (Int.toNat x2) (h (x0 + 1) (Int.toNat (wr (x2 + 6))))) fun h3 =>
          rec (wr (x2 + 1)) h3
        else none
      else none) n
theorem f_X2_remove_L11_s (x0 : Nat) (n : Nat) (x2 : Int) (h : Hp) : f_X2_remove_L11 x0 (n + 1) x2 h =
    if ((72 : Nat) : Int) ≤ (wr (x2 + 6)) then
      lt (hup h x0 1 (wr ((h x0 1) - 1))) fun h2 =>
      some (0, h2)
    else
      if inb (wr (x2 + 6)) 72 then
        if inb x2 72 then
          lt (hup h (x0 + 1) (Int.toNat x2) (h (x0 + 1) (Int.toNat (wr (x2 + 6))))) fun h3 =>
          f_X2_remove_L11 x0 n (wr (x2 + 1)) h3
        else none
      else none := rfl
noncomputable def f_X2_remove (x0 : Nat) (x1 : Int) (h : Hp) : Option (Int × Hp) :=
  if x1 < 0 then
    some (0, h)
  else
    if x1 < (h x0 1) then
      lv (wr (x1 * 6)) fun y1 =>
      (f_X2_remove_L11 x0
         fu y1 h)
    else
      some (0, h)
noncomputable def f_X1_dropClaim (x0 : Nat) (x1 : Int) (h : Hp) : Option (Int × Hp) :=
  bd (f_X2_has (x0 + 3) x1 h) fun r1 h1 =>
  if ¬ r1 = 0 then
    bd (f_X2_remove (x0 + 3) x1 h1) fun _ h2 =>
    bd (f_X1_addTo x0 11 1 h2) fun _ h3 =>
    some ((h3 (x0 + 3) 1), h3)
  else
    some ((-1000001), h1)
noncomputable def f_X4_drop (x1 : Int) (h : Hp) : Option (Int × Hp) :=
  bd (f_X4_keepState  h) fun _ h1 =>
  bd (f_X1_dropClaim 1 x1 h1) fun r2 h2 =>
  bd (f_X4_recorded r2 h2) fun r3 h3 =>
  some (r3, h3)
noncomputable def f_X1_takeUmbrella (x0 : Nat) (x1 : Int) (x2 : Int) (x3 : Int) (x4 : Int) (h : Hp) : Option (Int × Hp) :=
  bd (f_X4_isValue x1 h) fun r1 h1 =>
  if r1 = 0 then
    some ((-1000001), h1)
  else
    bd (f_X4_isValue x2 h1) fun r2 h2 =>
    if r2 = 0 then
      some ((-1000001), h2)
    else
      bd (f_X4_isValue x3 h2) fun r3 h3 =>
      if r3 = 0 then
        some ((-1000001), h3)
      else
        bd (f_X4_isValue x4 h3) fun r4 h4 =>
        if ¬ r4 = 0 then
          if (h4 (x0 + 1) 1) < 12 then
            bd (f_X1_addTo x0 5 1 h4) fun _ h5 =>
            bd (f_X2_append (x0 + 1) x1 x2 x3 x4 h5) fun r6 h6 =>
            some (r6, h6)
          else
            some ((-1000003), h4)
        else
          some ((-1000001), h4)
noncomputable def f_X4_find (x1 : Int) (x2 : Int) (x3 : Int) (x4 : Int) (h : Hp) : Option (Int × Hp) :=
  bd (f_X4_keepState  h) fun _ h1 =>
  bd (f_X1_takeUmbrella 1 x1 x2 x3 x4 h1) fun r2 h2 =>
  bd (f_X4_recorded r2 h2) fun r3 h3 =>
  some (r3, h3)
noncomputable def f_X0_aheadOf (x1 : Int) (x2 : Int) (h : Hp) : Option (Int × Hp) :=
  if x1 < 0 then
    some (x2, h)
  else
    if x1 < 144 then
      if x2 < 0 then
        some (x1, h)
      else
        if x2 < 144 then
          if inb x1 144 then
            if inb x2 144 then
              if (h 21 (Int.toNat x1)) = (h 21 (Int.toNat x2)) then
                bd (f_J_min x1 x2 h) fun r1 h1 =>
                some (r1, h1)
              else
                if inb x1 144 then
                  if inb x2 144 then
                    if (h 21 (Int.toNat x1)) ≤ (h 21 (Int.toNat x2)) then
                      some (x2, h)
                    else
                      some (x1, h)
                  else none
                else none
            else none
          else none
        else
          some (x1, h)
    else
      some (x2, h)
noncomputable def f_X0_claimMatched (x1 : Int) (h : Hp) : Option (Int × Hp) :=
  if x1 < 0 then
    some ((-1), h)
  else
    if 12 ≤ x1 then
      some ((-1), h)
    else
      if inb x1 12 then
        some ((h 25 (Int.toNat x1)), h)
      else none
noncomputable def f_X0_pairOf (x1 : Int) (x2 : Int) (h : Hp) : Option (Int × Hp) :=
  if x1 < 0 then
    some ((-1), h)
  else
    if (h 19 7) ≤ x1 then
      some ((-1), h)
    else
      if x2 < 0 then
        some ((-1), h)
      else
        if x2 < (h 19 8) then
          lv (wr ((wr (x1 * 12)) + x2)) fun y1 =>
          if y1 < 0 then
            some ((-1), h)
          else
            if 144 ≤ y1 then
              some ((-1), h)
            else
              some (y1, h)
        else
          some ((-1), h)
noncomputable def f_X0_suits (x1 : Int) (x2 : Int) (h : Hp) : Option (Int × Hp) :=
  bd (f_X0_pairOf x1 x2 h) fun r1 h1 =>
  if r1 < 0 then
    some (0, h1)
  else
    if 144 ≤ r1 then
      some (0, h1)
    else
      if inb r1 144 then
        if (h1 22 (Int.toNat r1)) = 0 then
          some (0, h1)
        else
          some (1, h1)
      else none
noncomputable def f_X0_umbrellaMatched (x1 : Int) (h : Hp) : Option (Int × Hp) :=
  if x1 < 0 then
    some ((-1), h)
  else
    if 12 ≤ x1 then
      some ((-1), h)
    else
      if inb x1 12 then
        some ((h 26 (Int.toNat x1)), h)
      else none
noncomputable def f_X0_bestFreePair_L16 (x2 : Int) (c40 : Int → Hp → Option (Int × Hp)) (n : Nat) : Int → Int → Hp → Option (Int × Hp) :=
  Nat.rec (motive := fun _ => Int → Int → Hp → Option (Int × Hp)) (fun _ _ _ => none) (fun _ rec x1 x3 h =>
    if (h 19 8) ≤ x3 then
      c40 x1 h
    else
      bd (f_X0_umbrellaMatched x3 h) fun r2 h2 =>
      if ¬ r2 = (-1) then
        rec x1 (wr (x3 + 1)) h2
      else
        bd (f_X0_suits x2 x3 h2) fun r3 h3 =>
        if r3 = 0 then
          rec x1 (wr (x3 + 1)) h3
        else
          bd (f_X0_pairOf x2 x3 h3) fun r4 h4 =>
          bd (f_X0_aheadOf r4 x1 h4) fun r5 h5 =>
          rec r5 (wr (x3 + 1)) h5) n
theorem f_X0_bestFreePair_L16_s (x2 : Int) (c40 : Int → Hp → Option (Int × Hp)) (n : Nat) (x1 : Int) (x3 : Int) (h : Hp) : f_X0_bestFreePair_L16 x2 c40 (n + 1) x1 x3 h =
    if (h 19 8) ≤ x3 then
      c40 x1 h
    else
      bd (f_X0_umbrellaMatched x3 h) fun r2 h2 =>
      if ¬ r2 = (-1) then
        f_X0_bestFreePair_L16 x2 c40 n x1 (wr (x3 + 1)) h2
      else
        bd (f_X0_suits x2 x3 h2) fun r3 h3 =>
        if r3 = 0 then
          f_X0_bestFreePair_L16 x2 c40 n x1 (wr (x3 + 1)) h3
        else
          bd (f_X0_pairOf x2 x3 h3) fun r4 h4 =>
          bd (f_X0_aheadOf r4 x1 h4) fun r5 h5 =>
          f_X0_bestFreePair_L16 x2 c40 n r5 (wr (x3 + 1)) h5 := rfl
noncomputable def f_X0_bestFreePair_L4  (n : Nat) : Int → Int → Hp → Option (Int × Hp) :=
  Nat.rec (motive := fun _ => Int → Int → Hp → Option (Int × Hp)) (fun _ _ _ => none) (fun _ rec x1 x2 h =>
    if (h 19 7) ≤ x2 then
      some (x1, h)
    else
      bd (f_X0_claimMatched x2 h) fun r1 h1 =>
      if r1 = (-1) then
        (f_X0_bestFreePair_L16 x2
          (fun y6 h7 =>
            rec y6 (wr (x2 + 1)) h7)
           fu x1 0 h1)
      else
        rec x1 (wr (x2 + 1)) h1) n
theorem f_X0_bestFreePair_L4_s  (n : Nat) (x1 : Int) (x2 : Int) (h : Hp) : f_X0_bestFreePair_L4  (n + 1) x1 x2 h =
    if (h 19 7) ≤ x2 then
      some (x1, h)
    else
      bd (f_X0_claimMatched x2 h) fun r1 h1 =>
      if r1 = (-1) then
        (f_X0_bestFreePair_L16 x2
          (fun y6 h7 =>
            f_X0_bestFreePair_L4  n y6 (wr (x2 + 1)) h7)
           fu x1 0 h1)
      else
        f_X0_bestFreePair_L4  n x1 (wr (x2 + 1)) h1 := rfl
noncomputable def f_X0_bestFreePair  (h : Hp) : Option (Int × Hp) :=
  (f_X0_bestFreePair_L4 
     fu (-1) 0 h)
noncomputable def f_X0_join (x1 : Int) (x2 : Int) (h : Hp) : Option (Int × Hp) :=
  if x1 < 0 then
    some (0, h)
  else
    if 12 ≤ x1 then
      some (0, h)
    else
      if x2 < 0 then
        some (0, h)
      else
        if 12 ≤ x2 then
          some (0, h)
        else
          if inb x1 12 then
            lt (hup h 25 (Int.toNat x1) x2) fun h1 =>
            if inb x2 12 then
              lt (hup h1 26 (Int.toNat x2) x1) fun h2 =>
              lt (hup h2 19 9 (wr ((h2 19 9) + 1))) fun h3 =>
              some (0, h3)
            else none
          else none
noncomputable def f_X0_matchNone_L2 (c14 : Hp → Option (Int × Hp)) (n : Nat) : Int → Hp → Option (Int × Hp) :=
  Nat.rec (motive := fun _ => Int → Hp → Option (Int × Hp)) (fun _ _ => none) (fun _ rec x1 h =>
    if ((12 : Nat) : Int) ≤ x1 then
      c14 h
    else
      if inb x1 12 then
        lt (hup h 25 (Int.toNat x1) (-1)) fun h1 =>
        rec (wr (x1 + 1)) h1
      else none) n
theorem f_X0_matchNone_L2_s (c14 : Hp → Option (Int × Hp)) (n : Nat) (x1 : Int) (h : Hp) : f_X0_matchNone_L2 c14 (n + 1) x1 h =
    if ((12 : Nat) : Int) ≤ x1 then
      c14 h
    else
      if inb x1 12 then
        lt (hup h 25 (Int.toNat x1) (-1)) fun h1 =>
        f_X0_matchNone_L2 c14 n (wr (x1 + 1)) h1
      else none := rfl
noncomputable def f_X0_matchNone_L16  (n : Nat) : Int → Hp → Option (Int × Hp) :=
  Nat.rec (motive := fun _ => Int → Hp → Option (Int × Hp)) (fun _ _ => none) (fun _ rec x1 h =>
    if ((12 : Nat) : Int) ≤ x1 then
      lt (hup h 19 9 0) fun h3 =>
      some (0, h3)
    else
      if inb x1 12 then
        lt (hup h 26 (Int.toNat x1) (-1)) fun h4 =>
        rec (wr (x1 + 1)) h4
      else none) n
theorem f_X0_matchNone_L16_s  (n : Nat) (x1 : Int) (h : Hp) : f_X0_matchNone_L16  (n + 1) x1 h =
    if ((12 : Nat) : Int) ≤ x1 then
      lt (hup h 19 9 0) fun h3 =>
      some (0, h3)
    else
      if inb x1 12 then
        lt (hup h 26 (Int.toNat x1) (-1)) fun h4 =>
        f_X0_matchNone_L16  n (wr (x1 + 1)) h4
      else none := rfl
noncomputable def f_X0_matchNone  (h : Hp) : Option (Int × Hp) :=
  (f_X0_matchNone_L2 
    (fun h2 =>
      (f_X0_matchNone_L16 
         fu 0 h2))
     fu 0 h)
noncomputable def f_X2_cell (x0 : Nat) (x1 : Int) (x2 : Int) (h : Hp) : Option (Int × Hp) :=
  if x1 < 0 then
    some (0, h)
  else
    if (h x0 1) ≤ x1 then
      some (0, h)
    else
      if x2 < 0 then
        some (0, h)
      else
        if x2 < 6 then
          lv (wr ((wr (x1 * 6)) + x2)) fun y1 =>
          if y1 < 0 then
            some (0, h)
          else
            if ((72 : Nat) : Int) ≤ y1 then
              some (0, h)
            else
              if inb y1 72 then
                some ((h (x0 + 1) (Int.toNat y1)), h)
              else none
        else
          some (0, h)
noncomputable def f_X0_noteOddness_L2 (x1 : Nat) (c14 : Hp → Option (Int × Hp)) (n : Nat) : Int → Hp → Option (Int × Hp) :=
  Nat.rec (motive := fun _ => Int → Hp → Option (Int × Hp)) (fun _ _ => none) (fun _ rec x2 h =>
    if ((40 : Nat) : Int) ≤ x2 then
      c14 h
    else
      if inb x2 40 then
        lt (hup h 24 (Int.toNat x2) 13) fun h1 =>
        rec (wr (x2 + 1)) h1
      else none) n
theorem f_X0_noteOddness_L2_s (x1 : Nat) (c14 : Hp → Option (Int × Hp)) (n : Nat) (x2 : Int) (h : Hp) : f_X0_noteOddness_L2 x1 c14 (n + 1) x2 h =
    if ((40 : Nat) : Int) ≤ x2 then
      c14 h
    else
      if inb x2 40 then
        lt (hup h 24 (Int.toNat x2) 13) fun h1 =>
        f_X0_noteOddness_L2 x1 c14 n (wr (x2 + 1)) h1
      else none := rfl
noncomputable def f_X0_noteOddness_L22 (x1 : Nat) (x2 : Int) (c52 : Hp → Option (Int × Hp)) (n : Nat) : Int → Hp → Option (Int × Hp) :=
  Nat.rec (motive := fun _ => Int → Hp → Option (Int × Hp)) (fun _ _ => none) (fun _ rec x3 h =>
    if 4 ≤ x3 then
      c52 h
    else
      bd (f_X2_cell (x1 + 1) x2 x3 h) fun r3 h3 =>
      lv (wr ((wr (x3 * 10)) + r3)) fun y4 =>
      if y4 < 0 then
        rec (wr (x3 + 1)) h3
      else
        if ((40 : Nat) : Int) ≤ y4 then
          rec (wr (x3 + 1)) h3
        else
          if inb y4 40 then
            if inb y4 40 then
              lt (hup h3 24 (Int.toNat y4) (wr ((h3 24 (Int.toNat y4)) - 1))) fun h5 =>
              rec (wr (x3 + 1)) h5
            else none
          else none) n
theorem f_X0_noteOddness_L22_s (x1 : Nat) (x2 : Int) (c52 : Hp → Option (Int × Hp)) (n : Nat) (x3 : Int) (h : Hp) : f_X0_noteOddness_L22 x1 x2 c52 (n + 1) x3 h =
    if 4 ≤ x3 then
      c52 h
    else
      bd (f_X2_cell (x1 + 1) x2 x3 h) fun r3 h3 =>
      lv (wr ((wr (x3 * 10)) + r3)) fun y4 =>
      if y4 < 0 then
        f_X0_noteOddness_L22 x1 x2 c52 n (wr (x3 + 1)) h3
      else
        if ((40 : Nat) : Int) ≤ y4 then
          f_X0_noteOddness_L22 x1 x2 c52 n (wr (x3 + 1)) h3
        else
          if inb y4 40 then
            if inb y4 40 then
              lt (hup h3 24 (Int.toNat y4) (wr ((h3 24 (Int.toNat y4)) - 1))) fun h5 =>
              f_X0_noteOddness_L22 x1 x2 c52 n (wr (x3 + 1)) h5
            else none
          else none := rfl
noncomputable def f_X0_noteOddness_L16 (x1 : Nat) (n : Nat) : Int → Hp → Option (Int × Hp) :=
  Nat.rec (motive := fun _ => Int → Hp → Option (Int × Hp)) (fun _ _ => none) (fun _ rec x2 h =>
    if (h 19 7) ≤ x2 then
      some (0, h)
    else
      (f_X0_noteOddness_L22 x1 x2
        (fun h6 =>
          rec (wr (x2 + 1)) h6)
         fu 0 h)) n
theorem f_X0_noteOddness_L16_s (x1 : Nat) (n : Nat) (x2 : Int) (h : Hp) : f_X0_noteOddness_L16 x1 (n + 1) x2 h =
    if (h 19 7) ≤ x2 then
      some (0, h)
    else
      (f_X0_noteOddness_L22 x1 x2
        (fun h6 =>
          f_X0_noteOddness_L16 x1 n (wr (x2 + 1)) h6)
         fu 0 h) := rfl
noncomputable def f_X0_noteOddness (x1 : Nat) (h : Hp) : Option (Int × Hp) :=
  (f_X0_noteOddness_L2 x1
    (fun h2 =>
      (f_X0_noteOddness_L16 x1
         fu 0 h2))
     fu 0 h)
noncomputable def f_X4_numberAt (x0 : Nat) (n0 : Nat) (x1 : Int) (h : Hp) : Option (Int × Hp) :=
  if x1 < 0 then
    some (0, h)
  else
    if ((n0 : Nat) : Int) ≤ x1 then
      some (0, h)
    else
      if inb x1 n0 then
        some ((h x0 (Int.toNat x1)), h)
      else none
noncomputable def f_X1_setting (x0 : Nat) (x1 : Int) (h : Hp) : Option (Int × Hp) :=
  if x1 < 0 then
    some (0, h)
  else
    if ((7 : Nat) : Int) ≤ x1 then
      some (0, h)
    else
      if inb x1 7 then
        some ((h (x0 + 7) (Int.toNat x1)), h)
      else none
noncomputable def f_X0_weigh_L6 (x3 : Nat) (x1 : Int) (x2 : Int) (c40 : Int → Int → Hp → Option (Int × Hp)) (n : Nat) : Int → Int → Int → Hp → Option (Int × Hp) :=
  Nat.rec (motive := fun _ => Int → Int → Int → Hp → Option (Int × Hp)) (fun _ _ _ _ => none) (fun _ rec x4 x5 x6 h =>
    if 4 ≤ x6 then
      c40 x4 x5 h
    else
      bd (f_X2_cell (x3 + 3) x2 x6 h) fun r1 h1 =>
      bd (f_X2_cell (x3 + 1) x1 x6 h1) fun r2 h2 =>
      if ¬ r1 = r2 then
        if r1 = (-1) then
          rec x4 x5 (wr (x6 + 1)) h2
        else
          rec (wr (x4 + 1)) x5 (wr (x6 + 1)) h2
      else
        bd (f_X4_numberAt 24 40 (wr ((wr (x6 * 10)) + r1)) h2) fun r3 h3 =>
        lv (wr (x5 + r3)) fun y4 =>
        rec x4 y4 (wr (x6 + 1)) h3) n
theorem f_X0_weigh_L6_s (x3 : Nat) (x1 : Int) (x2 : Int) (c40 : Int → Int → Hp → Option (Int × Hp)) (n : Nat) (x4 : Int) (x5 : Int) (x6 : Int) (h : Hp) : f_X0_weigh_L6 x3 x1 x2 c40 (n + 1) x4 x5 x6 h =
    if 4 ≤ x6 then
      c40 x4 x5 h
    else
      bd (f_X2_cell (x3 + 3) x2 x6 h) fun r1 h1 =>
      bd (f_X2_cell (x3 + 1) x1 x6 h1) fun r2 h2 =>
      if ¬ r1 = r2 then
        if r1 = (-1) then
          f_X0_weigh_L6 x3 x1 x2 c40 n x4 x5 (wr (x6 + 1)) h2
        else
          f_X0_weigh_L6 x3 x1 x2 c40 n (wr (x4 + 1)) x5 (wr (x6 + 1)) h2
      else
        bd (f_X4_numberAt 24 40 (wr ((wr (x6 * 10)) + r1)) h2) fun r3 h3 =>
        lv (wr (x5 + r3)) fun y4 =>
        f_X0_weigh_L6 x3 x1 x2 c40 n x4 y4 (wr (x6 + 1)) h3 := rfl
noncomputable def f_X0_weigh (x1 : Int) (x2 : Int) (x3 : Nat) (h : Hp) : Option (Int × Hp) :=
  (f_X0_weigh_L6 x3 x1 x2
    (fun y5 y6 h7 =>
      bd (f_X1_setting x3 1 h7) fun r8 h8 =>
      bd (f_X2_cell (x3 + 3) x2 5 h8) fun r9 h9 =>
      bd (f_X1_setting x3 2 h9) fun r10 h10 =>
      lv (wr ((wr (y6 - (wr (y5 * r8)))) - (wr (r9 * r10)))) fun y11 =>
      bd (f_X0_pairOf x1 x2 h10) fun r12 h12 =>
      if r12 < 0 then
        some (0, h12)
      else
        if 144 ≤ r12 then
          some (0, h12)
        else
          if inb r12 144 then
            lt (hup h12 20 (Int.toNat r12) y5) fun h13 =>
            if inb r12 144 then
              lt (hup h13 21 (Int.toNat r12) y11) fun h14 =>
              bd (f_X1_setting x3 0 h14) fun r15 h15 =>
              if r15 < y5 then
                if inb r12 144 ∧ isB 0 then
                  lt (hup h15 22 (Int.toNat r12) 0) fun h16 =>
                  some (0, h16)
                else none
              else
                bd (f_X1_setting x3 3 h15) fun r17 h17 =>
                if y11 < r17 then
                  if inb r12 144 ∧ isB 0 then
                    lt (hup h17 22 (Int.toNat r12) 0) fun h18 =>
                    some (0, h18)
                  else none
                else
                  if inb r12 144 ∧ isB 1 then
                    lt (hup h17 22 (Int.toNat r12) 1) fun h19 =>
                    some (0, h19)
                  else none
            else none
          else none)
     fu 0 0 0 h)
noncomputable def f_X0_weighAll_L25 (x1 : Nat) (x2 : Int) (c36 : Hp → Option (Int × Hp)) (n : Nat) : Int → Hp → Option (Int × Hp) :=
  Nat.rec (motive := fun _ => Int → Hp → Option (Int × Hp)) (fun _ _ => none) (fun _ rec x3 h =>
    if (h 19 8) ≤ x3 then
      c36 h
    else
      bd (f_X0_weigh x2 x3 x1 h) fun _ h6 =>
      rec (wr (x3 + 1)) h6) n
theorem f_X0_weighAll_L25_s (x1 : Nat) (x2 : Int) (c36 : Hp → Option (Int × Hp)) (n : Nat) (x3 : Int) (h : Hp) : f_X0_weighAll_L25 x1 x2 c36 (n + 1) x3 h =
    if (h 19 8) ≤ x3 then
      c36 h
    else
      bd (f_X0_weigh x2 x3 x1 h) fun _ h6 =>
      f_X0_weighAll_L25 x1 x2 c36 n (wr (x3 + 1)) h6 := rfl
noncomputable def f_X0_weighAll_L19 (x1 : Nat) (n : Nat) : Int → Hp → Option (Int × Hp) :=
  Nat.rec (motive := fun _ => Int → Hp → Option (Int × Hp)) (fun _ _ => none) (fun _ rec x2 h =>
    if (h 19 7) ≤ x2 then
      some (0, h)
    else
      (f_X0_weighAll_L25 x1 x2
        (fun h7 =>
          rec (wr (x2 + 1)) h7)
         fu 0 h)) n
theorem f_X0_weighAll_L19_s (x1 : Nat) (n : Nat) (x2 : Int) (h : Hp) : f_X0_weighAll_L19 x1 (n + 1) x2 h =
    if (h 19 7) ≤ x2 then
      some (0, h)
    else
      (f_X0_weighAll_L25 x1 x2
        (fun h7 =>
          f_X0_weighAll_L19 x1 n (wr (x2 + 1)) h7)
         fu 0 h) := rfl
noncomputable def f_X0_weighAll (x1 : Nat) (h : Hp) : Option (Int × Hp) :=
  bd (f_J_min (h (x1 + 1) 1) 12 h) fun r1 h1 =>
  lt (hup h1 19 7 r1) fun h2 =>
  bd (f_J_min (h2 (x1 + 3) 1) 12 h2) fun r3 h3 =>
  lt (hup h3 19 8 r3) fun h4 =>
  bd (f_X0_noteOddness x1 h4) fun _ h5 =>
  (f_X0_weighAll_L19 x1
     fu 0 h5)
noncomputable def f_X0_matchAll_L7 (x1 : Nat) (n : Nat) : Int → Hp → Option (Int × Hp) :=
  Nat.rec (motive := fun _ => Int → Hp → Option (Int × Hp)) (fun _ _ => none) (fun _ rec x2 h =>
    if 12 ≤ x2 then
      some (0, h)
    else
      bd (f_X0_bestFreePair  h) fun r3 h3 =>
      if ¬ r3 = (-1) then
        bd (f_X0_join (wr (Int.tdiv r3 12)) (wr (r3 - Int.tdiv r3 12 * 12)) h3) fun _ h4 =>
        rec (wr (x2 + 1)) h4
      else
        some (0, h3)) n
theorem f_X0_matchAll_L7_s (x1 : Nat) (n : Nat) (x2 : Int) (h : Hp) : f_X0_matchAll_L7 x1 (n + 1) x2 h =
    if 12 ≤ x2 then
      some (0, h)
    else
      bd (f_X0_bestFreePair  h) fun r3 h3 =>
      if ¬ r3 = (-1) then
        bd (f_X0_join (wr (Int.tdiv r3 12)) (wr (r3 - Int.tdiv r3 12 * 12)) h3) fun _ h4 =>
        f_X0_matchAll_L7 x1 n (wr (x2 + 1)) h4
      else
        some (0, h3) := rfl
noncomputable def f_X0_matchAll (x1 : Nat) (h : Hp) : Option (Int × Hp) :=
  bd (f_X0_weighAll x1 h) fun _ h1 =>
  bd (f_X0_matchNone  h1) fun _ h2 =>
  (f_X0_matchAll_L7 x1
     fu 0 h2)
noncomputable def f_X1_sum (x0 : Nat) (x1 : Int) (h : Hp) : Option (Int × Hp) :=
  if x1 < 0 then
    some (0, h)
  else
    if ((12 : Nat) : Int) ≤ x1 then
      some (0, h)
    else
      if inb x1 12 then
        some ((h (x0 + 8) (Int.toNat x1)), h)
      else none
noncomputable def f_X1_enter_J9 (x0 : Nat) (x1 : Int) (x2 : Int) (x3 : Int) (h : Hp) : Option (Int × Hp) :=
  bd (f_X1_sum x0 0 h) fun r1 h1 =>
  bd (f_X2_append (x0 + 5) r1 x1 x2 x3 h1) fun r2 h2 =>
  bd (f_X1_addTo x0 10 x3 h2) fun _ h3 =>
  some (0, h3)
noncomputable def f_X1_enter (x0 : Nat) (x1 : Int) (x2 : Int) (x3 : Int) (h : Hp) : Option (Int × Hp) :=
  if (h (x0 + 5) 1) < 10 then
    f_X1_enter_J9 x0 x1 x2 x3 h
  else
    bd (f_X2_remove (x0 + 5) 0 h) fun _ h4 =>
    f_X1_enter_J9 x0 x1 x2 x3 h4
noncomputable def f_X1_handOut_L2 (x0 : Nat) (c33 : Hp → Option (Int × Hp)) (n : Nat) : Int → Hp → Option (Int × Hp) :=
  Nat.rec (motive := fun _ => Int → Hp → Option (Int × Hp)) (fun _ _ => none) (fun _ rec x2 h =>
    if (h (x0 + 1) 1) ≤ x2 then
      c33 h
    else
      bd (f_X0_claimMatched x2 h) fun r1 h1 =>
      if r1 = (-1) then
        rec (wr (x2 + 1)) h1
      else
        bd (f_X2_cell (x0 + 1) x2 4 h1) fun r2 h2 =>
        bd (f_X1_setting x0 4 h2) fun r3 h3 =>
        bd (f_X1_enter x0 0 r2 (wr (r2 * r3)) h3) fun _ h4 =>
        bd (f_X1_addTo x0 7 1 h4) fun _ h5 =>
        rec (wr (x2 + 1)) h5) n
theorem f_X1_handOut_L2_s (x0 : Nat) (c33 : Hp → Option (Int × Hp)) (n : Nat) (x2 : Int) (h : Hp) : f_X1_handOut_L2 x0 c33 (n + 1) x2 h =
    if (h (x0 + 1) 1) ≤ x2 then
      c33 h
    else
      bd (f_X0_claimMatched x2 h) fun r1 h1 =>
      if r1 = (-1) then
        f_X1_handOut_L2 x0 c33 n (wr (x2 + 1)) h1
      else
        bd (f_X2_cell (x0 + 1) x2 4 h1) fun r2 h2 =>
        bd (f_X1_setting x0 4 h2) fun r3 h3 =>
        bd (f_X1_enter x0 0 r2 (wr (r2 * r3)) h3) fun _ h4 =>
        bd (f_X1_addTo x0 7 1 h4) fun _ h5 =>
        f_X1_handOut_L2 x0 c33 n (wr (x2 + 1)) h5 := rfl
noncomputable def f_X1_handOut_L39 (x0 : Nat) (c52 : Hp → Option (Int × Hp)) (n : Nat) : Int → Hp → Option (Int × Hp) :=
  Nat.rec (motive := fun _ => Int → Hp → Option (Int × Hp)) (fun _ _ => none) (fun _ rec x2 h =>
    if x2 < 0 then
      c52 h
    else
      bd (f_X0_claimMatched x2 h) fun r8 h8 =>
      if r8 = (-1) then
        rec (wr (x2 + (-1))) h8
      else
        bd (f_X2_remove (x0 + 1) x2 h8) fun _ h9 =>
        rec (wr (x2 + (-1))) h9) n
theorem f_X1_handOut_L39_s (x0 : Nat) (c52 : Hp → Option (Int × Hp)) (n : Nat) (x2 : Int) (h : Hp) : f_X1_handOut_L39 x0 c52 (n + 1) x2 h =
    if x2 < 0 then
      c52 h
    else
      bd (f_X0_claimMatched x2 h) fun r8 h8 =>
      if r8 = (-1) then
        f_X1_handOut_L39 x0 c52 n (wr (x2 + (-1))) h8
      else
        bd (f_X2_remove (x0 + 1) x2 h8) fun _ h9 =>
        f_X1_handOut_L39 x0 c52 n (wr (x2 + (-1))) h9 := rfl
noncomputable def f_X1_handOut_L58 (x0 : Nat) (n : Nat) : Int → Hp → Option (Int × Hp) :=
  Nat.rec (motive := fun _ => Int → Hp → Option (Int × Hp)) (fun _ _ => none) (fun _ rec x2 h =>
    if x2 < 0 then
      some ((h 19 9), h)
    else
      bd (f_X0_umbrellaMatched x2 h) fun r12 h12 =>
      if r12 = (-1) then
        rec (wr (x2 + (-1))) h12
      else
        bd (f_X2_remove (x0 + 3) x2 h12) fun _ h13 =>
        rec (wr (x2 + (-1))) h13) n
theorem f_X1_handOut_L58_s (x0 : Nat) (n : Nat) (x2 : Int) (h : Hp) : f_X1_handOut_L58 x0 (n + 1) x2 h =
    if x2 < 0 then
      some ((h 19 9), h)
    else
      bd (f_X0_umbrellaMatched x2 h) fun r12 h12 =>
      if r12 = (-1) then
        f_X1_handOut_L58 x0 n (wr (x2 + (-1))) h12
      else
        bd (f_X2_remove (x0 + 3) x2 h12) fun _ h13 =>
        f_X1_handOut_L58 x0 n (wr (x2 + (-1))) h13 := rfl
noncomputable def f_X1_handOut (x0 : Nat) (h : Hp) : Option (Int × Hp) :=
  (f_X1_handOut_L2 x0
    (fun h6 =>
      lv (wr ((h6 (x0 + 1) 1) - 1)) fun y7 =>
      (f_X1_handOut_L39 x0
        (fun h10 =>
          lv (wr ((h10 (x0 + 3) 1) - 1)) fun y11 =>
          (f_X1_handOut_L58 x0
             fu y11 h10))
         fu y7 h6))
     fu 0 h)
noncomputable def f_X4_hand  (h : Hp) : Option (Int × Hp) :=
  bd (f_X4_keepState  h) fun _ h1 =>
  bd (f_X0_matchAll 1 h1) fun _ h2 =>
  bd (f_X1_handOut 1 h2) fun r3 h3 =>
  bd (f_X4_recorded r3 h3) fun r4 h4 =>
  some (r4, h4)
noncomputable def f_X1_changeSetting (x0 : Nat) (x1 : Int) (x2 : Int) (h : Hp) : Option (Int × Hp) :=
  if x1 < 0 then
    some ((-1000001), h)
  else
    if ((7 : Nat) : Int) ≤ x1 then
      some ((-1000001), h)
    else
      bd (f_X4_numberAt 85 7 x1 h) fun r1 h1 =>
      if x2 < r1 then
        some ((-1000001), h1)
      else
        bd (f_X4_numberAt 86 7 x1 h1) fun r2 h2 =>
        if x2 ≤ r2 then
          if inb x1 7 then
            lv (h2 (x0 + 7) (Int.toNat x1)) fun y3 =>
            if inb x1 7 then
              lt (hup h2 (x0 + 7) (Int.toNat x1) x2) fun h4 =>
              some (y3, h4)
            else none
          else none
        else
          some ((-1000001), h2)
noncomputable def f_X4_set (x1 : Int) (x2 : Int) (h : Hp) : Option (Int × Hp) :=
  bd (f_X4_keepState  h) fun _ h1 =>
  bd (f_X1_changeSetting 1 x1 x2 h1) fun r2 h2 =>
  bd (f_X4_recorded r2 h2) fun r3 h3 =>
  some (r3, h3)
noncomputable def f_X4_isDetail (x0 : Int) (h : Hp) : Option (Int × Hp) :=
  if x0 < 0 then
    some (0, h)
  else
    if 4 ≤ x0 then
      some (0, h)
    else
      some (1, h)
noncomputable def f_X2_put (x0 : Nat) (x1 : Int) (x2 : Int) (x3 : Int) (h : Hp) : Option (Int × Hp) :=
  if x1 < 0 then
    some (0, h)
  else
    if (h x0 1) ≤ x1 then
      some (0, h)
    else
      if x2 < 0 then
        some (0, h)
      else
        if x2 < 6 then
          lv (wr ((wr (x1 * 6)) + x2)) fun y1 =>
          if y1 < 0 then
            some (0, h)
          else
            if ((72 : Nat) : Int) ≤ y1 then
              some (0, h)
            else
              if inb y1 72 then
                lt (hup h (x0 + 1) (Int.toNat y1) x3) fun h2 =>
                some (0, h2)
              else none
        else
          some (0, h)
noncomputable def f_X1_noteDetail_J32 (x0 : Nat) (x1 : Int) (x2 : Int) (x3 : Int) (x5 : Int) (h : Hp) : Option (Int × Hp) :=
  bd (f_X2_put (x0 + 3) x1 x2 x3 h) fun _ h6 =>
  bd (f_X2_put (x0 + 3) x1 5 x5 h6) fun _ h7 =>
  some (x5, h7)
noncomputable def f_X1_noteDetail (x0 : Nat) (x1 : Int) (x2 : Int) (x3 : Int) (h : Hp) : Option (Int × Hp) :=
  bd (f_X2_has (x0 + 3) x1 h) fun r1 h1 =>
  if r1 = 0 then
    some ((-1000001), h1)
  else
    bd (f_X4_isDetail x2 h1) fun r2 h2 =>
    if r2 = 0 then
      some ((-1000001), h2)
    else
      bd (f_X4_isValue x3 h2) fun r3 h3 =>
      if ¬ r3 = 0 then
        bd (f_X2_cell (x0 + 3) x1 x2 h3) fun r4 h4 =>
        bd (f_X2_cell (x0 + 3) x1 5 h4) fun r5 h5 =>
        if r4 = (-1) then
          f_X1_noteDetail_J32 x0 x1 x2 x3 r5 h5
        else
          if r4 = x3 then
            f_X1_noteDetail_J32 x0 x1 x2 x3 r5 h5
          else
            f_X1_noteDetail_J32 x0 x1 x2 x3 (wr (r5 + 1)) h5
      else
        some ((-1000001), h3)
noncomputable def f_X4_tell (x1 : Int) (x2 : Int) (x3 : Int) (h : Hp) : Option (Int × Hp) :=
  bd (f_X4_keepState  h) fun _ h1 =>
  bd (f_X1_noteDetail 1 x1 x2 x3 h1) fun r2 h2 =>
  bd (f_X4_recorded r2 h2) fun r3 h3 =>
  some (r3, h3)
noncomputable def f_X4_isWeeksAtOnce (x0 : Int) (h : Hp) : Option (Int × Hp) :=
  if x0 < 1 then
    some (0, h)
  else
    if 20 < x0 then
      some (0, h)
    else
      some (1, h)
noncomputable def f_X1_endOld_L5 (x0 : Nat) (x1 : Nat) (x2 : Int) (x3 : Int) (x4 : Int) (n : Nat) : Int → Int → Hp → Option (Int × Hp) :=
  Nat.rec (motive := fun _ => Int → Int → Hp → Option (Int × Hp)) (fun _ _ _ => none) (fun _ rec x5 x6 h =>
    if x6 ≤ 0 then
      some (0, h)
    else
      bd (f_X2_cell x1 x5 4 h) fun r2 h2 =>
      bd (f_X1_setting x0 5 h2) fun r3 h3 =>
      if r3 ≤ r2 then
        bd (f_X2_remove x1 x5 h3) fun _ h4 =>
        bd (f_X1_addTo x0 x3 1 h4) fun _ h5 =>
        bd (f_X1_enter x0 x2 r2 x4 h5) fun _ h6 =>
        rec x5 (wr (x6 + (-1))) h6
      else
        rec (wr (x5 + 1)) (wr (x6 + (-1))) h3) n
theorem f_X1_endOld_L5_s (x0 : Nat) (x1 : Nat) (x2 : Int) (x3 : Int) (x4 : Int) (n : Nat) (x5 : Int) (x6 : Int) (h : Hp) : f_X1_endOld_L5 x0 x1 x2 x3 x4 (n + 1) x5 x6 h =
    if x6 ≤ 0 then
      some (0, h)
    else
      bd (f_X2_cell x1 x5 4 h) fun r2 h2 =>
      bd (f_X1_setting x0 5 h2) fun r3 h3 =>
      if r3 ≤ r2 then
        bd (f_X2_remove x1 x5 h3) fun _ h4 =>
        bd (f_X1_addTo x0 x3 1 h4) fun _ h5 =>
        bd (f_X1_enter x0 x2 r2 x4 h5) fun _ h6 =>
        f_X1_endOld_L5 x0 x1 x2 x3 x4 n x5 (wr (x6 + (-1))) h6
      else
        f_X1_endOld_L5 x0 x1 x2 x3 x4 n (wr (x5 + 1)) (wr (x6 + (-1))) h3 := rfl
noncomputable def f_X1_endOld (x0 : Nat) (x1 : Nat) (x2 : Int) (x3 : Int) (x4 : Int) (h : Hp) : Option (Int × Hp) :=
  lv (h x1 1) fun y1 =>
  (f_X1_endOld_L5 x0 x1 x2 x3 x4
     fu 0 y1 h)
noncomputable def f_X1_growOlder_L2 (x0 : Nat) (x1 : Nat) (n : Nat) : Int → Hp → Option (Int × Hp) :=
  Nat.rec (motive := fun _ => Int → Hp → Option (Int × Hp)) (fun _ _ => none) (fun _ rec x2 h =>
    if (h x1 1) ≤ x2 then
      some (0, h)
    else
      bd (f_X2_cell x1 x2 4 h) fun r1 h1 =>
      bd (f_X2_put x1 x2 4 (wr (r1 + 1)) h1) fun _ h2 =>
      rec (wr (x2 + 1)) h2) n
theorem f_X1_growOlder_L2_s (x0 : Nat) (x1 : Nat) (n : Nat) (x2 : Int) (h : Hp) : f_X1_growOlder_L2 x0 x1 (n + 1) x2 h =
    if (h x1 1) ≤ x2 then
      some (0, h)
    else
      bd (f_X2_cell x1 x2 4 h) fun r1 h1 =>
      bd (f_X2_put x1 x2 4 (wr (r1 + 1)) h1) fun _ h2 =>
      f_X1_growOlder_L2 x0 x1 n (wr (x2 + 1)) h2 := rfl
noncomputable def f_X1_growOlder (x0 : Nat) (x1 : Nat) (h : Hp) : Option (Int × Hp) :=
  (f_X1_growOlder_L2 x0 x1
     fu 0 h)
noncomputable def f_X1_passWeeks_L20 (x0 : Nat) (x1 : Int) (x3 : Int) (n : Nat) : Int → Hp → Option (Int × Hp) :=
  Nat.rec (motive := fun _ => Int → Hp → Option (Int × Hp)) (fun _ _ => none) (fun _ rec x4 h =>
    if x1 ≤ x4 then
      bd (f_X1_sum x0 8 h) fun r4 h4 =>
      some ((wr (r4 - x3)), h4)
    else
      bd (f_X1_addTo x0 0 1 h) fun _ h5 =>
      bd (f_X1_growOlder x0 (x0 + 1) h5) fun _ h6 =>
      bd (f_X1_growOlder x0 (x0 + 3) h6) fun _ h7 =>
      bd (f_X1_setting x0 6 h7) fun r8 h8 =>
      bd (f_X1_endOld x0 (x0 + 1) 1 8 r8 h8) fun _ h9 =>
      bd (f_X1_endOld x0 (x0 + 3) 2 9 0 h9) fun _ h10 =>
      rec (wr (x4 + 1)) h10) n
theorem f_X1_passWeeks_L20_s (x0 : Nat) (x1 : Int) (x3 : Int) (n : Nat) (x4 : Int) (h : Hp) : f_X1_passWeeks_L20 x0 x1 x3 (n + 1) x4 h =
    if x1 ≤ x4 then
      bd (f_X1_sum x0 8 h) fun r4 h4 =>
      some ((wr (r4 - x3)), h4)
    else
      bd (f_X1_addTo x0 0 1 h) fun _ h5 =>
      bd (f_X1_growOlder x0 (x0 + 1) h5) fun _ h6 =>
      bd (f_X1_growOlder x0 (x0 + 3) h6) fun _ h7 =>
      bd (f_X1_setting x0 6 h7) fun r8 h8 =>
      bd (f_X1_endOld x0 (x0 + 1) 1 8 r8 h8) fun _ h9 =>
      bd (f_X1_endOld x0 (x0 + 3) 2 9 0 h9) fun _ h10 =>
      f_X1_passWeeks_L20 x0 x1 x3 n (wr (x4 + 1)) h10 := rfl
noncomputable def f_X1_passWeeks (x0 : Nat) (x1 : Int) (x2 : Int) (h : Hp) : Option (Int × Hp) :=
  bd (f_X4_isWeeksAtOnce x1 h) fun r1 h1 =>
  if ¬ r1 = 0 then
    bd (f_X1_sum x0 0 h1) fun r2 h2 =>
    if (wr (r2 + x1)) ≤ x2 then
      bd (f_X1_sum x0 8 h2) fun r3 h3 =>
      (f_X1_passWeeks_L20 x0 x1 r3
         fu 0 h3)
    else
      some ((-1000003), h2)
  else
    some ((-1000001), h1)
noncomputable def f_X4_weeks (x1 : Int) (h : Hp) : Option (Int × Hp) :=
  bd (f_X4_keepState  h) fun _ h1 =>
  bd (f_X1_passWeeks 1 x1 999 h1) fun r2 h2 =>
  bd (f_X4_recorded r2 h2) fun r3 h3 =>
  some (r3, h3)
noncomputable def f_X4_book (x1 : Int) (x2 : Int) (h : Hp) : Option (Int × Hp) :=
  if x1 < 0 then
    some ((-1000001), h)
  else
    if x2 < 0 then
      some ((-1000001), h)
    else
      if x2 < 4 then
        lv (wr ((wr ((h 6 1) - 1)) - x1)) fun y1 =>
        if 0 ≤ y1 then
          bd (f_X2_cell 6 y1 x2 h) fun r2 h2 =>
          some (r2, h2)
        else
          some ((-1000004), h)
      else
        some ((-1000001), h)
noncomputable def f_X0_part (x1 : Int) (x2 : Int) (h : Hp) : Option (Int × Hp) :=
  if x1 < 0 then
    some (0, h)
  else
    if 12 ≤ x1 then
      some (0, h)
    else
      if x2 < 0 then
        some (0, h)
      else
        if 12 ≤ x2 then
          some (0, h)
        else
          if inb x1 12 then
            lt (hup h 25 (Int.toNat x1) (-1)) fun h1 =>
            if inb x2 12 then
              lt (hup h1 26 (Int.toNat x2) (-1)) fun h2 =>
              lt (hup h2 19 9 (wr ((h2 19 9) - 1))) fun h3 =>
              some (0, h3)
            else none
          else none
noncomputable def f_X0_askFor_J36 (x1 : Int) (x2 : Int) (h : Hp) : Option (Int × Hp) :=
  bd (f_X0_join x2 (wr (x1 - Int.tdiv x1 12 * 12)) h) fun _ h4 =>
  some (0, h4)
noncomputable def f_X0_askFor (x1 : Int) (h : Hp) : Option (Int × Hp) :=
  if x1 < 0 then
    some (0, h)
  else
    if x1 < 144 then
      if inb x1 144 ∧ isB 1 then
        lt (hup h 23 (Int.toNat x1) 1) fun h1 =>
        lv (wr (Int.tdiv x1 12)) fun y2 =>
        bd (f_X0_claimMatched y2 h1) fun r3 h3 =>
        if r3 = (-1) then
          f_X0_askFor_J36 x1 y2 h3
        else
          bd (f_X0_pairOf y2 r3 h3) fun r5 h5 =>
          bd (f_X0_aheadOf x1 r5 h5) fun r6 h6 =>
          if r6 = x1 then
            bd (f_X0_part y2 r3 h6) fun _ h7 =>
            f_X0_askFor_J36 x1 y2 h7
          else
            some (0, h6)
      else none
    else
      some (0, h)
noncomputable def f_X0_nextPairOf_L4 (x1 : Int) (n : Nat) : Int → Int → Hp → Option (Int × Hp) :=
  Nat.rec (motive := fun _ => Int → Int → Hp → Option (Int × Hp)) (fun _ _ _ => none) (fun _ rec x2 x3 h =>
    if (h 19 7) ≤ x3 then
      some (x2, h)
    else
      bd (f_X0_pairOf x3 x1 h) fun r1 h1 =>
      if r1 < 0 then
        rec x2 (wr (x3 + 1)) h1
      else
        if 144 ≤ r1 then
          rec x2 (wr (x3 + 1)) h1
        else
          if inb r1 144 then
            if (h1 22 (Int.toNat r1)) = 0 then
              rec x2 (wr (x3 + 1)) h1
            else
              if inb r1 144 then
                if ¬ (h1 23 (Int.toNat r1)) = 0 then
                  rec x2 (wr (x3 + 1)) h1
                else
                  bd (f_X0_aheadOf r1 x2 h1) fun r2 h2 =>
                  rec r2 (wr (x3 + 1)) h2
              else none
          else none) n
theorem f_X0_nextPairOf_L4_s (x1 : Int) (n : Nat) (x2 : Int) (x3 : Int) (h : Hp) : f_X0_nextPairOf_L4 x1 (n + 1) x2 x3 h =
    if (h 19 7) ≤ x3 then
      some (x2, h)
    else
      bd (f_X0_pairOf x3 x1 h) fun r1 h1 =>
      if r1 < 0 then
        f_X0_nextPairOf_L4 x1 n x2 (wr (x3 + 1)) h1
      else
        if 144 ≤ r1 then
          f_X0_nextPairOf_L4 x1 n x2 (wr (x3 + 1)) h1
        else
          if inb r1 144 then
            if (h1 22 (Int.toNat r1)) = 0 then
              f_X0_nextPairOf_L4 x1 n x2 (wr (x3 + 1)) h1
            else
              if inb r1 144 then
                if ¬ (h1 23 (Int.toNat r1)) = 0 then
                  f_X0_nextPairOf_L4 x1 n x2 (wr (x3 + 1)) h1
                else
                  bd (f_X0_aheadOf r1 x2 h1) fun r2 h2 =>
                  f_X0_nextPairOf_L4 x1 n r2 (wr (x3 + 1)) h2
              else none
          else none := rfl
noncomputable def f_X0_nextPairOf (x1 : Int) (h : Hp) : Option (Int × Hp) :=
  (f_X0_nextPairOf_L4 x1
     fu (-1) 0 h)
noncomputable def f_X0_nextAsk_L2  (n : Nat) : Int → Hp → Option (Int × Hp) :=
  Nat.rec (motive := fun _ => Int → Hp → Option (Int × Hp)) (fun _ _ => none) (fun _ rec x1 h =>
    if (h 19 8) ≤ x1 then
      some ((-1), h)
    else
      bd (f_X0_umbrellaMatched x1 h) fun r1 h1 =>
      if ¬ r1 = (-1) then
        rec (wr (x1 + 1)) h1
      else
        bd (f_X0_nextPairOf x1 h1) fun r2 h2 =>
        if r2 = (-1) then
          rec (wr (x1 + 1)) h2
        else
          some (r2, h2)) n
theorem f_X0_nextAsk_L2_s  (n : Nat) (x1 : Int) (h : Hp) : f_X0_nextAsk_L2  (n + 1) x1 h =
    if (h 19 8) ≤ x1 then
      some ((-1), h)
    else
      bd (f_X0_umbrellaMatched x1 h) fun r1 h1 =>
      if ¬ r1 = (-1) then
        f_X0_nextAsk_L2  n (wr (x1 + 1)) h1
      else
        bd (f_X0_nextPairOf x1 h1) fun r2 h2 =>
        if r2 = (-1) then
          f_X0_nextAsk_L2  n (wr (x1 + 1)) h2
        else
          some (r2, h2) := rfl
noncomputable def f_X0_nextAsk  (h : Hp) : Option (Int × Hp) :=
  (f_X0_nextAsk_L2 
     fu 0 h)
noncomputable def f_X0_matchByAsking_L7 (x1 : Nat) (c19 : Hp → Option (Int × Hp)) (n : Nat) : Int → Hp → Option (Int × Hp) :=
  Nat.rec (motive := fun _ => Int → Hp → Option (Int × Hp)) (fun _ _ => none) (fun _ rec x2 h =>
    if ((144 : Nat) : Int) ≤ x2 then
      c19 h
    else
      if inb x2 144 ∧ isB 0 then
        lt (hup h 23 (Int.toNat x2) 0) fun h3 =>
        rec (wr (x2 + 1)) h3
      else none) n
theorem f_X0_matchByAsking_L7_s (x1 : Nat) (c19 : Hp → Option (Int × Hp)) (n : Nat) (x2 : Int) (h : Hp) : f_X0_matchByAsking_L7 x1 c19 (n + 1) x2 h =
    if ((144 : Nat) : Int) ≤ x2 then
      c19 h
    else
      if inb x2 144 ∧ isB 0 then
        lt (hup h 23 (Int.toNat x2) 0) fun h3 =>
        f_X0_matchByAsking_L7 x1 c19 n (wr (x2 + 1)) h3
      else none := rfl
noncomputable def f_X0_matchByAsking_L21 (x1 : Nat) (n : Nat) : Int → Hp → Option (Int × Hp) :=
  Nat.rec (motive := fun _ => Int → Hp → Option (Int × Hp)) (fun _ _ => none) (fun _ rec x2 h =>
    if 144 ≤ x2 then
      some (0, h)
    else
      bd (f_X0_nextAsk  h) fun r5 h5 =>
      if ¬ r5 = (-1) then
        bd (f_X0_askFor r5 h5) fun _ h6 =>
        rec (wr (x2 + 1)) h6
      else
        some (0, h5)) n
theorem f_X0_matchByAsking_L21_s (x1 : Nat) (n : Nat) (x2 : Int) (h : Hp) : f_X0_matchByAsking_L21 x1 (n + 1) x2 h =
    if 144 ≤ x2 then
      some (0, h)
    else
      bd (f_X0_nextAsk  h) fun r5 h5 =>
      if ¬ r5 = (-1) then
        bd (f_X0_askFor r5 h5) fun _ h6 =>
        f_X0_matchByAsking_L21 x1 n (wr (x2 + 1)) h6
      else
        some (0, h5) := rfl
noncomputable def f_X0_matchByAsking (x1 : Nat) (h : Hp) : Option (Int × Hp) :=
  bd (f_X0_weighAll x1 h) fun _ h1 =>
  bd (f_X0_matchNone  h1) fun _ h2 =>
  (f_X0_matchByAsking_L7 x1
    (fun h4 =>
      (f_X0_matchByAsking_L21 x1
         fu 0 h4))
     fu 0 h2)
noncomputable def f_X4_count_J13 (x1 : Int) (h : Hp) : Option (Int × Hp) :=
  if x1 = 1 then
    some ((h 2 1), h)
  else
    if x1 = 2 then
      some ((h 4 1), h)
    else
      if x1 = 3 then
        bd (f_X0_matchAll 1 h) fun _ h3 =>
        some ((h3 19 9), h3)
      else
        if x1 = 4 then
          bd (f_X0_matchByAsking 1 h) fun _ h5 =>
          some ((h5 19 9), h5)
        else
          if x1 = 5 then
            if x1 < 0 then
              some ((-1000001), h)
            else
              if 12 ≤ x1 then
                some ((-1000001), h)
              else
                bd (f_X1_sum 1 x1 h) fun r7 h7 =>
                some (r7, h7)
          else
            if x1 = 6 then
              if x1 < 0 then
                some ((-1000001), h)
              else
                if 12 ≤ x1 then
                  some ((-1000001), h)
                else
                  bd (f_X1_sum 1 x1 h) fun r9 h9 =>
                  some (r9, h9)
            else
              if x1 = 7 then
                if x1 < 0 then
                  some ((-1000001), h)
                else
                  if 12 ≤ x1 then
                    some ((-1000001), h)
                  else
                    bd (f_X1_sum 1 x1 h) fun r11 h11 =>
                    some (r11, h11)
              else
                if x1 = 8 then
                  if x1 < 0 then
                    some ((-1000001), h)
                  else
                    if 12 ≤ x1 then
                      some ((-1000001), h)
                    else
                      bd (f_X1_sum 1 x1 h) fun r13 h13 =>
                      some (r13, h13)
                else
                  if x1 = 9 then
                    if x1 < 0 then
                      some ((-1000001), h)
                    else
                      if 12 ≤ x1 then
                        some ((-1000001), h)
                      else
                        bd (f_X1_sum 1 x1 h) fun r15 h15 =>
                        some (r15, h15)
                  else
                    if x1 = 10 then
                      if x1 < 0 then
                        some ((-1000001), h)
                      else
                        if 12 ≤ x1 then
                          some ((-1000001), h)
                        else
                          bd (f_X1_sum 1 x1 h) fun r17 h17 =>
                          some (r17, h17)
                    else
                      if x1 = 11 then
                        if x1 < 0 then
                          some ((-1000001), h)
                        else
                          if 12 ≤ x1 then
                            some ((-1000001), h)
                          else
                            bd (f_X1_sum 1 x1 h) fun r19 h19 =>
                            some (r19, h19)
                      else
                        if x1 = 12 then
                          some ((h 6 1), h)
                        else
                          if x1 = 13 then
                            some ((h 0 4), h)
                          else
                            if x1 = 14 then
                              some ((h 28 1), h)
                            else
                              if x1 < 0 then
                                some ((-1000001), h)
                              else
                                if 12 ≤ x1 then
                                  some ((-1000001), h)
                                else
                                  bd (f_X1_sum 1 x1 h) fun r24 h24 =>
                                  some (r24, h24)
noncomputable def f_X4_count (x1 : Int) (h : Hp) : Option (Int × Hp) :=
  if x1 < 20 then
    f_X4_count_J13 x1 h
  else
    if 27 ≤ x1 then
      f_X4_count_J13 x1 h
    else
      bd (f_X1_setting 1 (wr (x1 - 20)) h) fun r25 h25 =>
      some (r25, h25)
noncomputable def f_X0_claimsSuiting_L4 (x1 : Int) (n : Nat) : Int → Int → Hp → Option (Int × Hp) :=
  Nat.rec (motive := fun _ => Int → Int → Hp → Option (Int × Hp)) (fun _ _ _ => none) (fun _ rec x2 x3 h =>
    if (h 19 8) ≤ x3 then
      some (x2, h)
    else
      bd (f_X0_suits x1 x3 h) fun r1 h1 =>
      if r1 = 0 then
        rec x2 (wr (x3 + 1)) h1
      else
        rec (wr (x2 + 1)) (wr (x3 + 1)) h1) n
theorem f_X0_claimsSuiting_L4_s (x1 : Int) (n : Nat) (x2 : Int) (x3 : Int) (h : Hp) : f_X0_claimsSuiting_L4 x1 (n + 1) x2 x3 h =
    if (h 19 8) ≤ x3 then
      some (x2, h)
    else
      bd (f_X0_suits x1 x3 h) fun r1 h1 =>
      if r1 = 0 then
        f_X0_claimsSuiting_L4 x1 n x2 (wr (x3 + 1)) h1
      else
        f_X0_claimsSuiting_L4 x1 n (wr (x2 + 1)) (wr (x3 + 1)) h1 := rfl
noncomputable def f_X0_claimsSuiting (x1 : Int) (h : Hp) : Option (Int × Hp) :=
  (f_X0_claimsSuiting_L4 x1
     fu 0 0 h)
noncomputable def f_X0_worthOf (x1 : Int) (x2 : Int) (h : Hp) : Option (Int × Hp) :=
  bd (f_X0_pairOf x1 x2 h) fun r1 h1 =>
  bd (f_X4_numberAt 21 144 r1 h1) fun r2 h2 =>
  some (r2, h2)
noncomputable def f_X1_umbrellasWith_L4 (x0 : Nat) (x1 : Int) (x2 : Int) (n : Nat) : Int → Int → Hp → Option (Int × Hp) :=
  Nat.rec (motive := fun _ => Int → Int → Hp → Option (Int × Hp)) (fun _ _ _ => none) (fun _ rec x3 x4 h =>
    if (h (x0 + 1) 1) ≤ x4 then
      some (x3, h)
    else
      bd (f_X2_cell (x0 + 1) x4 x1 h) fun r1 h1 =>
      if ¬ r1 = x2 then
        rec x3 (wr (x4 + 1)) h1
      else
        rec (wr (x3 + 1)) (wr (x4 + 1)) h1) n
theorem f_X1_umbrellasWith_L4_s (x0 : Nat) (x1 : Int) (x2 : Int) (n : Nat) (x3 : Int) (x4 : Int) (h : Hp) : f_X1_umbrellasWith_L4 x0 x1 x2 (n + 1) x3 x4 h =
    if (h (x0 + 1) 1) ≤ x4 then
      some (x3, h)
    else
      bd (f_X2_cell (x0 + 1) x4 x1 h) fun r1 h1 =>
      if ¬ r1 = x2 then
        f_X1_umbrellasWith_L4 x0 x1 x2 n x3 (wr (x4 + 1)) h1
      else
        f_X1_umbrellasWith_L4 x0 x1 x2 n (wr (x3 + 1)) (wr (x4 + 1)) h1 := rfl
noncomputable def f_X1_umbrellasWith (x0 : Nat) (x1 : Int) (x2 : Int) (h : Hp) : Option (Int × Hp) :=
  (f_X1_umbrellasWith_L4 x0 x1 x2
     fu 0 0 h)
noncomputable def f_X1_oddnessTogether_L4 (x0 : Nat) (x1 : Int) (n : Nat) : Int → Int → Hp → Option (Int × Hp) :=
  Nat.rec (motive := fun _ => Int → Int → Hp → Option (Int × Hp)) (fun _ _ _ => none) (fun _ rec x2 x3 h =>
    if 4 ≤ x3 then
      some (x2, h)
    else
      bd (f_X2_cell (x0 + 1) x1 x3 h) fun r1 h1 =>
      bd (f_X1_umbrellasWith x0 x3 r1 h1) fun r2 h2 =>
      lv (wr (x2 + (wr (13 - r2)))) fun y3 =>
      rec y3 (wr (x3 + 1)) h2) n
theorem f_X1_oddnessTogether_L4_s (x0 : Nat) (x1 : Int) (n : Nat) (x2 : Int) (x3 : Int) (h : Hp) : f_X1_oddnessTogether_L4 x0 x1 (n + 1) x2 x3 h =
    if 4 ≤ x3 then
      some (x2, h)
    else
      bd (f_X2_cell (x0 + 1) x1 x3 h) fun r1 h1 =>
      bd (f_X1_umbrellasWith x0 x3 r1 h1) fun r2 h2 =>
      lv (wr (x2 + (wr (13 - r2)))) fun y3 =>
      f_X1_oddnessTogether_L4 x0 x1 n y3 (wr (x3 + 1)) h2 := rfl
noncomputable def f_X1_oddnessTogether (x0 : Nat) (x1 : Int) (h : Hp) : Option (Int × Hp) :=
  (f_X1_oddnessTogether_L4 x0 x1
     fu 0 0 h)
noncomputable def f_X4_umbrella (x1 : Int) (x2 : Int) (h : Hp) : Option (Int × Hp) :=
  bd (f_X2_has 2 x1 h) fun r1 h1 =>
  if r1 = 0 then
    some ((-1000001), h1)
  else
    if x2 < 0 then
      some ((-1000001), h1)
    else
      if x2 ≤ 8 then
        if 4 < x2 then
          if ¬ x2 = 8 then
            bd (f_X0_matchAll 1 h1) fun _ h2 =>
            if ¬ x2 = 7 then
              bd (f_X0_claimMatched x1 h2) fun r3 h3 =>
              if ¬ r3 = (-1) then
                if ¬ x2 = 5 then
                  bd (f_X0_worthOf x1 r3 h3) fun r4 h4 =>
                  some (r4, h4)
                else
                  some (r3, h3)
              else
                some ((-1000004), h3)
            else
              bd (f_X0_claimsSuiting x1 h2) fun r5 h5 =>
              some (r5, h5)
          else
            bd (f_X1_oddnessTogether 1 x1 h1) fun r6 h6 =>
            some (r6, h6)
        else
          bd (f_X2_cell 2 x1 x2 h1) fun r7 h7 =>
          some (r7, h7)
      else
        some ((-1000001), h1)
noncomputable def f_X4_undo  (h : Hp) : Option (Int × Hp) :=
  if (h 0 4) ≤ 0 then
    some ((-1000002), h)
  else
    if (h 0 4) ≤ ((5 : Nat) : Int) then
      lt (hup h 0 4 (wr ((h 0 4) - 1))) fun h1 =>
      if okA h1 27 (h1 0 4) 5 then
        bd (f_X1_become 1 (Int.toNat (h1 27 (Int.toNat (h1 0 4)))) h1) fun _ h3 =>
        some ((h3 0 4), h3)
      else none
    else
      some ((-1000002), h)
noncomputable def f_X4_orNotFound (x0 : Int) (h : Hp) : Option (Int × Hp) :=
  if ¬ x0 = (-1) then
    some (x0, h)
  else
    some ((-1000004), h)
noncomputable def f_X0_umbrellasSuiting_L4 (x1 : Int) (n : Nat) : Int → Int → Hp → Option (Int × Hp) :=
  Nat.rec (motive := fun _ => Int → Int → Hp → Option (Int × Hp)) (fun _ _ _ => none) (fun _ rec x2 x3 h =>
    if (h 19 7) ≤ x3 then
      some (x2, h)
    else
      bd (f_X0_suits x3 x1 h) fun r1 h1 =>
      if r1 = 0 then
        rec x2 (wr (x3 + 1)) h1
      else
        rec (wr (x2 + 1)) (wr (x3 + 1)) h1) n
theorem f_X0_umbrellasSuiting_L4_s (x1 : Int) (n : Nat) (x2 : Int) (x3 : Int) (h : Hp) : f_X0_umbrellasSuiting_L4 x1 (n + 1) x2 x3 h =
    if (h 19 7) ≤ x3 then
      some (x2, h)
    else
      bd (f_X0_suits x3 x1 h) fun r1 h1 =>
      if r1 = 0 then
        f_X0_umbrellasSuiting_L4 x1 n x2 (wr (x3 + 1)) h1
      else
        f_X0_umbrellasSuiting_L4 x1 n (wr (x2 + 1)) (wr (x3 + 1)) h1 := rfl
noncomputable def f_X0_umbrellasSuiting (x1 : Int) (h : Hp) : Option (Int × Hp) :=
  (f_X0_umbrellasSuiting_L4 x1
     fu 0 0 h)
noncomputable def f_X4_claimOf (x1 : Int) (x2 : Int) (h : Hp) : Option (Int × Hp) :=
  bd (f_X2_has 4 x1 h) fun r1 h1 =>
  if r1 = 0 then
    some ((-1000001), h1)
  else
    if x2 < 0 then
      some ((-1000001), h1)
    else
      if x2 ≤ 7 then
        if 4 ≤ x2 then
          if ¬ x2 = 4 then
            if ¬ x2 = 7 then
              bd (f_X0_matchAll 1 h1) fun _ h2 =>
              if ¬ x2 = 5 then
                bd (f_X0_umbrellasSuiting x1 h2) fun r3 h3 =>
                some (r3, h3)
              else
                bd (f_X0_umbrellaMatched x1 h2) fun r4 h4 =>
                bd (f_X4_orNotFound r4 h4) fun r5 h5 =>
                some (r5, h5)
            else
              bd (f_X2_cell 4 x1 5 h1) fun r6 h6 =>
              some (r6, h6)
          else
            bd (f_X2_cell 4 x1 4 h1) fun r7 h7 =>
            some (r7, h7)
        else
          bd (f_X2_cell 4 x1 x2 h1) fun r8 h8 =>
          if ¬ r8 = (-1) then
            some (r8, h8)
          else
            some ((-1000004), h8)
      else
        some ((-1000001), h1)
noncomputable def f_X4_having (x1 : Int) (x2 : Int) (h : Hp) : Option (Int × Hp) :=
  bd (f_X4_isDetail x1 h) fun r1 h1 =>
  if r1 = 0 then
    some ((-1000001), h1)
  else
    bd (f_X4_isValue x2 h1) fun r2 h2 =>
    if ¬ r2 = 0 then
      bd (f_X1_umbrellasWith 1 x1 x2 h2) fun r3 h3 =>
      some (r3, h3)
    else
      some ((-1000001), h2)
noncomputable def f_X4_bitsOf_L6 (c20 : UInt32 → Int → Hp → Option (Int × Hp)) (n : Nat) : UInt32 → Int → Int → Hp → Option (Int × Hp) :=
  Nat.rec (motive := fun _ => UInt32 → Int → Int → Hp → Option (Int × Hp)) (fun _ _ _ _ => none) (fun _ rec x1 x2 x3 h =>
    if 127 ≤ x3 then
      c20 x1 x2 h
    else
      if (Op.cmpValue (FP.fcmp x1 0x40000000) .l).toInt < 0 then
        c20 x1 x2 h
      else
        if nN (FP.fdiv x1 0x40000000) then
          rec (FP.fdiv x1 0x40000000) (wr (x2 + 1)) (wr (x3 + 1)) h
        else none) n
theorem f_X4_bitsOf_L6_s (c20 : UInt32 → Int → Hp → Option (Int × Hp)) (n : Nat) (x1 : UInt32) (x2 : Int) (x3 : Int) (h : Hp) : f_X4_bitsOf_L6 c20 (n + 1) x1 x2 x3 h =
    if 127 ≤ x3 then
      c20 x1 x2 h
    else
      if (Op.cmpValue (FP.fcmp x1 0x40000000) .l).toInt < 0 then
        c20 x1 x2 h
      else
        if nN (FP.fdiv x1 0x40000000) then
          f_X4_bitsOf_L6 c20 n (FP.fdiv x1 0x40000000) (wr (x2 + 1)) (wr (x3 + 1)) h
        else none := rfl
noncomputable def f_X4_bitsOf (x0 : UInt32) (h : Hp) : Option (Int × Hp) :=
  (f_X4_bitsOf_L6 
    (fun y1 y2 h3 =>
      if nN (FP.fsub y1 0x3f800000) then
        if nN (FP.fmul (FP.fsub y1 0x3f800000) 1258291200) then
          lv (FP.f2i (FP.fmul (FP.fsub y1 0x3f800000) 1258291200)).toInt fun y4 =>
          some ((Int32.ofInt (Int32.ofInt y2 <<< (Int32.ofInt 23 &&& 31)).toInt ||| Int32.ofInt y4).toInt, h3)
        else none
      else none)
     fu x0 127 0 h)
noncomputable def f_X0_worthOfMatched_L4  (n : Nat) : Int → Int → Hp → Option (Int × Hp) :=
  Nat.rec (motive := fun _ => Int → Int → Hp → Option (Int × Hp)) (fun _ _ _ => none) (fun _ rec x1 x2 h =>
    if (h 19 7) ≤ x2 then
      some (x1, h)
    else
      bd (f_X0_claimMatched x2 h) fun r1 h1 =>
      if r1 = (-1) then
        rec x1 (wr (x2 + 1)) h1
      else
        bd (f_X0_worthOf x2 r1 h1) fun r2 h2 =>
        lv (wr (x1 + r2)) fun y3 =>
        rec y3 (wr (x2 + 1)) h2) n
theorem f_X0_worthOfMatched_L4_s  (n : Nat) (x1 : Int) (x2 : Int) (h : Hp) : f_X0_worthOfMatched_L4  (n + 1) x1 x2 h =
    if (h 19 7) ≤ x2 then
      some (x1, h)
    else
      bd (f_X0_claimMatched x2 h) fun r1 h1 =>
      if r1 = (-1) then
        f_X0_worthOfMatched_L4  n x1 (wr (x2 + 1)) h1
      else
        bd (f_X0_worthOf x2 r1 h1) fun r2 h2 =>
        lv (wr (x1 + r2)) fun y3 =>
        f_X0_worthOfMatched_L4  n y3 (wr (x2 + 1)) h2 := rfl
noncomputable def f_X0_worthOfMatched  (h : Hp) : Option (Int × Hp) :=
  (f_X0_worthOfMatched_L4 
     fu 0 0 h)
noncomputable def f_X4_mean  (h : Hp) : Option (Int × Hp) :=
  bd (f_X0_matchAll 1 h) fun _ h1 =>
  lv (h1 19 9) fun y2 =>
  if 0 < y2 then
    bd (f_X0_worthOfMatched  h1) fun r3 h3 =>
    if nN (FP.fdiv (FP.i2f (Int32.ofInt r3)) (FP.i2f (Int32.ofInt y2))) then
      bd (f_X4_bitsOf (FP.fdiv (FP.i2f (Int32.ofInt r3)) (FP.i2f (Int32.ofInt y2))) h3) fun r4 h4 =>
      some (r4, h4)
    else none
  else
    some ((-1000004), h1)
noncomputable def f_X4_oddest_L6  (n : Nat) : Int → Int → Int → Hp → Option (Int × Hp) :=
  Nat.rec (motive := fun _ => Int → Int → Int → Hp → Option (Int × Hp)) (fun _ _ _ _ => none) (fun _ rec x1 x2 x3 h =>
    if (h 2 1) ≤ x3 then
      bd (f_X4_orNotFound x1 h) fun r1 h1 =>
      some (r1, h1)
    else
      bd (f_X1_oddnessTogether 1 x3 h) fun r2 h2 =>
      if x1 = (-1) then
        rec x3 r2 (wr (x3 + 1)) h2
      else
        if r2 ≤ x2 then
          rec x1 x2 (wr (x3 + 1)) h2
        else
          rec x3 r2 (wr (x3 + 1)) h2) n
theorem f_X4_oddest_L6_s  (n : Nat) (x1 : Int) (x2 : Int) (x3 : Int) (h : Hp) : f_X4_oddest_L6  (n + 1) x1 x2 x3 h =
    if (h 2 1) ≤ x3 then
      bd (f_X4_orNotFound x1 h) fun r1 h1 =>
      some (r1, h1)
    else
      bd (f_X1_oddnessTogether 1 x3 h) fun r2 h2 =>
      if x1 = (-1) then
        f_X4_oddest_L6  n x3 r2 (wr (x3 + 1)) h2
      else
        if r2 ≤ x2 then
          f_X4_oddest_L6  n x1 x2 (wr (x3 + 1)) h2
        else
          f_X4_oddest_L6  n x3 r2 (wr (x3 + 1)) h2 := rfl
noncomputable def f_X4_oddest  (h : Hp) : Option (Int × Hp) :=
  (f_X4_oddest_L6 
     fu (-1) 0 0 h)
noncomputable def f_X4_isPair (x1 : Int) (x2 : Int) (h : Hp) : Option (Int × Hp) :=
  bd (f_X2_has 2 x1 h) fun r1 h1 =>
  if r1 = 0 then
    some (0, h1)
  else
    bd (f_X2_has 4 x2 h1) fun r2 h2 =>
    if r2 = 0 then
      some (0, h2)
    else
      some (1, h2)
noncomputable def f_X4_points (x1 : Int) (x2 : Int) (h : Hp) : Option (Int × Hp) :=
  bd (f_X4_isPair x1 x2 h) fun r1 h1 =>
  if ¬ r1 = 0 then
    bd (f_X0_weighAll 1 h1) fun _ h2 =>
    bd (f_X0_worthOf x1 x2 h2) fun r3 h3 =>
    some ((wr (1000 + r3)), h3)
  else
    some ((-1000001), h1)
noncomputable def f_X0_reasonAgainst (x1 : Int) (x2 : Int) (x3 : Nat) (h : Hp) : Option (Int × Hp) :=
  bd (f_X0_pairOf x1 x2 h) fun r1 h1 =>
  bd (f_X0_claimMatched x1 h1) fun r2 h2 =>
  if r1 < 0 then
    some (0, h2)
  else
    if 144 ≤ r1 then
      some (0, h2)
    else
      if ¬ r2 = x2 then
        if inb r1 144 then
          bd (f_X1_setting x3 0 h2) fun r3 h3 =>
          if (h2 20 (Int.toNat r1)) ≤ r3 then
            if inb r1 144 then
              if ¬ (h3 22 (Int.toNat r1)) = 0 then
                bd (f_X0_pairOf x1 r2 h3) fun r4 h4 =>
                bd (f_X0_aheadOf r4 r1 h4) fun r5 h5 =>
                if ¬ r5 = r1 then
                  some (3, h5)
                else
                  some (4, h5)
              else
                some (2, h3)
            else none
          else
            some (1, h3)
        else none
      else
        some (0, h2)
noncomputable def f_X4_why (x1 : Int) (x2 : Int) (h : Hp) : Option (Int × Hp) :=
  bd (f_X4_isPair x1 x2 h) fun r1 h1 =>
  if ¬ r1 = 0 then
    bd (f_X0_matchAll 1 h1) fun _ h2 =>
    bd (f_X0_reasonAgainst x1 x2 1 h2) fun r3 h3 =>
    some (r3, h3)
  else
    some ((-1000001), h1)
noncomputable def f_X4_ifTold (x1 : Int) (x2 : Int) (x3 : Int) (h : Hp) : Option (Int × Hp) :=
  bd (f_X1_become 10 1 h) fun _ h1 =>
  bd (f_X1_noteDetail 10 x1 x2 x3 h1) fun r2 h2 =>
  if 0 ≤ r2 then
    bd (f_X0_matchAll 10 h2) fun _ h3 =>
    bd (f_X0_umbrellaMatched x1 h3) fun r4 h4 =>
    bd (f_X4_orNotFound r4 h4) fun r5 h5 =>
    some (r5, h5)
  else
    some (r2, h2)
noncomputable def f_X4_ifWeeks (x1 : Int) (x2 : Int) (h : Hp) : Option (Int × Hp) :=
  bd (f_X4_isWeeksAtOnce x1 h) fun r1 h1 =>
  if r1 = 0 then
    some ((-1000001), h1)
  else
    if x2 < 0 then
      some ((-1000001), h1)
    else
      if x2 ≤ 2 then
        bd (f_X1_become 10 1 h1) fun _ h2 =>
        bd (f_X1_passWeeks 10 x1 1019 h2) fun r3 h3 =>
        if ¬ x2 = 0 then
          if ¬ x2 = 1 then
            bd (f_X0_matchAll 10 h3) fun _ h4 =>
            some ((h4 19 9), h4)
          else
            bd (f_X1_sum 10 9 h3) fun r5 h5 =>
            bd (f_X1_sum 1 9 h5) fun r6 h6 =>
            some ((wr (r5 - r6)), h6)
        else
          bd (f_X1_sum 10 8 h3) fun r7 h7 =>
          bd (f_X1_sum 1 8 h7) fun r8 h8 =>
          some ((wr (r7 - r8)), h8)
      else
        some ((-1000001), h1)

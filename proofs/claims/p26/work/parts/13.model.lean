/-! the check model's methods as functions (printed by wip/gen/gen.py out of the claim whole): numbers alone, no machine in them -/
noncomputable def f_J_isNaN (x0 : UInt32) (h : Hp) : Option (Int × Hp) :=
  if (Op.cmpValue (FP.fcmp x0 x0) .l).toInt = 0 then
    some (0, h)
  else
    some (1, h)
noncomputable def f_J_floatToIntBits (x0 : UInt32) (h : Hp) : Option (Int × Hp) :=
  bd (f_J_isNaN x0 h) fun r1 h1 =>
  if ¬ r1 = 0 then
    some (2143289344, h1)
  else
    some ((UInt32.toInt32 x0).toInt, h1)
noncomputable def f_X5_in (x0 : Int) (x1 : Int) (x2 : Int) (h : Hp) : Option (Int × Hp) :=
  if x0 < x1 then
    some (0, h)
  else
    if x2 < x0 then
      some (0, h)
    else
      some (1, h)
noncomputable def f_X5_areValues (x0 : Int) (x1 : Int) (x2 : Int) (x3 : Int) (x4 : Int) (h : Hp) : Option (Int × Hp) :=
  bd (f_X5_in x1 x0 9 h) fun r1 h1 =>
  if r1 = 0 then
    some (0, h1)
  else
    bd (f_X5_in x2 x0 9 h1) fun r2 h2 =>
    if r2 = 0 then
      some (0, h2)
    else
      bd (f_X5_in x3 x0 9 h2) fun r3 h3 =>
      if r3 = 0 then
        some (0, h3)
      else
        bd (f_X5_in x4 x0 9 h3) fun r4 h4 =>
        if r4 = 0 then
          some (0, h4)
        else
          some (1, h4)
noncomputable def f_X5_asks_L13 (x1 : Int) (x2 : Int) (x4 : Int) (c59 : Int → Hp → Option (Int × Hp)) (n : Nat) : Int → Int → Hp → Option (Int × Hp) :=
  Nat.rec (motive := fun _ => Int → Int → Hp → Option (Int × Hp)) (fun _ _ _ => none) (fun _ rec x5 x6 h =>
    if 12 ≤ x6 then
      c59 x5 h
    else
      if inb (wr ((wr (12 * x6)) + x1)) 144 then
        if inb (wr ((wr (12 * x4)) + x1)) 144 then
          lv (wr ((h 81 (Int.toNat (wr ((wr (12 * x6)) + x1)))) - (h 81 (Int.toNat (wr ((wr (12 * x4)) + x1)))))) fun y1 =>
          if inb (wr ((wr (12 * x6)) + x1)) 144 then
            if (h 81 (Int.toNat (wr ((wr (12 * x6)) + x1)))) = (-1) then
              lv (wr (x5 + 0)) fun y2 =>
              rec y2 (wr (x6 + 1)) h
            else
              if 0 < y1 then
                lv (wr (x5 + 1)) fun y3 =>
                rec y3 (wr (x6 + 1)) h
              else
                if ¬ y1 = 0 then
                  lv (wr (x5 + 0)) fun y4 =>
                  rec y4 (wr (x6 + 1)) h
                else
                  if x4 ≤ x6 then
                    lv (wr (x5 + 0)) fun y5 =>
                    rec y5 (wr (x6 + 1)) h
                  else
                    lv (wr (x5 + 1)) fun y6 =>
                    rec y6 (wr (x6 + 1)) h
          else none
        else none
      else none) n
theorem f_X5_asks_L13_s (x1 : Int) (x2 : Int) (x4 : Int) (c59 : Int → Hp → Option (Int × Hp)) (n : Nat) (x5 : Int) (x6 : Int) (h : Hp) : f_X5_asks_L13 x1 x2 x4 c59 (n + 1) x5 x6 h =
    if 12 ≤ x6 then
      c59 x5 h
    else
      if inb (wr ((wr (12 * x6)) + x1)) 144 then
        if inb (wr ((wr (12 * x4)) + x1)) 144 then
          lv (wr ((h 81 (Int.toNat (wr ((wr (12 * x6)) + x1)))) - (h 81 (Int.toNat (wr ((wr (12 * x4)) + x1)))))) fun y1 =>
          if inb (wr ((wr (12 * x6)) + x1)) 144 then
            if (h 81 (Int.toNat (wr ((wr (12 * x6)) + x1)))) = (-1) then
              lv (wr (x5 + 0)) fun y2 =>
              f_X5_asks_L13 x1 x2 x4 c59 n y2 (wr (x6 + 1)) h
            else
              if 0 < y1 then
                lv (wr (x5 + 1)) fun y3 =>
                f_X5_asks_L13 x1 x2 x4 c59 n y3 (wr (x6 + 1)) h
              else
                if ¬ y1 = 0 then
                  lv (wr (x5 + 0)) fun y4 =>
                  f_X5_asks_L13 x1 x2 x4 c59 n y4 (wr (x6 + 1)) h
                else
                  if x4 ≤ x6 then
                    lv (wr (x5 + 0)) fun y5 =>
                    f_X5_asks_L13 x1 x2 x4 c59 n y5 (wr (x6 + 1)) h
                  else
                    lv (wr (x5 + 1)) fun y6 =>
                    f_X5_asks_L13 x1 x2 x4 c59 n y6 (wr (x6 + 1)) h
          else none
        else none
      else none := rfl
noncomputable def f_X5_asks_L6 (x1 : Int) (c81 : Int → Hp → Option (Int × Hp)) (n : Nat) : Int → Int → Hp → Option (Int × Hp) :=
  Nat.rec (motive := fun _ => Int → Int → Hp → Option (Int × Hp)) (fun _ _ _ => none) (fun _ rec x2 x4 h =>
    if 12 ≤ x4 then
      c81 x2 h
    else
      (f_X5_asks_L13 x1 x2 x4
        (fun y7 h8 =>
          if inb (wr ((wr (12 * x4)) + x1)) 144 then
            if (h8 81 (Int.toNat (wr ((wr (12 * x4)) + x1)))) = (-1) then
              rec x2 (wr (x4 + 1)) h8
            else
              if inb x1 12 then
                if ¬ y7 = (h8 82 (Int.toNat x1)) then
                  rec x2 (wr (x4 + 1)) h8
                else
                  rec x4 (wr (x4 + 1)) h8
              else none
          else none)
         fu 0 0 h)) n
theorem f_X5_asks_L6_s (x1 : Int) (c81 : Int → Hp → Option (Int × Hp)) (n : Nat) (x2 : Int) (x4 : Int) (h : Hp) : f_X5_asks_L6 x1 c81 (n + 1) x2 x4 h =
    if 12 ≤ x4 then
      c81 x2 h
    else
      (f_X5_asks_L13 x1 x2 x4
        (fun y7 h8 =>
          if inb (wr ((wr (12 * x4)) + x1)) 144 then
            if (h8 81 (Int.toNat (wr ((wr (12 * x4)) + x1)))) = (-1) then
              f_X5_asks_L6 x1 c81 n x2 (wr (x4 + 1)) h8
            else
              if inb x1 12 then
                if ¬ y7 = (h8 82 (Int.toNat x1)) then
                  f_X5_asks_L6 x1 c81 n x2 (wr (x4 + 1)) h8
                else
                  f_X5_asks_L6 x1 c81 n x4 (wr (x4 + 1)) h8
              else none
          else none)
         fu 0 0 h) := rfl
noncomputable def f_X5_asks (x1 : Int) (h : Hp) : Option (Int × Hp) :=
  (f_X5_asks_L6 x1
    (fun y9 h10 =>
      if inb x1 12 then
        if inb x1 12 then
          lt (hup h10 82 (Int.toNat x1) (wr ((h10 82 (Int.toNat x1)) + 1))) fun h11 =>
          some (y9, h11)
        else none
      else none)
     fu (-1) 0 h)
noncomputable def f_X5_asksOn_J34 (c4 : Int → Hp → Option (Int × Hp)) (x1 : Int) (x2 : Int) (x3 : Int) (x4 : Int) (s0 : Int) (h : Hp) : Option (Int × Hp) :=
  if x3 = (-1) then
    if inb x2 12 then
      lt (hup h 79 (Int.toNat x2) x1) fun h4 =>
      some (x3, h4)
    else none
  else
    if s0 < x4 then
      if inb x2 12 then
        lt (hup h 79 (Int.toNat x2) x1) fun h5 =>
        some (x3, h5)
      else none
    else
      if ¬ x4 = s0 then
        bd (f_X5_asks x1 h) fun r6 h6 =>
        c4 r6 h6
      else
        if x3 ≤ x1 then
          bd (f_X5_asks x1 h) fun r7 h7 =>
          c4 r7 h7
        else
          if inb x2 12 then
            lt (hup h 79 (Int.toNat x2) x1) fun h8 =>
            some (x3, h8)
          else none
noncomputable def f_X5_asksOn_L4 (x1 : Int) (n : Nat) : Int → Hp → Option (Int × Hp) :=
  Nat.rec (motive := fun _ => Int → Hp → Option (Int × Hp)) (fun _ _ => none) (fun _ rec x2 h =>
    if x2 = (-1) then
      some ((-1), h)
    else
      if inb x2 12 then
        lv (h 79 (Int.toNat x2)) fun y2 =>
        if inb (wr ((wr (12 * x2)) + x1)) 144 then
          lv (h 81 (Int.toNat (wr ((wr (12 * x2)) + x1)))) fun y3 =>
          if ¬ y2 = (-1) then
            if inb (wr ((wr (12 * x2)) + y2)) 144 then
              f_X5_asksOn_J34 rec x1 x2 y2 y3 (h 81 (Int.toNat (wr ((wr (12 * x2)) + y2)))) h
            else none
          else
            f_X5_asksOn_J34 rec x1 x2 y2 y3 (-1) h
        else none
      else none) n
theorem f_X5_asksOn_L4_s (x1 : Int) (n : Nat) (x2 : Int) (h : Hp) : f_X5_asksOn_L4 x1 (n + 1) x2 h =
    if x2 = (-1) then
      some ((-1), h)
    else
      if inb x2 12 then
        lv (h 79 (Int.toNat x2)) fun y2 =>
        if inb (wr ((wr (12 * x2)) + x1)) 144 then
          lv (h 81 (Int.toNat (wr ((wr (12 * x2)) + x1)))) fun y3 =>
          if ¬ y2 = (-1) then
            if inb (wr ((wr (12 * x2)) + y2)) 144 then
              f_X5_asksOn_J34 (f_X5_asksOn_L4 x1 n) x1 x2 y2 y3 (h 81 (Int.toNat (wr ((wr (12 * x2)) + y2)))) h
            else none
          else
            f_X5_asksOn_J34 (f_X5_asksOn_L4 x1 n) x1 x2 y2 y3 (-1) h
        else none
      else none := rfl
noncomputable def f_X5_asksOn (x1 : Int) (h : Hp) : Option (Int × Hp) :=
  bd (f_X5_asks x1 h) fun r1 h1 =>
  (f_X5_asksOn_L4 x1
     fu r1 h1)
noncomputable def f_X5_book (x1 : Int) (x2 : Int) (h : Hp) : Option (Int × Hp) :=
  if x1 < 0 then
    some ((-1000001), h)
  else
    bd (f_X5_in x2 0 3 h) fun r1 h1 =>
    if ¬ r1 = 0 then
      if inb 17 1330 then
        if (h1 77 (Int.toNat 17)) ≤ x1 then
          some ((-1000004), h1)
        else
          if inb 17 1330 then
            if inb (wr ((wr (150 + (wr (4 * (wr ((wr ((h1 77 (Int.toNat 17)) - 1)) - x1)))))) + x2)) 1330 then
              some ((h1 77 (Int.toNat (wr ((wr (150 + (wr (4 * (wr ((wr ((h1 77 (Int.toNat 17)) - 1)) - x1)))))) + x2)))), h1)
            else none
          else none
      else none
    else
      some ((-1000001), h1)
noncomputable def f_X5_claimAt (x0 : Int) (x1 : Int) (h : Hp) : Option (Int × Hp) :=
  some ((wr ((wr (x0 + 78)) + (wr (6 * x1)))), h)
noncomputable def f_X5_umbrellaAt (x0 : Int) (x1 : Int) (h : Hp) : Option (Int × Hp) :=
  some ((wr ((wr (x0 + 18)) + (wr (5 * x1)))), h)
noncomputable def f_X5_many_L4 (x1 : Int) (x2 : Int) (x3 : Int) (n : Nat) : Int → Int → Hp → Option (Int × Hp) :=
  Nat.rec (motive := fun _ => Int → Int → Hp → Option (Int × Hp)) (fun _ _ _ => none) (fun _ rec x4 x5 h =>
    if inb (wr (x1 + 15)) 1330 then
      if (h 77 (Int.toNat (wr (x1 + 15)))) ≤ x5 then
        some (x4, h)
      else
        bd (f_X5_umbrellaAt x1 x5 h) fun r1 h1 =>
        if inb (wr (r1 + x2)) 1330 then
          if ¬ (h1 77 (Int.toNat (wr (r1 + x2)))) = x3 then
            lv (wr (x4 + 0)) fun y2 =>
            rec y2 (wr (x5 + 1)) h1
          else
            lv (wr (x4 + 1)) fun y3 =>
            rec y3 (wr (x5 + 1)) h1
        else none
    else none) n
theorem f_X5_many_L4_s (x1 : Int) (x2 : Int) (x3 : Int) (n : Nat) (x4 : Int) (x5 : Int) (h : Hp) : f_X5_many_L4 x1 x2 x3 (n + 1) x4 x5 h =
    if inb (wr (x1 + 15)) 1330 then
      if (h 77 (Int.toNat (wr (x1 + 15)))) ≤ x5 then
        some (x4, h)
      else
        bd (f_X5_umbrellaAt x1 x5 h) fun r1 h1 =>
        if inb (wr (r1 + x2)) 1330 then
          if ¬ (h1 77 (Int.toNat (wr (r1 + x2)))) = x3 then
            lv (wr (x4 + 0)) fun y2 =>
            f_X5_many_L4 x1 x2 x3 n y2 (wr (x5 + 1)) h1
          else
            lv (wr (x4 + 1)) fun y3 =>
            f_X5_many_L4 x1 x2 x3 n y3 (wr (x5 + 1)) h1
        else none
    else none := rfl
noncomputable def f_X5_many (x1 : Int) (x2 : Int) (x3 : Int) (h : Hp) : Option (Int × Hp) :=
  (f_X5_many_L4 x1 x2 x3
     fu 0 0 h)
noncomputable def f_X5_misses_L4 (x1 : Int) (x2 : Int) (x3 : Int) (n : Nat) : Int → Int → Hp → Option (Int × Hp) :=
  Nat.rec (motive := fun _ => Int → Int → Hp → Option (Int × Hp)) (fun _ _ _ => none) (fun _ rec x4 x5 h =>
    if 4 ≤ x5 then
      some (x4, h)
    else
      bd (f_X5_claimAt x1 x3 h) fun r1 h1 =>
      if inb (wr (r1 + x5)) 1330 then
        lv (h1 77 (Int.toNat (wr (r1 + x5)))) fun y2 =>
        if y2 = (-1) then
          lv (wr (x4 + 0)) fun y3 =>
          rec y3 (wr (x5 + 1)) h1
        else
          bd (f_X5_umbrellaAt x1 x2 h1) fun r4 h4 =>
          if inb (wr (r4 + x5)) 1330 then
            if y2 = (h4 77 (Int.toNat (wr (r4 + x5)))) then
              lv (wr (x4 + 0)) fun y5 =>
              rec y5 (wr (x5 + 1)) h4
            else
              lv (wr (x4 + 1)) fun y6 =>
              rec y6 (wr (x5 + 1)) h4
          else none
      else none) n
theorem f_X5_misses_L4_s (x1 : Int) (x2 : Int) (x3 : Int) (n : Nat) (x4 : Int) (x5 : Int) (h : Hp) : f_X5_misses_L4 x1 x2 x3 (n + 1) x4 x5 h =
    if 4 ≤ x5 then
      some (x4, h)
    else
      bd (f_X5_claimAt x1 x3 h) fun r1 h1 =>
      if inb (wr (r1 + x5)) 1330 then
        lv (h1 77 (Int.toNat (wr (r1 + x5)))) fun y2 =>
        if y2 = (-1) then
          lv (wr (x4 + 0)) fun y3 =>
          f_X5_misses_L4 x1 x2 x3 n y3 (wr (x5 + 1)) h1
        else
          bd (f_X5_umbrellaAt x1 x2 h1) fun r4 h4 =>
          if inb (wr (r4 + x5)) 1330 then
            if y2 = (h4 77 (Int.toNat (wr (r4 + x5)))) then
              lv (wr (x4 + 0)) fun y5 =>
              f_X5_misses_L4 x1 x2 x3 n y5 (wr (x5 + 1)) h4
            else
              lv (wr (x4 + 1)) fun y6 =>
              f_X5_misses_L4 x1 x2 x3 n y6 (wr (x5 + 1)) h4
          else none
      else none := rfl
noncomputable def f_X5_misses (x1 : Int) (x2 : Int) (x3 : Int) (h : Hp) : Option (Int × Hp) :=
  (f_X5_misses_L4 x1 x2 x3
     fu 0 0 h)
noncomputable def f_X5_pointsOf_L32 (x1 : Int) (x2 : Int) (x3 : Int) (n : Nat) : Int → Int → Hp → Option (Int × Hp) :=
  Nat.rec (motive := fun _ => Int → Int → Hp → Option (Int × Hp)) (fun _ _ _ => none) (fun _ rec x4 x5 h =>
    if 4 ≤ x5 then
      some (x4, h)
    else
      bd (f_X5_umbrellaAt x1 x2 h) fun r4 h4 =>
      if inb (wr (r4 + x5)) 1330 then
        lv (h4 77 (Int.toNat (wr (r4 + x5)))) fun y5 =>
        bd (f_X5_claimAt x1 x3 h4) fun r6 h6 =>
        if inb (wr (r6 + x5)) 1330 then
          if ¬ (h6 77 (Int.toNat (wr (r6 + x5)))) = y5 then
            lv (wr (x4 + 0)) fun y7 =>
            rec y7 (wr (x5 + 1)) h6
          else
            bd (f_X5_many x1 x5 y5 h6) fun r8 h8 =>
            lv (wr (x4 + (wr (13 - r8)))) fun y9 =>
            rec y9 (wr (x5 + 1)) h8
        else none
      else none) n
theorem f_X5_pointsOf_L32_s (x1 : Int) (x2 : Int) (x3 : Int) (n : Nat) (x4 : Int) (x5 : Int) (h : Hp) : f_X5_pointsOf_L32 x1 x2 x3 (n + 1) x4 x5 h =
    if 4 ≤ x5 then
      some (x4, h)
    else
      bd (f_X5_umbrellaAt x1 x2 h) fun r4 h4 =>
      if inb (wr (r4 + x5)) 1330 then
        lv (h4 77 (Int.toNat (wr (r4 + x5)))) fun y5 =>
        bd (f_X5_claimAt x1 x3 h4) fun r6 h6 =>
        if inb (wr (r6 + x5)) 1330 then
          if ¬ (h6 77 (Int.toNat (wr (r6 + x5)))) = y5 then
            lv (wr (x4 + 0)) fun y7 =>
            f_X5_pointsOf_L32 x1 x2 x3 n y7 (wr (x5 + 1)) h6
          else
            bd (f_X5_many x1 x5 y5 h6) fun r8 h8 =>
            lv (wr (x4 + (wr (13 - r8)))) fun y9 =>
            f_X5_pointsOf_L32 x1 x2 x3 n y9 (wr (x5 + 1)) h8
        else none
      else none := rfl
noncomputable def f_X5_pointsOf (x1 : Int) (x2 : Int) (x3 : Int) (h : Hp) : Option (Int × Hp) :=
  if inb (wr (x1 + 2)) 1330 then
    bd (f_X5_misses x1 x2 x3 h) fun r1 h1 =>
    if inb (wr (x1 + 3)) 1330 then
      bd (f_X5_claimAt x1 x3 h1) fun r2 h2 =>
      if inb (wr (r2 + 5)) 1330 then
        lv (wr ((wr ((wr (-(h 77 (Int.toNat (wr (x1 + 2)))))) * r1)) - (wr ((h1 77 (Int.toNat (wr (x1 + 3)))) * (h2 77 (Int.toNat (wr (r2 + 5)))))))) fun y3 =>
        (f_X5_pointsOf_L32 x1 x2 x3
           fu y3 0 h2)
      else none
    else none
  else none
noncomputable def f_X5_suits (x1 : Int) (x2 : Int) (x3 : Int) (h : Hp) : Option (Int × Hp) :=
  bd (f_X5_misses x1 x2 x3 h) fun r1 h1 =>
  if inb (wr (x1 + 1)) 1330 then
    if (h1 77 (Int.toNat (wr (x1 + 1)))) < r1 then
      some (0, h1)
    else
      bd (f_X5_pointsOf x1 x2 x3 h1) fun r2 h2 =>
      if inb (wr (x1 + 4)) 1330 then
        if r2 < (h2 77 (Int.toNat (wr (x1 + 4)))) then
          some (0, h2)
        else
          some (1, h2)
      else none
  else none
noncomputable def f_X5_clears_L2 (x1 : Int) (c22 : Hp → Option (Int × Hp)) (n : Nat) : Int → Hp → Option (Int × Hp) :=
  Nat.rec (motive := fun _ => Int → Hp → Option (Int × Hp)) (fun _ _ => none) (fun _ rec x2 h =>
    if 12 ≤ x2 then
      c22 h
    else
      if inb x2 12 then
        lt (hup h 79 (Int.toNat x2) (-1)) fun h1 =>
        if inb x2 12 then
          lt (hup h1 80 (Int.toNat x2) (-1)) fun h2 =>
          if inb x2 12 then
            lt (hup h2 82 (Int.toNat x2) 0) fun h3 =>
            rec (wr (x2 + 1)) h3
          else none
        else none
      else none) n
theorem f_X5_clears_L2_s (x1 : Int) (c22 : Hp → Option (Int × Hp)) (n : Nat) (x2 : Int) (h : Hp) : f_X5_clears_L2 x1 c22 (n + 1) x2 h =
    if 12 ≤ x2 then
      c22 h
    else
      if inb x2 12 then
        lt (hup h 79 (Int.toNat x2) (-1)) fun h1 =>
        if inb x2 12 then
          lt (hup h1 80 (Int.toNat x2) (-1)) fun h2 =>
          if inb x2 12 then
            lt (hup h2 82 (Int.toNat x2) 0) fun h3 =>
            f_X5_clears_L2 x1 c22 n (wr (x2 + 1)) h3
          else none
        else none
      else none := rfl
noncomputable def f_X5_clears_J50 (c24 : Int → Hp → Option (Int × Hp)) (x1 : Int) (x2 : Int) (s0 : Int) (h : Hp) : Option (Int × Hp) :=
  if s0 = 0 then
    if inb x2 144 then
      lt (hup h 81 (Int.toNat x2) (-1)) fun h5 =>
      c24 (wr (x2 + 1)) h5
    else none
  else
    bd (f_X5_suits x1 (wr (Int.tdiv x2 12)) (wr (x2 - Int.tdiv x2 12 * 12)) h) fun r6 h6 =>
    if r6 = 0 then
      if inb x2 144 then
        lt (hup h6 81 (Int.toNat x2) (-1)) fun h7 =>
        c24 (wr (x2 + 1)) h7
      else none
    else
      bd (f_X5_pointsOf x1 (wr (Int.tdiv x2 12)) (wr (x2 - Int.tdiv x2 12 * 12)) h6) fun r8 h8 =>
      if inb x2 144 then
        lt (hup h8 81 (Int.toNat x2) r8) fun h9 =>
        c24 (wr (x2 + 1)) h9
      else none
noncomputable def f_X5_clears_J49 (c24 : Int → Hp → Option (Int × Hp)) (x1 : Int) (x2 : Int) (h : Hp) : Option (Int × Hp) :=
  f_X5_clears_J50 c24 x1 x2 0 h
noncomputable def f_X5_clears_L24 (x1 : Int) (n : Nat) : Int → Hp → Option (Int × Hp) :=
  Nat.rec (motive := fun _ => Int → Hp → Option (Int × Hp)) (fun _ _ => none) (fun _ rec x2 h =>
    if 144 ≤ x2 then
      some (0, h)
    else
      if inb (wr (x1 + 15)) 1330 then
        if (h 77 (Int.toNat (wr (x1 + 15)))) ≤ (wr (Int.tdiv x2 12)) then
          f_X5_clears_J49 rec x1 x2 h
        else
          if inb (wr (x1 + 16)) 1330 then
            if (h 77 (Int.toNat (wr (x1 + 16)))) ≤ (wr (x2 - Int.tdiv x2 12 * 12)) then
              f_X5_clears_J49 rec x1 x2 h
            else
              f_X5_clears_J50 rec x1 x2 1 h
          else none
      else none) n
theorem f_X5_clears_L24_s (x1 : Int) (n : Nat) (x2 : Int) (h : Hp) : f_X5_clears_L24 x1 (n + 1) x2 h =
    if 144 ≤ x2 then
      some (0, h)
    else
      if inb (wr (x1 + 15)) 1330 then
        if (h 77 (Int.toNat (wr (x1 + 15)))) ≤ (wr (Int.tdiv x2 12)) then
          f_X5_clears_J49 (f_X5_clears_L24 x1 n) x1 x2 h
        else
          if inb (wr (x1 + 16)) 1330 then
            if (h 77 (Int.toNat (wr (x1 + 16)))) ≤ (wr (x2 - Int.tdiv x2 12 * 12)) then
              f_X5_clears_J49 (f_X5_clears_L24 x1 n) x1 x2 h
            else
              f_X5_clears_J50 (f_X5_clears_L24 x1 n) x1 x2 1 h
          else none
      else none := rfl
noncomputable def f_X5_clears (x1 : Int) (h : Hp) : Option (Int × Hp) :=
  (f_X5_clears_L2 x1
    (fun h4 =>
      (f_X5_clears_L24 x1
         fu 0 h4))
     fu 0 h)
noncomputable def f_X5_byAsking_L15 (x1 : Int) (x2 : Int) (c23 : Hp → Option (Int × Hp)) (n : Nat) : Int → Hp → Option (Int × Hp) :=
  Nat.rec (motive := fun _ => Int → Hp → Option (Int × Hp)) (fun _ _ => none) (fun _ rec x3 h =>
    if x3 = (-1) then
      c23 h
    else
      bd (f_X5_asksOn x3 h) fun r2 h2 =>
      rec r2 h2) n
theorem f_X5_byAsking_L15_s (x1 : Int) (x2 : Int) (c23 : Hp → Option (Int × Hp)) (n : Nat) (x3 : Int) (h : Hp) : f_X5_byAsking_L15 x1 x2 c23 (n + 1) x3 h =
    if x3 = (-1) then
      c23 h
    else
      bd (f_X5_asksOn x3 h) fun r2 h2 =>
      f_X5_byAsking_L15 x1 x2 c23 n r2 h2 := rfl
noncomputable def f_X5_byAsking_L5 (x1 : Int) (c25 : Hp → Option (Int × Hp)) (n : Nat) : Int → Hp → Option (Int × Hp) :=
  Nat.rec (motive := fun _ => Int → Hp → Option (Int × Hp)) (fun _ _ => none) (fun _ rec x2 h =>
    if inb (wr (x1 + 16)) 1330 then
      if (h 77 (Int.toNat (wr (x1 + 16)))) ≤ x2 then
        c25 h
      else
        (f_X5_byAsking_L15 x1 x2
          (fun h3 =>
            rec (wr (x2 + 1)) h3)
           fu x2 h)
    else none) n
theorem f_X5_byAsking_L5_s (x1 : Int) (c25 : Hp → Option (Int × Hp)) (n : Nat) (x2 : Int) (h : Hp) : f_X5_byAsking_L5 x1 c25 (n + 1) x2 h =
    if inb (wr (x1 + 16)) 1330 then
      if (h 77 (Int.toNat (wr (x1 + 16)))) ≤ x2 then
        c25 h
      else
        (f_X5_byAsking_L15 x1 x2
          (fun h3 =>
            f_X5_byAsking_L5 x1 c25 n (wr (x2 + 1)) h3)
           fu x2 h)
    else none := rfl
noncomputable def f_X5_byAsking_L29  (n : Nat) : Int → Int → Hp → Option (Int × Hp) :=
  Nat.rec (motive := fun _ => Int → Int → Hp → Option (Int × Hp)) (fun _ _ _ => none) (fun _ rec x2 x3 h =>
    if 12 ≤ x3 then
      some (x2, h)
    else
      if inb x3 12 then
        if ¬ (h 79 (Int.toNat x3)) = (-1) then
          lv (wr (x2 + 1)) fun y5 =>
          rec y5 (wr (x3 + 1)) h
        else
          lv (wr (x2 + 0)) fun y6 =>
          rec y6 (wr (x3 + 1)) h
      else none) n
theorem f_X5_byAsking_L29_s  (n : Nat) (x2 : Int) (x3 : Int) (h : Hp) : f_X5_byAsking_L29  (n + 1) x2 x3 h =
    if 12 ≤ x3 then
      some (x2, h)
    else
      if inb x3 12 then
        if ¬ (h 79 (Int.toNat x3)) = (-1) then
          lv (wr (x2 + 1)) fun y5 =>
          f_X5_byAsking_L29  n y5 (wr (x3 + 1)) h
        else
          lv (wr (x2 + 0)) fun y6 =>
          f_X5_byAsking_L29  n y6 (wr (x3 + 1)) h
      else none := rfl
noncomputable def f_X5_byAsking (x1 : Int) (h : Hp) : Option (Int × Hp) :=
  bd (f_X5_clears x1 h) fun _ h1 =>
  (f_X5_byAsking_L5 x1
    (fun h4 =>
      (f_X5_byAsking_L29 
         fu 0 0 h4))
     fu 0 h1)
noncomputable def f_X5_lays (x1 : Int) (x2 : Int) (x3 : Int) (x4 : Int) (x5 : Int) (h : Hp) : Option (Int × Hp) :=
  if inb x1 1330 then
    lt (hup h 77 (Int.toNat x1) x2) fun h1 =>
    if inb (wr (x1 + 1)) 1330 then
      lt (hup h1 77 (Int.toNat (wr (x1 + 1))) x3) fun h2 =>
      if inb (wr (x1 + 2)) 1330 then
        lt (hup h2 77 (Int.toNat (wr (x1 + 2))) x4) fun h3 =>
        if inb (wr (x1 + 3)) 1330 then
          lt (hup h3 77 (Int.toNat (wr (x1 + 3))) x5) fun h4 =>
          if inb (wr (x1 + 4)) 1330 then
            lt (hup h4 77 (Int.toNat (wr (x1 + 4))) 0) fun h5 =>
            some (0, h5)
          else none
        else none
      else none
    else none
  else none
noncomputable def f_X5_claims (x1 : Int) (x2 : Int) (x3 : Int) (x4 : Int) (x5 : Int) (h : Hp) : Option (Int × Hp) :=
  bd (f_X5_areValues (-1) x2 x3 x4 x5 h) fun r1 h1 =>
  if ¬ r1 = 0 then
    if ¬ (wr ((wr ((wr (x2 + x3)) + x4)) + x5)) = (-4) then
      if inb (wr (x1 + 16)) 1330 then
        if ¬ (h1 77 (Int.toNat (wr (x1 + 16)))) = 12 then
          if inb (wr (x1 + 16)) 1330 then
            bd (f_X5_claimAt x1 (h1 77 (Int.toNat (wr (x1 + 16)))) h1) fun r2 h2 =>
            bd (f_X5_lays r2 x2 x3 x4 x5 h2) fun _ h3 =>
            if inb (wr (x1 + 16)) 1330 then
              bd (f_X5_claimAt x1 (h3 77 (Int.toNat (wr (x1 + 16)))) h3) fun r4 h4 =>
              if inb (wr (r4 + 5)) 1330 then
                lt (hup h4 77 (Int.toNat (wr (r4 + 5))) 0) fun h5 =>
                if inb (wr (x1 + 9)) 1330 then
                  if inb (wr (x1 + 9)) 1330 then
                    lt (hup h5 77 (Int.toNat (wr (x1 + 9))) (wr ((h5 77 (Int.toNat (wr (x1 + 9)))) + 1))) fun h6 =>
                    if inb (wr (x1 + 16)) 1330 then
                      if inb (wr (x1 + 16)) 1330 then
                        lt (hup h6 77 (Int.toNat (wr (x1 + 16))) (wr ((h6 77 (Int.toNat (wr (x1 + 16)))) + 1))) fun h7 =>
                        if inb (wr (x1 + 16)) 1330 then
                          some ((wr ((h7 77 (Int.toNat (wr (x1 + 16)))) - 1)), h7)
                        else none
                      else none
                    else none
                  else none
                else none
              else none
            else none
          else none
        else
          some ((-1000003), h1)
      else none
    else
      some ((-1000002), h1)
  else
    some ((-1000001), h1)
noncomputable def f_X5_copies_L2 (x1 : Int) (x2 : Int) (n : Nat) : Int → Hp → Option (Int × Hp) :=
  Nat.rec (motive := fun _ => Int → Hp → Option (Int × Hp)) (fun _ _ => none) (fun _ rec x3 h =>
    if 190 ≤ x3 then
      some (0, h)
    else
      if inb (wr ((wr (190 * x1)) + x3)) 1330 then
        if inb (wr ((wr (190 * x2)) + x3)) 1330 then
          lt (hup h 77 (Int.toNat (wr ((wr (190 * x2)) + x3))) (h 77 (Int.toNat (wr ((wr (190 * x1)) + x3))))) fun h1 =>
          rec (wr (x3 + 1)) h1
        else none
      else none) n
theorem f_X5_copies_L2_s (x1 : Int) (x2 : Int) (n : Nat) (x3 : Int) (h : Hp) : f_X5_copies_L2 x1 x2 (n + 1) x3 h =
    if 190 ≤ x3 then
      some (0, h)
    else
      if inb (wr ((wr (190 * x1)) + x3)) 1330 then
        if inb (wr ((wr (190 * x2)) + x3)) 1330 then
          lt (hup h 77 (Int.toNat (wr ((wr (190 * x2)) + x3))) (h 77 (Int.toNat (wr ((wr (190 * x1)) + x3))))) fun h1 =>
          f_X5_copies_L2 x1 x2 n (wr (x3 + 1)) h1
        else none
      else none := rfl
noncomputable def f_X5_copies (x1 : Int) (x2 : Int) (h : Hp) : Option (Int × Hp) :=
  (f_X5_copies_L2 x1 x2
     fu 0 h)
noncomputable def f_X5_records_J23  (h : Hp) : Option (Int × Hp) :=
  lt (hup h 76 1 (wr ((h 76 1) + 1))) fun h1 =>
  bd (f_X5_copies 0 (h1 76 1) h1) fun _ h2 =>
  some (0, h2)
noncomputable def f_X5_records_L6 (c17 : Hp → Option (Int × Hp)) (n : Nat) : Int → Hp → Option (Int × Hp) :=
  Nat.rec (motive := fun _ => Int → Hp → Option (Int × Hp)) (fun _ _ => none) (fun _ rec x1 h =>
    if 4 ≤ x1 then
      c17 h
    else
      bd (f_X5_copies (wr (x1 + 1)) x1 h) fun _ h3 =>
      rec (wr (x1 + 1)) h3) n
theorem f_X5_records_L6_s (c17 : Hp → Option (Int × Hp)) (n : Nat) (x1 : Int) (h : Hp) : f_X5_records_L6 c17 (n + 1) x1 h =
    if 4 ≤ x1 then
      c17 h
    else
      bd (f_X5_copies (wr (x1 + 1)) x1 h) fun _ h3 =>
      f_X5_records_L6 c17 n (wr (x1 + 1)) h3 := rfl
noncomputable def f_X5_records  (h : Hp) : Option (Int × Hp) :=
  if ¬ (h 76 1) = 4 then
    f_X5_records_J23  h
  else
    (f_X5_records_L6 
      (fun h4 =>
        lt (hup h4 76 1 (wr ((h4 76 1) - 1))) fun h5 =>
        f_X5_records_J23  h5)
       fu 1 h)
noncomputable def f_X5_done (x1 : Int) (h : Hp) : Option (Int × Hp) :=
  if x1 < 0 then
    some (x1, h)
  else
    bd (f_X5_records  h) fun _ h1 =>
    bd (f_X5_copies 5 0 h1) fun _ h2 =>
    some (x1, h2)
noncomputable def f_X5_tried  (h : Hp) : Option (Int × Hp) :=
  bd (f_X5_copies 0 5 h) fun _ h1 =>
  some (950, h1)
noncomputable def f_X5_claim (x1 : Int) (x2 : Int) (x3 : Int) (x4 : Int) (h : Hp) : Option (Int × Hp) :=
  bd (f_X5_tried  h) fun r1 h1 =>
  bd (f_X5_claims r1 x1 x2 x3 x4 h1) fun r2 h2 =>
  bd (f_X5_done r2 h2) fun r3 h3 =>
  some (r3, h3)
noncomputable def f_X5_claimGoes_L14 (x1 : Int) (n : Nat) : Int → Hp → Option (Int × Hp) :=
  Nat.rec (motive := fun _ => Int → Hp → Option (Int × Hp)) (fun _ _ => none) (fun _ rec x3 h =>
    if inb (wr (x1 + 16)) 1330 then
      bd (f_X5_claimAt x1 (h 77 (Int.toNat (wr (x1 + 16)))) h) fun r3 h3 =>
      if r3 ≤ x3 then
        some (0, h3)
      else
        if inb (wr (x3 + 6)) 1330 then
          if inb x3 1330 then
            lt (hup h3 77 (Int.toNat x3) (h3 77 (Int.toNat (wr (x3 + 6))))) fun h4 =>
            rec (wr (x3 + 1)) h4
          else none
        else none
    else none) n
theorem f_X5_claimGoes_L14_s (x1 : Int) (n : Nat) (x3 : Int) (h : Hp) : f_X5_claimGoes_L14 x1 (n + 1) x3 h =
    if inb (wr (x1 + 16)) 1330 then
      bd (f_X5_claimAt x1 (h 77 (Int.toNat (wr (x1 + 16)))) h) fun r3 h3 =>
      if r3 ≤ x3 then
        some (0, h3)
      else
        if inb (wr (x3 + 6)) 1330 then
          if inb x3 1330 then
            lt (hup h3 77 (Int.toNat x3) (h3 77 (Int.toNat (wr (x3 + 6))))) fun h4 =>
            f_X5_claimGoes_L14 x1 n (wr (x3 + 1)) h4
          else none
        else none
    else none := rfl
noncomputable def f_X5_claimGoes (x1 : Int) (x2 : Int) (h : Hp) : Option (Int × Hp) :=
  if inb (wr (x1 + 16)) 1330 then
    if inb (wr (x1 + 16)) 1330 then
      lt (hup h 77 (Int.toNat (wr (x1 + 16))) (wr ((h 77 (Int.toNat (wr (x1 + 16)))) - 1))) fun h1 =>
      bd (f_X5_claimAt x1 x2 h1) fun r2 h2 =>
      (f_X5_claimGoes_L14 x1
         fu r2 h2)
    else none
  else none
noncomputable def f_X5_isClaim (x1 : Int) (x2 : Int) (h : Hp) : Option (Int × Hp) :=
  if inb (wr (x1 + 16)) 1330 then
    bd (f_X5_in x2 0 (wr ((h 77 (Int.toNat (wr (x1 + 16)))) - 1)) h) fun r1 h1 =>
    if isB r1 then some (r1, h1) else none
  else none
noncomputable def f_X5_matches_J41 (c13 : Int → Int → Hp → Option (Int × Hp)) (x2 : Int) (x4 : Int) (x5 : Int) (s0 : Int) (h : Hp) : Option (Int × Hp) :=
  if s0 = 0 then
    c13 x4 (wr (x5 + 1)) h
  else
    if x4 = (-1) then
      c13 x5 (wr (x5 + 1)) h
    else
      if inb x5 144 then
        if inb x4 144 then
          if (h 81 (Int.toNat x5)) ≤ (h 81 (Int.toNat x4)) then
            c13 x4 (wr (x5 + 1)) h
          else
            c13 x5 (wr (x5 + 1)) h
        else none
      else none
noncomputable def f_X5_matches_J40 (c13 : Int → Int → Hp → Option (Int × Hp)) (x2 : Int) (x4 : Int) (x5 : Int) (h : Hp) : Option (Int × Hp) :=
  f_X5_matches_J41 c13 x2 x4 x5 0 h
noncomputable def f_X5_matches_L13 (x2 : Int) (c62 : Int → Hp → Option (Int × Hp)) (n : Nat) : Int → Int → Hp → Option (Int × Hp) :=
  Nat.rec (motive := fun _ => Int → Int → Hp → Option (Int × Hp)) (fun _ _ _ => none) (fun _ rec x4 x5 h =>
    if 144 ≤ x5 then
      c62 x4 h
    else
      if inb x5 144 then
        if (h 81 (Int.toNat x5)) = (-1) then
          f_X5_matches_J40 rec x2 x4 x5 h
        else
          if inb (wr (Int.tdiv x5 12)) 12 then
            if ¬ (h 79 (Int.toNat (wr (Int.tdiv x5 12)))) = (-1) then
              f_X5_matches_J40 rec x2 x4 x5 h
            else
              if inb (wr (x5 - Int.tdiv x5 12 * 12)) 12 then
                if ¬ (h 80 (Int.toNat (wr (x5 - Int.tdiv x5 12 * 12)))) = (-1) then
                  f_X5_matches_J40 rec x2 x4 x5 h
                else
                  f_X5_matches_J41 rec x2 x4 x5 1 h
              else none
          else none
      else none) n
theorem f_X5_matches_L13_s (x2 : Int) (c62 : Int → Hp → Option (Int × Hp)) (n : Nat) (x4 : Int) (x5 : Int) (h : Hp) : f_X5_matches_L13 x2 c62 (n + 1) x4 x5 h =
    if 144 ≤ x5 then
      c62 x4 h
    else
      if inb x5 144 then
        if (h 81 (Int.toNat x5)) = (-1) then
          f_X5_matches_J40 (f_X5_matches_L13 x2 c62 n) x2 x4 x5 h
        else
          if inb (wr (Int.tdiv x5 12)) 12 then
            if ¬ (h 79 (Int.toNat (wr (Int.tdiv x5 12)))) = (-1) then
              f_X5_matches_J40 (f_X5_matches_L13 x2 c62 n) x2 x4 x5 h
            else
              if inb (wr (x5 - Int.tdiv x5 12 * 12)) 12 then
                if ¬ (h 80 (Int.toNat (wr (x5 - Int.tdiv x5 12 * 12)))) = (-1) then
                  f_X5_matches_J40 (f_X5_matches_L13 x2 c62 n) x2 x4 x5 h
                else
                  f_X5_matches_J41 (f_X5_matches_L13 x2 c62 n) x2 x4 x5 1 h
              else none
          else none
      else none := rfl
noncomputable def f_X5_matches_J68 (c7 : Int → Int → Hp → Option (Int × Hp)) (x2 : Int) (x4 : Int) (s0 : Int) (h : Hp) : Option (Int × Hp) :=
  if s0 = 0 then
    c7 x2 s0 h
  else
    if inb (wr (Int.tdiv x4 12)) 12 then
      lt (hup h 79 (Int.toNat (wr (Int.tdiv x4 12))) (wr (x4 - Int.tdiv x4 12 * 12))) fun h4 =>
      if inb (wr (x4 - Int.tdiv x4 12 * 12)) 12 then
        lt (hup h4 80 (Int.toNat (wr (x4 - Int.tdiv x4 12 * 12))) (wr (Int.tdiv x4 12))) fun h5 =>
        c7 (wr (x2 + 1)) s0 h5
      else none
    else none
noncomputable def f_X5_matches_L7  (n : Nat) : Int → Int → Hp → Option (Int × Hp) :=
  Nat.rec (motive := fun _ => Int → Int → Hp → Option (Int × Hp)) (fun _ _ _ => none) (fun _ rec x2 x3 h =>
    if x3 = 0 then
      some (x2, h)
    else
      (f_X5_matches_L13 x2
        (fun y2 h3 =>
          if y2 = (-1) then
            f_X5_matches_J68 rec x2 y2 0 h3
          else
            f_X5_matches_J68 rec x2 y2 1 h3)
         fu (-1) 0 h)) n
theorem f_X5_matches_L7_s  (n : Nat) (x2 : Int) (x3 : Int) (h : Hp) : f_X5_matches_L7  (n + 1) x2 x3 h =
    if x3 = 0 then
      some (x2, h)
    else
      (f_X5_matches_L13 x2
        (fun y2 h3 =>
          if y2 = (-1) then
            f_X5_matches_J68 (f_X5_matches_L7  n) x2 y2 0 h3
          else
            f_X5_matches_J68 (f_X5_matches_L7  n) x2 y2 1 h3)
         fu (-1) 0 h) := rfl
noncomputable def f_X5_matches (x1 : Int) (h : Hp) : Option (Int × Hp) :=
  bd (f_X5_clears x1 h) fun _ h1 =>
  (f_X5_matches_L7 
     fu 0 1 h1)
noncomputable def f_X5_matchOf (x1 : Int) (x2 : Int) (h : Hp) : Option (Int × Hp) :=
  bd (f_X5_matches x1 h) fun r1 h1 =>
  if inb x2 12 then
    if ¬ (h1 80 (Int.toNat x2)) = (-1) then
      if inb x2 12 then
        some ((h1 80 (Int.toNat x2)), h1)
      else none
    else
      some ((-1000004), h1)
  else none
noncomputable def f_X5_suiting_J30 (c7 : Int → Int → Hp → Option (Int × Hp)) (x1 : Int) (x2 : Int) (x3 : Int) (x4 : Int) (s0 : Int) (h : Hp) : Option (Int × Hp) :=
  if s0 = 0 then
    lv (wr (x3 + 0)) fun y2 =>
    c7 y2 (wr (x4 + 1)) h
  else
    if inb x4 144 then
      if (h 81 (Int.toNat x4)) = (-1) then
        lv (wr (x3 + 0)) fun y3 =>
        c7 y3 (wr (x4 + 1)) h
      else
        lv (wr (x3 + 1)) fun y4 =>
        c7 y4 (wr (x4 + 1)) h
    else none
noncomputable def f_X5_suiting_L7 (x1 : Int) (x2 : Int) (n : Nat) : Int → Int → Hp → Option (Int × Hp) :=
  Nat.rec (motive := fun _ => Int → Int → Hp → Option (Int × Hp)) (fun _ _ _ => none) (fun _ rec x3 x4 h =>
    if 144 ≤ x4 then
      some (x3, h)
    else
      if ¬ x1 = (-1) then
        if ¬ (wr (Int.tdiv x4 12)) = x1 then
          f_X5_suiting_J30 rec x1 x2 x3 x4 0 h
        else
          f_X5_suiting_J30 rec x1 x2 x3 x4 1 h
      else
        if ¬ (wr (x4 - Int.tdiv x4 12 * 12)) = x2 then
          f_X5_suiting_J30 rec x1 x2 x3 x4 0 h
        else
          f_X5_suiting_J30 rec x1 x2 x3 x4 1 h) n
theorem f_X5_suiting_L7_s (x1 : Int) (x2 : Int) (n : Nat) (x3 : Int) (x4 : Int) (h : Hp) : f_X5_suiting_L7 x1 x2 (n + 1) x3 x4 h =
    if 144 ≤ x4 then
      some (x3, h)
    else
      if ¬ x1 = (-1) then
        if ¬ (wr (Int.tdiv x4 12)) = x1 then
          f_X5_suiting_J30 (f_X5_suiting_L7 x1 x2 n) x1 x2 x3 x4 0 h
        else
          f_X5_suiting_J30 (f_X5_suiting_L7 x1 x2 n) x1 x2 x3 x4 1 h
      else
        if ¬ (wr (x4 - Int.tdiv x4 12 * 12)) = x2 then
          f_X5_suiting_J30 (f_X5_suiting_L7 x1 x2 n) x1 x2 x3 x4 0 h
        else
          f_X5_suiting_J30 (f_X5_suiting_L7 x1 x2 n) x1 x2 x3 x4 1 h := rfl
noncomputable def f_X5_suiting (x1 : Int) (x2 : Int) (h : Hp) : Option (Int × Hp) :=
  bd (f_X5_clears 0 h) fun _ h1 =>
  (f_X5_suiting_L7 x1 x2
     fu 0 0 h1)
noncomputable def f_X5_claimOf (x1 : Int) (x2 : Int) (h : Hp) : Option (Int × Hp) :=
  bd (f_X5_isClaim 0 x1 h) fun r1 h1 =>
  if r1 = 0 then
    some ((-1000001), h1)
  else
    bd (f_X5_in x2 0 7 h1) fun r2 h2 =>
    if ¬ r2 = 0 then
      bd (f_X5_claimAt 0 x1 h2) fun r3 h3 =>
      if x2 = 4 then
        if inb (wr (r3 + 4)) 1330 then
          some ((h3 77 (Int.toNat (wr (r3 + 4)))), h3)
        else none
      else
        if x2 = 5 then
          bd (f_X5_matchOf 0 x1 h3) fun r5 h5 =>
          some (r5, h5)
        else
          if x2 = 6 then
            bd (f_X5_suiting (-1) x1 h3) fun r7 h7 =>
            some (r7, h7)
          else
            if x2 = 7 then
              if inb (wr (r3 + 5)) 1330 then
                some ((h3 77 (Int.toNat (wr (r3 + 5)))), h3)
              else none
            else
              if inb (wr (r3 + x2)) 1330 then
                if ¬ (h3 77 (Int.toNat (wr (r3 + x2)))) = (-1) then
                  if inb (wr (r3 + x2)) 1330 then
                    some ((h3 77 (Int.toNat (wr (r3 + x2)))), h3)
                  else none
                else
                  some ((-1000004), h3)
              else none
    else
      some ((-1000001), h2)
noncomputable def f_X5_clearText  (h : Hp) : Option (Int × Hp) :=
  lv (h 76 3) fun y1 =>
  lt (hup h 76 3 0) fun h2 =>
  some (y1, h2)
noncomputable def f_X5_count (x1 : Int) (h : Hp) : Option (Int × Hp) :=
  bd (f_X5_in x1 20 26 h) fun r1 h1 =>
  if r1 = 0 then
    if x1 = 0 then
      if inb 0 1330 then
        some ((h1 77 (Int.toNat 0)), h1)
      else none
    else
      if x1 = 1 then
        if inb (wr ((wr (15 + x1)) - 1)) 1330 then
          some ((h1 77 (Int.toNat (wr ((wr (15 + x1)) - 1)))), h1)
        else none
      else
        if x1 = 2 then
          if inb (wr ((wr (15 + x1)) - 1)) 1330 then
            some ((h1 77 (Int.toNat (wr ((wr (15 + x1)) - 1)))), h1)
          else none
        else
          if x1 = 3 then
            bd (f_X5_matches 0 h1) fun r5 h5 =>
            some (r5, h5)
          else
            if x1 = 4 then
              bd (f_X5_byAsking 0 h1) fun r7 h7 =>
              some (r7, h7)
            else
              if x1 = 5 then
                if inb (wr ((wr (8 + x1)) - 5)) 1330 then
                  some ((h1 77 (Int.toNat (wr ((wr (8 + x1)) - 5)))), h1)
                else none
              else
                if x1 = 6 then
                  if inb (wr ((wr (8 + x1)) - 5)) 1330 then
                    some ((h1 77 (Int.toNat (wr ((wr (8 + x1)) - 5)))), h1)
                  else none
                else
                  if x1 = 7 then
                    if inb (wr ((wr (8 + x1)) - 5)) 1330 then
                      some ((h1 77 (Int.toNat (wr ((wr (8 + x1)) - 5)))), h1)
                    else none
                  else
                    if x1 = 8 then
                      if inb (wr ((wr (8 + x1)) - 5)) 1330 then
                        some ((h1 77 (Int.toNat (wr ((wr (8 + x1)) - 5)))), h1)
                      else none
                    else
                      if x1 = 9 then
                        if inb (wr ((wr (8 + x1)) - 5)) 1330 then
                          some ((h1 77 (Int.toNat (wr ((wr (8 + x1)) - 5)))), h1)
                        else none
                      else
                        if x1 = 10 then
                          if inb (wr ((wr (8 + x1)) - 5)) 1330 then
                            some ((h1 77 (Int.toNat (wr ((wr (8 + x1)) - 5)))), h1)
                          else none
                        else
                          if x1 = 11 then
                            if inb (wr ((wr (8 + x1)) - 5)) 1330 then
                              some ((h1 77 (Int.toNat (wr ((wr (8 + x1)) - 5)))), h1)
                            else none
                          else
                            if x1 = 12 then
                              if inb 17 1330 then
                                some ((h1 77 (Int.toNat 17)), h1)
                              else none
                            else
                              if x1 = 13 then
                                some ((h1 76 1), h1)
                              else
                                if x1 = 14 then
                                  some ((h1 76 3), h1)
                                else
                                  some ((-1000001), h1)
  else
    if inb (wr ((wr (1 + x1)) - 20)) 1330 then
      some ((h1 77 (Int.toNat (wr ((wr (1 + x1)) - 20)))), h1)
    else none
noncomputable def f_X5_finds (x1 : Int) (x2 : Int) (x3 : Int) (x4 : Int) (x5 : Int) (h : Hp) : Option (Int × Hp) :=
  bd (f_X5_areValues 0 x2 x3 x4 x5 h) fun r1 h1 =>
  if ¬ r1 = 0 then
    if inb (wr (x1 + 15)) 1330 then
      if ¬ (h1 77 (Int.toNat (wr (x1 + 15)))) = 12 then
        if inb (wr (x1 + 15)) 1330 then
          bd (f_X5_umbrellaAt x1 (h1 77 (Int.toNat (wr (x1 + 15)))) h1) fun r2 h2 =>
          bd (f_X5_lays r2 x2 x3 x4 x5 h2) fun _ h3 =>
          if inb (wr (x1 + 8)) 1330 then
            if inb (wr (x1 + 8)) 1330 then
              lt (hup h3 77 (Int.toNat (wr (x1 + 8))) (wr ((h3 77 (Int.toNat (wr (x1 + 8)))) + 1))) fun h4 =>
              if inb (wr (x1 + 15)) 1330 then
                if inb (wr (x1 + 15)) 1330 then
                  lt (hup h4 77 (Int.toNat (wr (x1 + 15))) (wr ((h4 77 (Int.toNat (wr (x1 + 15)))) + 1))) fun h5 =>
                  if inb (wr (x1 + 15)) 1330 then
                    some ((wr ((h5 77 (Int.toNat (wr (x1 + 15)))) - 1)), h5)
                  else none
                else none
              else none
            else none
          else none
        else none
      else
        some ((-1000003), h1)
    else none
  else
    some ((-1000001), h1)
noncomputable def f_X5_umbrellaGoes_L14 (x1 : Int) (n : Nat) : Int → Hp → Option (Int × Hp) :=
  Nat.rec (motive := fun _ => Int → Hp → Option (Int × Hp)) (fun _ _ => none) (fun _ rec x3 h =>
    if inb (wr (x1 + 15)) 1330 then
      bd (f_X5_umbrellaAt x1 (h 77 (Int.toNat (wr (x1 + 15)))) h) fun r3 h3 =>
      if r3 ≤ x3 then
        some (0, h3)
      else
        if inb (wr (x3 + 5)) 1330 then
          if inb x3 1330 then
            lt (hup h3 77 (Int.toNat x3) (h3 77 (Int.toNat (wr (x3 + 5))))) fun h4 =>
            rec (wr (x3 + 1)) h4
          else none
        else none
    else none) n
theorem f_X5_umbrellaGoes_L14_s (x1 : Int) (n : Nat) (x3 : Int) (h : Hp) : f_X5_umbrellaGoes_L14 x1 (n + 1) x3 h =
    if inb (wr (x1 + 15)) 1330 then
      bd (f_X5_umbrellaAt x1 (h 77 (Int.toNat (wr (x1 + 15)))) h) fun r3 h3 =>
      if r3 ≤ x3 then
        some (0, h3)
      else
        if inb (wr (x3 + 5)) 1330 then
          if inb x3 1330 then
            lt (hup h3 77 (Int.toNat x3) (h3 77 (Int.toNat (wr (x3 + 5))))) fun h4 =>
            f_X5_umbrellaGoes_L14 x1 n (wr (x3 + 1)) h4
          else none
        else none
    else none := rfl
noncomputable def f_X5_umbrellaGoes (x1 : Int) (x2 : Int) (h : Hp) : Option (Int × Hp) :=
  if inb (wr (x1 + 15)) 1330 then
    if inb (wr (x1 + 15)) 1330 then
      lt (hup h 77 (Int.toNat (wr (x1 + 15))) (wr ((h 77 (Int.toNat (wr (x1 + 15)))) - 1))) fun h1 =>
      bd (f_X5_umbrellaAt x1 x2 h1) fun r2 h2 =>
      (f_X5_umbrellaGoes_L14 x1
         fu r2 h2)
    else none
  else none
noncomputable def f_X5_writes_J41 (x1 : Int) (x2 : Int) (x3 : Int) (x4 : Int) (h : Hp) : Option (Int × Hp) :=
  if inb (wr (x1 + 17)) 1330 then
    lv (wr ((wr (x1 + 150)) + (wr (4 * (h 77 (Int.toNat (wr (x1 + 17)))))))) fun y1 =>
    if inb (wr (x1 + 0)) 1330 then
      if inb y1 1330 then
        lt (hup h 77 (Int.toNat y1) (h 77 (Int.toNat (wr (x1 + 0))))) fun h2 =>
        if inb (wr (y1 + 1)) 1330 then
          lt (hup h2 77 (Int.toNat (wr (y1 + 1))) x2) fun h3 =>
          if inb (wr (y1 + 2)) 1330 then
            lt (hup h3 77 (Int.toNat (wr (y1 + 2))) x3) fun h4 =>
            if inb (wr (y1 + 3)) 1330 then
              lt (hup h4 77 (Int.toNat (wr (y1 + 3))) x4) fun h5 =>
              if inb (wr (x1 + 17)) 1330 then
                if inb (wr (x1 + 17)) 1330 then
                  lt (hup h5 77 (Int.toNat (wr (x1 + 17))) (wr ((h5 77 (Int.toNat (wr (x1 + 17)))) + 1))) fun h6 =>
                  if inb (wr (x1 + 13)) 1330 then
                    if inb (wr (x1 + 13)) 1330 then
                      lt (hup h6 77 (Int.toNat (wr (x1 + 13))) (wr ((h6 77 (Int.toNat (wr (x1 + 13)))) + x4))) fun h7 =>
                      some (0, h7)
                    else none
                  else none
                else none
              else none
            else none
          else none
        else none
      else none
    else none
  else none
noncomputable def f_X5_writes_L12 (x1 : Int) (x2 : Int) (x3 : Int) (x4 : Int) (c31 : Hp → Option (Int × Hp)) (n : Nat) : Int → Hp → Option (Int × Hp) :=
  Nat.rec (motive := fun _ => Int → Hp → Option (Int × Hp)) (fun _ _ => none) (fun _ rec x5 h =>
    if (wr ((wr (x1 + 150)) + 36)) ≤ x5 then
      c31 h
    else
      if inb (wr (x5 + 4)) 1330 then
        if inb x5 1330 then
          lt (hup h 77 (Int.toNat x5) (h 77 (Int.toNat (wr (x5 + 4))))) fun h9 =>
          rec (wr (x5 + 1)) h9
        else none
      else none) n
theorem f_X5_writes_L12_s (x1 : Int) (x2 : Int) (x3 : Int) (x4 : Int) (c31 : Hp → Option (Int × Hp)) (n : Nat) (x5 : Int) (h : Hp) : f_X5_writes_L12 x1 x2 x3 x4 c31 (n + 1) x5 h =
    if (wr ((wr (x1 + 150)) + 36)) ≤ x5 then
      c31 h
    else
      if inb (wr (x5 + 4)) 1330 then
        if inb x5 1330 then
          lt (hup h 77 (Int.toNat x5) (h 77 (Int.toNat (wr (x5 + 4))))) fun h9 =>
          f_X5_writes_L12 x1 x2 x3 x4 c31 n (wr (x5 + 1)) h9
        else none
      else none := rfl
noncomputable def f_X5_writes (x1 : Int) (x2 : Int) (x3 : Int) (x4 : Int) (h : Hp) : Option (Int × Hp) :=
  if inb (wr (x1 + 17)) 1330 then
    if ¬ (h 77 (Int.toNat (wr (x1 + 17)))) = 10 then
      f_X5_writes_J41 x1 x2 x3 x4 h
    else
      lv (wr (x1 + 150)) fun y8 =>
      (f_X5_writes_L12 x1 x2 x3 x4
        (fun h10 =>
          if inb (wr (x1 + 17)) 1330 then
            if inb (wr (x1 + 17)) 1330 then
              lt (hup h10 77 (Int.toNat (wr (x1 + 17))) (wr ((h10 77 (Int.toNat (wr (x1 + 17)))) - 1))) fun h11 =>
              f_X5_writes_J41 x1 x2 x3 x4 h11
            else none
          else none)
         fu y8 h)
  else none
noncomputable def f_X5_handsOut_L6 (x1 : Int) (x2 : Int) (c44 : Hp → Option (Int × Hp)) (n : Nat) : Int → Hp → Option (Int × Hp) :=
  Nat.rec (motive := fun _ => Int → Hp → Option (Int × Hp)) (fun _ _ => none) (fun _ rec x3 h =>
    if inb (wr (x1 + 15)) 1330 then
      if (h 77 (Int.toNat (wr (x1 + 15)))) ≤ x3 then
        c44 h
      else
        if inb x3 12 then
          if (h 79 (Int.toNat x3)) = (-1) then
            rec (wr (x3 + 1)) h
          else
            bd (f_X5_umbrellaAt x1 x3 h) fun r2 h2 =>
            if inb (wr (r2 + 4)) 1330 then
              lv (h2 77 (Int.toNat (wr (r2 + 4)))) fun y3 =>
              if inb (wr (x1 + 5)) 1330 then
                bd (f_X5_writes x1 0 y3 (wr (y3 * (h2 77 (Int.toNat (wr (x1 + 5)))))) h2) fun _ h4 =>
                rec (wr (x3 + 1)) h4
              else none
            else none
        else none
    else none) n
theorem f_X5_handsOut_L6_s (x1 : Int) (x2 : Int) (c44 : Hp → Option (Int × Hp)) (n : Nat) (x3 : Int) (h : Hp) : f_X5_handsOut_L6 x1 x2 c44 (n + 1) x3 h =
    if inb (wr (x1 + 15)) 1330 then
      if (h 77 (Int.toNat (wr (x1 + 15)))) ≤ x3 then
        c44 h
      else
        if inb x3 12 then
          if (h 79 (Int.toNat x3)) = (-1) then
            f_X5_handsOut_L6 x1 x2 c44 n (wr (x3 + 1)) h
          else
            bd (f_X5_umbrellaAt x1 x3 h) fun r2 h2 =>
            if inb (wr (r2 + 4)) 1330 then
              lv (h2 77 (Int.toNat (wr (r2 + 4)))) fun y3 =>
              if inb (wr (x1 + 5)) 1330 then
                bd (f_X5_writes x1 0 y3 (wr (y3 * (h2 77 (Int.toNat (wr (x1 + 5)))))) h2) fun _ h4 =>
                f_X5_handsOut_L6 x1 x2 c44 n (wr (x3 + 1)) h4
              else none
            else none
        else none
    else none := rfl
noncomputable def f_X5_handsOut_J58 (c46 : Int → Hp → Option (Int × Hp)) (x1 : Int) (x2 : Int) (x3 : Int) (h : Hp) : Option (Int × Hp) :=
  if inb x3 12 then
    if (h 80 (Int.toNat x3)) = (-1) then
      c46 (wr (x3 + (-1))) h
    else
      bd (f_X5_claimGoes x1 x3 h) fun _ h6 =>
      c46 (wr (x3 + (-1))) h6
  else none
noncomputable def f_X5_handsOut_L46 (x1 : Int) (x2 : Int) (c70 : Hp → Option (Int × Hp)) (n : Nat) : Int → Hp → Option (Int × Hp) :=
  Nat.rec (motive := fun _ => Int → Hp → Option (Int × Hp)) (fun _ _ => none) (fun _ rec x3 h =>
    if x3 < 0 then
      c70 h
    else
      if inb x3 12 then
        if (h 79 (Int.toNat x3)) = (-1) then
          f_X5_handsOut_J58 rec x1 x2 x3 h
        else
          bd (f_X5_umbrellaGoes x1 x3 h) fun _ h7 =>
          f_X5_handsOut_J58 rec x1 x2 x3 h7
      else none) n
theorem f_X5_handsOut_L46_s (x1 : Int) (x2 : Int) (c70 : Hp → Option (Int × Hp)) (n : Nat) (x3 : Int) (h : Hp) : f_X5_handsOut_L46 x1 x2 c70 (n + 1) x3 h =
    if x3 < 0 then
      c70 h
    else
      if inb x3 12 then
        if (h 79 (Int.toNat x3)) = (-1) then
          f_X5_handsOut_J58 (f_X5_handsOut_L46 x1 x2 c70 n) x1 x2 x3 h
        else
          bd (f_X5_umbrellaGoes x1 x3 h) fun _ h7 =>
          f_X5_handsOut_J58 (f_X5_handsOut_L46 x1 x2 c70 n) x1 x2 x3 h7
      else none := rfl
noncomputable def f_X5_handsOut (x1 : Int) (h : Hp) : Option (Int × Hp) :=
  bd (f_X5_matches x1 h) fun r1 h1 =>
  (f_X5_handsOut_L6 x1 r1
    (fun h5 =>
      (f_X5_handsOut_L46 x1 r1
        (fun h8 =>
          if inb (wr (x1 + 10)) 1330 then
            if inb (wr (x1 + 10)) 1330 then
              lt (hup h8 77 (Int.toNat (wr (x1 + 10))) (wr ((h8 77 (Int.toNat (wr (x1 + 10)))) + r1))) fun h9 =>
              some (r1, h9)
            else none
          else none)
         fu 11 h5))
     fu 0 h1)
noncomputable def f_X5_isDetail (x0 : Int) (x1 : Int) (h : Hp) : Option (Int × Hp) :=
  bd (f_X5_in x0 0 3 h) fun r1 h1 =>
  if r1 = 0 then
    some (0, h1)
  else
    bd (f_X5_in x1 0 9 h1) fun r2 h2 =>
    if r2 = 0 then
      some (0, h2)
    else
      some (1, h2)
noncomputable def f_X5_tells_J41 (x3 : Int) (x4 : Int) (x5 : Int) (s1 : Int) (s2 : Int) (s3 : Int) (h : Hp) : Option (Int × Hp) :=
  if inb s1 1330 then
    lt (hup h 77 (Int.toNat s1) (wr (s2 + s3))) fun h4 =>
    if inb (wr (x5 + x3)) 1330 then
      lt (hup h4 77 (Int.toNat (wr (x5 + x3))) x4) fun h5 =>
      if inb (wr (x5 + 5)) 1330 then
        some ((h5 77 (Int.toNat (wr (x5 + 5)))), h5)
      else none
    else none
  else none
noncomputable def f_X5_tells_J40 (x3 : Int) (x4 : Int) (x5 : Int) (s1 : Int) (s2 : Int) (h : Hp) : Option (Int × Hp) :=
  f_X5_tells_J41 x3 x4 x5 s1 s2 0 h
noncomputable def f_X5_tells (x1 : Int) (x2 : Int) (x3 : Int) (x4 : Int) (h : Hp) : Option (Int × Hp) :=
  bd (f_X5_isClaim x1 x2 h) fun r1 h1 =>
  if r1 = 0 then
    some ((-1000001), h1)
  else
    bd (f_X5_isDetail x3 x4 h1) fun r2 h2 =>
    if ¬ r2 = 0 then
      bd (f_X5_claimAt x1 x2 h2) fun r3 h3 =>
      if inb (wr (r3 + 5)) 1330 then
        if inb (wr (r3 + x3)) 1330 then
          if (h3 77 (Int.toNat (wr (r3 + x3)))) = (-1) then
            f_X5_tells_J40 x3 x4 r3 (wr (r3 + 5)) (h3 77 (Int.toNat (wr (r3 + 5)))) h3
          else
            if inb (wr (r3 + x3)) 1330 then
              if (h3 77 (Int.toNat (wr (r3 + x3)))) = x4 then
                f_X5_tells_J40 x3 x4 r3 (wr (r3 + 5)) (h3 77 (Int.toNat (wr (r3 + 5)))) h3
              else
                f_X5_tells_J41 x3 x4 r3 (wr (r3 + 5)) (h3 77 (Int.toNat (wr (r3 + 5)))) 1 h3
            else none
        else none
      else none
    else
      some ((-1000001), h2)
noncomputable def f_X5_lapses_L2 (x1 : Int) (n : Nat) : Int → Hp → Option (Int × Hp) :=
  Nat.rec (motive := fun _ => Int → Hp → Option (Int × Hp)) (fun _ _ => none) (fun _ rec x2 h =>
    if inb (wr (x1 + 16)) 1330 then
      if (h 77 (Int.toNat (wr (x1 + 16)))) ≤ x2 then
        some (0, h)
      else
        bd (f_X5_claimAt x1 x2 h) fun r1 h1 =>
        if inb (wr (r1 + 4)) 1330 then
          lv (h1 77 (Int.toNat (wr (r1 + 4)))) fun y2 =>
          if inb (wr (x1 + 6)) 1330 then
            if y2 < (h1 77 (Int.toNat (wr (x1 + 6)))) then
              rec (wr (x2 + 1)) h1
            else
              bd (f_X5_writes x1 2 y2 0 h1) fun _ h3 =>
              if inb (wr (x1 + 12)) 1330 then
                if inb (wr (x1 + 12)) 1330 then
                  lt (hup h3 77 (Int.toNat (wr (x1 + 12))) (wr ((h3 77 (Int.toNat (wr (x1 + 12)))) + 1))) fun h4 =>
                  bd (f_X5_claimGoes x1 x2 h4) fun _ h5 =>
                  rec x2 h5
                else none
              else none
          else none
        else none
    else none) n
theorem f_X5_lapses_L2_s (x1 : Int) (n : Nat) (x2 : Int) (h : Hp) : f_X5_lapses_L2 x1 (n + 1) x2 h =
    if inb (wr (x1 + 16)) 1330 then
      if (h 77 (Int.toNat (wr (x1 + 16)))) ≤ x2 then
        some (0, h)
      else
        bd (f_X5_claimAt x1 x2 h) fun r1 h1 =>
        if inb (wr (r1 + 4)) 1330 then
          lv (h1 77 (Int.toNat (wr (r1 + 4)))) fun y2 =>
          if inb (wr (x1 + 6)) 1330 then
            if y2 < (h1 77 (Int.toNat (wr (x1 + 6)))) then
              f_X5_lapses_L2 x1 n (wr (x2 + 1)) h1
            else
              bd (f_X5_writes x1 2 y2 0 h1) fun _ h3 =>
              if inb (wr (x1 + 12)) 1330 then
                if inb (wr (x1 + 12)) 1330 then
                  lt (hup h3 77 (Int.toNat (wr (x1 + 12))) (wr ((h3 77 (Int.toNat (wr (x1 + 12)))) + 1))) fun h4 =>
                  bd (f_X5_claimGoes x1 x2 h4) fun _ h5 =>
                  f_X5_lapses_L2 x1 n x2 h5
                else none
              else none
          else none
        else none
    else none := rfl
noncomputable def f_X5_lapses (x1 : Int) (h : Hp) : Option (Int × Hp) :=
  (f_X5_lapses_L2 x1
     fu 0 h)
noncomputable def f_X5_sells_L2 (x1 : Int) (n : Nat) : Int → Hp → Option (Int × Hp) :=
  Nat.rec (motive := fun _ => Int → Hp → Option (Int × Hp)) (fun _ _ => none) (fun _ rec x2 h =>
    if inb (wr (x1 + 15)) 1330 then
      if (h 77 (Int.toNat (wr (x1 + 15)))) ≤ x2 then
        some (0, h)
      else
        bd (f_X5_umbrellaAt x1 x2 h) fun r1 h1 =>
        if inb (wr (r1 + 4)) 1330 then
          lv (h1 77 (Int.toNat (wr (r1 + 4)))) fun y2 =>
          if inb (wr (x1 + 6)) 1330 then
            if y2 < (h1 77 (Int.toNat (wr (x1 + 6)))) then
              rec (wr (x2 + 1)) h1
            else
              if inb (wr (x1 + 7)) 1330 then
                bd (f_X5_writes x1 1 y2 (h1 77 (Int.toNat (wr (x1 + 7)))) h1) fun _ h3 =>
                if inb (wr (x1 + 11)) 1330 then
                  if inb (wr (x1 + 11)) 1330 then
                    lt (hup h3 77 (Int.toNat (wr (x1 + 11))) (wr ((h3 77 (Int.toNat (wr (x1 + 11)))) + 1))) fun h4 =>
                    bd (f_X5_umbrellaGoes x1 x2 h4) fun _ h5 =>
                    rec x2 h5
                  else none
                else none
              else none
          else none
        else none
    else none) n
theorem f_X5_sells_L2_s (x1 : Int) (n : Nat) (x2 : Int) (h : Hp) : f_X5_sells_L2 x1 (n + 1) x2 h =
    if inb (wr (x1 + 15)) 1330 then
      if (h 77 (Int.toNat (wr (x1 + 15)))) ≤ x2 then
        some (0, h)
      else
        bd (f_X5_umbrellaAt x1 x2 h) fun r1 h1 =>
        if inb (wr (r1 + 4)) 1330 then
          lv (h1 77 (Int.toNat (wr (r1 + 4)))) fun y2 =>
          if inb (wr (x1 + 6)) 1330 then
            if y2 < (h1 77 (Int.toNat (wr (x1 + 6)))) then
              f_X5_sells_L2 x1 n (wr (x2 + 1)) h1
            else
              if inb (wr (x1 + 7)) 1330 then
                bd (f_X5_writes x1 1 y2 (h1 77 (Int.toNat (wr (x1 + 7)))) h1) fun _ h3 =>
                if inb (wr (x1 + 11)) 1330 then
                  if inb (wr (x1 + 11)) 1330 then
                    lt (hup h3 77 (Int.toNat (wr (x1 + 11))) (wr ((h3 77 (Int.toNat (wr (x1 + 11)))) + 1))) fun h4 =>
                    bd (f_X5_umbrellaGoes x1 x2 h4) fun _ h5 =>
                    f_X5_sells_L2 x1 n x2 h5
                  else none
                else none
              else none
          else none
        else none
    else none := rfl
noncomputable def f_X5_sells (x1 : Int) (h : Hp) : Option (Int × Hp) :=
  (f_X5_sells_L2 x1
     fu 0 h)
noncomputable def f_X5_goBy_L24 (x1 : Int) (x2 : Int) (x3 : Int) (x4 : Int) (c53 : Hp → Option (Int × Hp)) (n : Nat) : Int → Hp → Option (Int × Hp) :=
  Nat.rec (motive := fun _ => Int → Hp → Option (Int × Hp)) (fun _ _ => none) (fun _ rec x5 h =>
    if 12 ≤ x5 then
      c53 h
    else
      bd (f_X5_umbrellaAt x1 x5 h) fun r3 h3 =>
      if inb (wr (r3 + 4)) 1330 then
        if inb (wr (r3 + 4)) 1330 then
          lt (hup h3 77 (Int.toNat (wr (r3 + 4))) (wr ((h3 77 (Int.toNat (wr (r3 + 4)))) + 1))) fun h4 =>
          bd (f_X5_claimAt x1 x5 h4) fun r5 h5 =>
          if inb (wr (r5 + 4)) 1330 then
            if inb (wr (r5 + 4)) 1330 then
              lt (hup h5 77 (Int.toNat (wr (r5 + 4))) (wr ((h5 77 (Int.toNat (wr (r5 + 4)))) + 1))) fun h6 =>
              rec (wr (x5 + 1)) h6
            else none
          else none
        else none
      else none) n
theorem f_X5_goBy_L24_s (x1 : Int) (x2 : Int) (x3 : Int) (x4 : Int) (c53 : Hp → Option (Int × Hp)) (n : Nat) (x5 : Int) (h : Hp) : f_X5_goBy_L24 x1 x2 x3 x4 c53 (n + 1) x5 h =
    if 12 ≤ x5 then
      c53 h
    else
      bd (f_X5_umbrellaAt x1 x5 h) fun r3 h3 =>
      if inb (wr (r3 + 4)) 1330 then
        if inb (wr (r3 + 4)) 1330 then
          lt (hup h3 77 (Int.toNat (wr (r3 + 4))) (wr ((h3 77 (Int.toNat (wr (r3 + 4)))) + 1))) fun h4 =>
          bd (f_X5_claimAt x1 x5 h4) fun r5 h5 =>
          if inb (wr (r5 + 4)) 1330 then
            if inb (wr (r5 + 4)) 1330 then
              lt (hup h5 77 (Int.toNat (wr (r5 + 4))) (wr ((h5 77 (Int.toNat (wr (r5 + 4)))) + 1))) fun h6 =>
              f_X5_goBy_L24 x1 x2 x3 x4 c53 n (wr (x5 + 1)) h6
            else none
          else none
        else none
      else none := rfl
noncomputable def f_X5_goBy_L9 (x1 : Int) (x2 : Int) (x3 : Int) (c61 : Hp → Option (Int × Hp)) (n : Nat) : Int → Hp → Option (Int × Hp) :=
  Nat.rec (motive := fun _ => Int → Hp → Option (Int × Hp)) (fun _ _ => none) (fun _ rec x4 h =>
    if x2 ≤ x4 then
      c61 h
    else
      if inb (wr (x1 + 0)) 1330 then
        if inb (wr (x1 + 0)) 1330 then
          lt (hup h 77 (Int.toNat (wr (x1 + 0))) (wr ((h 77 (Int.toNat (wr (x1 + 0)))) + 1))) fun h2 =>
          (f_X5_goBy_L24 x1 x2 x3 x4
            (fun h7 =>
              bd (f_X5_sells x1 h7) fun _ h8 =>
              bd (f_X5_lapses x1 h8) fun _ h9 =>
              rec (wr (x4 + 1)) h9)
             fu 0 h2)
        else none
      else none) n
theorem f_X5_goBy_L9_s (x1 : Int) (x2 : Int) (x3 : Int) (c61 : Hp → Option (Int × Hp)) (n : Nat) (x4 : Int) (h : Hp) : f_X5_goBy_L9 x1 x2 x3 c61 (n + 1) x4 h =
    if x2 ≤ x4 then
      c61 h
    else
      if inb (wr (x1 + 0)) 1330 then
        if inb (wr (x1 + 0)) 1330 then
          lt (hup h 77 (Int.toNat (wr (x1 + 0))) (wr ((h 77 (Int.toNat (wr (x1 + 0)))) + 1))) fun h2 =>
          (f_X5_goBy_L24 x1 x2 x3 x4
            (fun h7 =>
              bd (f_X5_sells x1 h7) fun _ h8 =>
              bd (f_X5_lapses x1 h8) fun _ h9 =>
              f_X5_goBy_L9 x1 x2 x3 c61 n (wr (x4 + 1)) h9)
             fu 0 h2)
        else none
      else none := rfl
noncomputable def f_X5_goBy (x1 : Int) (x2 : Int) (h : Hp) : Option (Int × Hp) :=
  if inb (wr (x1 + 11)) 1330 then
    lv (h 77 (Int.toNat (wr (x1 + 11)))) fun y1 =>
    (f_X5_goBy_L9 x1 x2 y1
      (fun h10 =>
        if inb (wr (x1 + 11)) 1330 then
          some ((wr ((h10 77 (Int.toNat (wr (x1 + 11)))) - y1)), h10)
        else none)
       fu 0 h)
  else none
noncomputable def f_X5_weeksIn (x1 : Int) (x2 : Int) (h : Hp) : Option (Int × Hp) :=
  bd (f_X5_in x2 1 20 h) fun r1 h1 =>
  if ¬ r1 = 0 then
    if inb (wr (x1 + 0)) 1330 then
      if (wr ((h1 77 (Int.toNat (wr (x1 + 0)))) + x2)) ≤ 999 then
        bd (f_X5_goBy x1 x2 h1) fun r2 h2 =>
        some (r2, h2)
      else
        some ((-1000003), h1)
    else none
  else
    some ((-1000001), h1)
noncomputable def f_X5_does (x1 : Int) (h : Hp) : Option (Int × Hp) :=
  if (h 76 9) = 99 then
    if inb 0 4 then
      if inb 1 4 then
        if inb 2 4 then
          if inb 3 4 then
            bd (f_X5_claims x1 (h 83 (Int.toNat 0)) (h 83 (Int.toNat 1)) (h 83 (Int.toNat 2)) (h 83 (Int.toNat 3)) h) fun r1 h1 =>
            some (r1, h1)
          else none
        else none
      else none
    else none
  else
    if (h 76 9) = 102 then
      if inb 0 4 then
        if inb 1 4 then
          if inb 2 4 then
            if inb 3 4 then
              bd (f_X5_finds x1 (h 83 (Int.toNat 0)) (h 83 (Int.toNat 1)) (h 83 (Int.toNat 2)) (h 83 (Int.toNat 3)) h) fun r3 h3 =>
              some (r3, h3)
            else none
          else none
        else none
      else none
    else
      if (h 76 9) = 116 then
        if inb 0 4 then
          if inb 1 4 then
            if inb 2 4 then
              bd (f_X5_tells x1 (h 83 (Int.toNat 0)) (h 83 (Int.toNat 1)) (h 83 (Int.toNat 2)) h) fun r5 h5 =>
              some (r5, h5)
            else none
          else none
        else none
      else
        if (h 76 9) = 119 then
          if inb 0 4 then
            bd (f_X5_weeksIn x1 (h 83 (Int.toNat 0)) h) fun r7 h7 =>
            some (r7, h7)
          else none
        else
          bd (f_X5_handsOut x1 h) fun r9 h9 =>
          some (r9, h9)
noncomputable def f_X5_drop (x1 : Int) (h : Hp) : Option (Int × Hp) :=
  bd (f_X5_isClaim 0 x1 h) fun r1 h1 =>
  if ¬ r1 = 0 then
    bd (f_X5_records  h1) fun _ h2 =>
    bd (f_X5_claimGoes 0 x1 h2) fun _ h3 =>
    if inb 14 1330 then
      if inb 14 1330 then
        lt (hup h3 77 (Int.toNat 14) (wr ((h3 77 (Int.toNat 14)) + 1))) fun h4 =>
        if inb 16 1330 then
          some ((h4 77 (Int.toNat 16)), h4)
        else none
      else none
    else none
  else
    some ((-1000001), h1)
noncomputable def f_X5_isDigit  (h : Hp) : Option (Int × Hp) :=
  if (h 76 3) ≤ (h 76 8) then
    some (0, h)
  else
    if inb (h 76 8) 60 then
      bd (f_X5_in (h 78 (Int.toNat (h 76 8))) 48 57 h) fun r1 h1 =>
      if r1 = 0 then
        some (0, h1)
      else
        some (1, h1)
    else none
noncomputable def f_X5_readsNumber_L8 (x1 : Int) (x2 : Int) (n : Nat) : Hp → Option (Int × Hp) :=
  Nat.rec (motive := fun _ => Hp → Option (Int × Hp)) (fun  _ => none) (fun _ rec  h =>
    bd (f_X5_isDigit  h) fun r3 h3 =>
    if r3 = 0 then
      if (h3 76 8) ≤ x2 then
        some (0, h3)
      else
        some (1, h3)
    else
      if (wr (x2 + 2)) ≤ (h3 76 8) then
        if (h3 76 8) ≤ x2 then
          some (0, h3)
        else
          some (1, h3)
      else
        if inb x1 4 then
          if inb (h3 76 8) 60 then
            if inb x1 4 then
              lt (hup h3 83 (Int.toNat x1) (wr ((wr ((wr (10 * (h3 83 (Int.toNat x1)))) + (h3 78 (Int.toNat (h3 76 8))))) - 48))) fun h4 =>
              lt (hup h4 76 8 (wr ((h4 76 8) + 1))) fun h5 =>
              rec h5
            else none
          else none
        else none) n
theorem f_X5_readsNumber_L8_s (x1 : Int) (x2 : Int) (n : Nat)  (h : Hp) : f_X5_readsNumber_L8 x1 x2 (n + 1)  h =
    bd (f_X5_isDigit  h) fun r3 h3 =>
    if r3 = 0 then
      if (h3 76 8) ≤ x2 then
        some (0, h3)
      else
        some (1, h3)
    else
      if (wr (x2 + 2)) ≤ (h3 76 8) then
        if (h3 76 8) ≤ x2 then
          some (0, h3)
        else
          some (1, h3)
      else
        if inb x1 4 then
          if inb (h3 76 8) 60 then
            if inb x1 4 then
              lt (hup h3 83 (Int.toNat x1) (wr ((wr ((wr (10 * (h3 83 (Int.toNat x1)))) + (h3 78 (Int.toNat (h3 76 8))))) - 48))) fun h4 =>
              lt (hup h4 76 8 (wr ((h4 76 8) + 1))) fun h5 =>
              f_X5_readsNumber_L8 x1 x2 n h5
            else none
          else none
        else none := rfl
noncomputable def f_X5_readsNumber (x1 : Int) (h : Hp) : Option (Int × Hp) :=
  if inb x1 4 then
    lt (hup h 83 (Int.toNat x1) 0) fun h1 =>
    lv (h1 76 8) fun y2 =>
    (f_X5_readsNumber_L8 x1 y2
       fu  h1)
  else none
noncomputable def f_X5_takes_J15 (s0 : Int) (h : Hp) : Option (Int × Hp) :=
  if s0 = 0 then
    lt (hup h 76 8 (wr ((h 76 8) + 0))) fun h1 =>
    if isB s0 then some (s0, h1) else none
  else
    lt (hup h 76 8 (wr ((h 76 8) + 1))) fun h2 =>
    if isB s0 then some (s0, h2) else none
noncomputable def f_X5_takes_J14  (h : Hp) : Option (Int × Hp) :=
  f_X5_takes_J15 0 h
noncomputable def f_X5_takes (x1 : Int) (h : Hp) : Option (Int × Hp) :=
  if (h 76 3) ≤ (h 76 8) then
    f_X5_takes_J14  h
  else
    if inb (h 76 8) 60 then
      if ¬ (h 78 (Int.toNat (h 76 8))) = x1 then
        f_X5_takes_J14  h
      else
        f_X5_takes_J15 1 h
    else none
noncomputable def f_X5_readsValue (x1 : Int) (x2 : Int) (h : Hp) : Option (Int × Hp) :=
  if ¬ x2 = 0 then
    bd (f_X5_readsNumber x1 h) fun r1 h1 =>
    if isB r1 then some (r1, h1) else none
  else
    bd (f_X5_takes 45 h) fun r2 h2 =>
    if r2 = 0 then
      bd (f_X5_readsNumber x1 h2) fun r3 h3 =>
      if isB r3 then some (r3, h3) else none
    else
      if inb x1 4 then
        lt (hup h2 83 (Int.toNat x1) (-1)) fun h4 =>
        some (1, h4)
      else none
noncomputable def f_X5_readsRow_L7 (x1 : Int) (x2 : Int) (n : Nat) : Int → Int → Hp → Option (Int × Hp) :=
  Nat.rec (motive := fun _ => Int → Int → Hp → Option (Int × Hp)) (fun _ _ _ => none) (fun _ rec x3 x4 h =>
    if x1 ≤ x4 then
      if isB x3 then some (x3, h) else none
    else
      if x3 = 0 then
        if isB x3 then some (x3, h) else none
      else
        bd (f_X5_takes 44 h) fun r2 h2 =>
        if r2 = 0 then
          rec 0 (wr (x4 + 1)) h2
        else
          bd (f_X5_readsValue x4 x2 h2) fun r3 h3 =>
          if r3 = 0 then
            rec 0 (wr (x4 + 1)) h3
          else
            rec 1 (wr (x4 + 1)) h3) n
theorem f_X5_readsRow_L7_s (x1 : Int) (x2 : Int) (n : Nat) (x3 : Int) (x4 : Int) (h : Hp) : f_X5_readsRow_L7 x1 x2 (n + 1) x3 x4 h =
    if x1 ≤ x4 then
      if isB x3 then some (x3, h) else none
    else
      if x3 = 0 then
        if isB x3 then some (x3, h) else none
      else
        bd (f_X5_takes 44 h) fun r2 h2 =>
        if r2 = 0 then
          f_X5_readsRow_L7 x1 x2 n 0 (wr (x4 + 1)) h2
        else
          bd (f_X5_readsValue x4 x2 h2) fun r3 h3 =>
          if r3 = 0 then
            f_X5_readsRow_L7 x1 x2 n 0 (wr (x4 + 1)) h3
          else
            f_X5_readsRow_L7 x1 x2 n 1 (wr (x4 + 1)) h3 := rfl
noncomputable def f_X5_readsRow (x1 : Int) (x2 : Int) (h : Hp) : Option (Int × Hp) :=
  bd (f_X5_readsValue 0 x2 h) fun r1 h1 =>
  (f_X5_readsRow_L7 x1 x2
     fu r1 1 h1)
noncomputable def f_X5_takesWord_L4 (x1 : Int64) (n : Nat) : Int → Int → Hp → Option (Int × Hp) :=
  Nat.rec (motive := fun _ => Int → Int → Hp → Option (Int × Hp)) (fun _ _ _ => none) (fun _ rec x3 x4 h =>
    if x4 < 0 then
      if isB x3 then some (x3, h) else none
    else
      if x3 = 0 then
        if isB x3 then some (x3, h) else none
      else
        lv (Int64.toInt32 ((x1 >>> ((Int32.ofInt x4).toInt64 &&& 63)) &&& 255)).toInt fun y1 =>
        if y1 = 0 then
          rec 1 (wr (x4 + (-8))) h
        else
          bd (f_X5_takes y1 h) fun r2 h2 =>
          if r2 = 0 then
            rec 0 (wr (x4 + (-8))) h2
          else
            rec 1 (wr (x4 + (-8))) h2) n
theorem f_X5_takesWord_L4_s (x1 : Int64) (n : Nat) (x3 : Int) (x4 : Int) (h : Hp) : f_X5_takesWord_L4 x1 (n + 1) x3 x4 h =
    if x4 < 0 then
      if isB x3 then some (x3, h) else none
    else
      if x3 = 0 then
        if isB x3 then some (x3, h) else none
      else
        lv (Int64.toInt32 ((x1 >>> ((Int32.ofInt x4).toInt64 &&& 63)) &&& 255)).toInt fun y1 =>
        if y1 = 0 then
          f_X5_takesWord_L4 x1 n 1 (wr (x4 + (-8))) h
        else
          bd (f_X5_takes y1 h) fun r2 h2 =>
          if r2 = 0 then
            f_X5_takesWord_L4 x1 n 0 (wr (x4 + (-8))) h2
          else
            f_X5_takesWord_L4 x1 n 1 (wr (x4 + (-8))) h2 := rfl
noncomputable def f_X5_takesWord (x1 : Int64) (h : Hp) : Option (Int × Hp) :=
  (f_X5_takesWord_L4 x1
     fu 1 40 h)
noncomputable def f_X5_readsOrder_J13 (s1 : Int) (h : Hp) : Option (Int × Hp) :=
  lt (hup h 76 9 s1) fun h1 =>
  if (h1 76 9) = 99 then
    bd (f_X5_takesWord 109317141916960 h1) fun r2 h2 =>
    if r2 = 0 then
      some (0, h2)
    else
      bd (f_X5_readsRow 4 0 h2) fun r3 h3 =>
      if r3 = 0 then
        some (0, h3)
      else
        bd (f_X5_takes 59 h3) fun r4 h4 =>
        if r4 = 0 then
          some (0, h4)
        else
          some (1, h4)
  else
    if (h1 76 9) = 102 then
      bd (f_X5_takesWord 439855506464 h1) fun r6 h6 =>
      if r6 = 0 then
        some (0, h6)
      else
        bd (f_X5_readsRow 4 1 h6) fun r7 h7 =>
        if r7 = 0 then
          some (0, h7)
        else
          bd (f_X5_takes 59 h7) fun r8 h8 =>
          if r8 = 0 then
            some (0, h8)
          else
            some (1, h8)
    else
      if (h1 76 9) = 104 then
        bd (f_X5_takesWord 1751215716 h1) fun r10 h10 =>
        if r10 = 0 then
          some (0, h10)
        else
          bd (f_X5_takes 59 h10) fun r11 h11 =>
          if r11 = 0 then
            some (0, h11)
          else
            some (1, h11)
      else
        if (h1 76 9) = 116 then
          bd (f_X5_takesWord 499917810720 h1) fun r13 h13 =>
          if r13 = 0 then
            some (0, h13)
          else
            bd (f_X5_readsRow 3 1 h13) fun r14 h14 =>
            if r14 = 0 then
              some (0, h14)
            else
              bd (f_X5_takes 59 h14) fun r15 h15 =>
              if r15 = 0 then
                some (0, h15)
              else
                some (1, h15)
        else
          if (h1 76 9) = 119 then
            bd (f_X5_takesWord 512802253600 h1) fun r17 h17 =>
            if r17 = 0 then
              some (0, h17)
            else
              bd (f_X5_readsRow 1 1 h17) fun r18 h18 =>
              if r18 = 0 then
                some (0, h18)
              else
                bd (f_X5_takes 59 h18) fun r19 h19 =>
                if r19 = 0 then
                  some (0, h19)
                else
                  some (1, h19)
          else
            some (0, h1)
noncomputable def f_X5_readsOrder  (h : Hp) : Option (Int × Hp) :=
  if (h 76 3) ≤ (h 76 8) then
    f_X5_readsOrder_J13 0 h
  else
    if inb (h 76 8) 60 then
      f_X5_readsOrder_J13 (h 78 (Int.toNat (h 76 8))) h
    else none
noncomputable def f_X5_looks_J57 (c12 : Int → Hp → Option (Int × Hp)) (x1 : Int) (s1 : Int) (h : Hp) : Option (Int × Hp) :=
  lt (hup h 76 13 s1) fun h8 =>
  if ¬ (h8 76 12) = 0 then
    lv (wr (x1 + 0)) fun y9 =>
    c12 y9 h8
  else
    lv (wr (x1 + 1)) fun y10 =>
    c12 y10 h8
noncomputable def f_X5_looks_J44 (c12 : Int → Hp → Option (Int × Hp)) (x1 : Int) (x2 : Int) (x3 : Int) (x4 : Int) (s1 : Int) (h : Hp) : Option (Int × Hp) :=
  lt (hup h 76 12 s1) fun h6 =>
  lt (hup h6 76 11 x2) fun h7 =>
  if x3 = 0 then
    f_X5_looks_J57 c12 x1 (wr ((h7 76 8) - x2)) h7
  else
    f_X5_looks_J57 c12 x1 x4 h7
noncomputable def f_X5_looks_J33 (c12 : Int → Hp → Option (Int × Hp)) (x1 : Int) (x2 : Int) (x3 : Int) (s0 : Int) (h : Hp) : Option (Int × Hp) :=
  if ¬ x3 = 0 then
    if 0 ≤ s0 then
      f_X5_looks_J44 c12 x1 x2 x3 s0 0 h
    else
      f_X5_looks_J44 c12 x1 x2 x3 s0 2 h
  else
    f_X5_looks_J44 c12 x1 x2 x3 s0 1 h
noncomputable def f_X5_looks_L12  (n : Nat) : Int → Hp → Option (Int × Hp) :=
  Nat.rec (motive := fun _ => Int → Hp → Option (Int × Hp)) (fun _ _ => none) (fun _ rec x1 h =>
    if ¬ (h 76 12) = 0 then
      some (x1, h)
    else
      if (h 76 3) ≤ (h 76 8) then
        some (x1, h)
      else
        lv (h 76 8) fun y4 =>
        bd (f_X5_readsOrder  h) fun r5 h5 =>
        if r5 = 0 then
          f_X5_looks_J33 rec x1 y4 r5 0 h5
        else
          bd (f_X5_does 1140 h5) fun r11 h11 =>
          f_X5_looks_J33 rec x1 y4 r5 r11 h11) n
theorem f_X5_looks_L12_s  (n : Nat) (x1 : Int) (h : Hp) : f_X5_looks_L12  (n + 1) x1 h =
    if ¬ (h 76 12) = 0 then
      some (x1, h)
    else
      if (h 76 3) ≤ (h 76 8) then
        some (x1, h)
      else
        lv (h 76 8) fun y4 =>
        bd (f_X5_readsOrder  h) fun r5 h5 =>
        if r5 = 0 then
          f_X5_looks_J33 (f_X5_looks_L12  n) x1 y4 r5 0 h5
        else
          bd (f_X5_does 1140 h5) fun r11 h11 =>
          f_X5_looks_J33 (f_X5_looks_L12  n) x1 y4 r5 r11 h11 := rfl
noncomputable def f_X5_looks  (h : Hp) : Option (Int × Hp) :=
  bd (f_X5_copies 0 6 h) fun _ h1 =>
  lt (hup h1 76 8 0) fun h2 =>
  lt (hup h2 76 12 0) fun h3 =>
  (f_X5_looks_L12 
     fu 0 h3)
noncomputable def f_X5_fault (x1 : Int) (h : Hp) : Option (Int × Hp) :=
  bd (f_X5_in x1 0 2 h) fun r1 h1 =>
  if ¬ r1 = 0 then
    bd (f_X5_looks  h1) fun r2 h2 =>
    if ¬ (h2 76 12) = 0 then
      if ¬ x1 = 0 then
        if ¬ x1 = 1 then
          some ((h2 76 13), h2)
        else
          some ((h2 76 12), h2)
      else
        some ((h2 76 11), h2)
    else
      some ((-1000004), h2)
  else
    some ((-1000001), h1)
noncomputable def f_X5_find (x1 : Int) (x2 : Int) (x3 : Int) (x4 : Int) (h : Hp) : Option (Int × Hp) :=
  bd (f_X5_tried  h) fun r1 h1 =>
  bd (f_X5_finds r1 x1 x2 x3 x4 h1) fun r2 h2 =>
  bd (f_X5_done r2 h2) fun r3 h3 =>
  some (r3, h3)
noncomputable def f_X5_hand  (h : Hp) : Option (Int × Hp) :=
  bd (f_X5_tried  h) fun r1 h1 =>
  bd (f_X5_handsOut r1 h1) fun r2 h2 =>
  bd (f_X5_done r2 h2) fun r3 h3 =>
  some (r3, h3)
noncomputable def f_X5_having (x1 : Int) (x2 : Int) (h : Hp) : Option (Int × Hp) :=
  bd (f_X5_isDetail x1 x2 h) fun r1 h1 =>
  if r1 = 0 then
    some ((-1000001), h1)
  else
    bd (f_X5_many 0 x1 x2 h1) fun r2 h2 =>
    some (r2, h2)
noncomputable def f_X5_ifTold (x1 : Int) (x2 : Int) (x3 : Int) (h : Hp) : Option (Int × Hp) :=
  bd (f_X5_tried  h) fun r1 h1 =>
  bd (f_X5_tells r1 x1 x2 x3 h1) fun r2 h2 =>
  if ¬ r2 = (-1000001) then
    bd (f_X5_matchOf r1 x1 h2) fun r3 h3 =>
    some (r3, h3)
  else
    some ((-1000001), h2)
noncomputable def f_X5_ifWeeks (x1 : Int) (x2 : Int) (h : Hp) : Option (Int × Hp) :=
  bd (f_X5_in x1 1 20 h) fun r1 h1 =>
  if r1 = 0 then
    some ((-1000001), h1)
  else
    bd (f_X5_in x2 0 2 h1) fun r2 h2 =>
    if ¬ r2 = 0 then
      bd (f_X5_tried  h2) fun r3 h3 =>
      bd (f_X5_goBy r3 x1 h3) fun r4 h4 =>
      if ¬ x2 = 0 then
        if ¬ x2 = 1 then
          bd (f_X5_matches r3 h4) fun r5 h5 =>
          some (r5, h5)
        else
          if inb (wr (r3 + 12)) 1330 then
            if inb 12 1330 then
              some ((wr ((h4 77 (Int.toNat (wr (r3 + 12)))) - (h4 77 (Int.toNat 12)))), h4)
            else none
          else none
      else
        some (r4, h4)
    else
      some ((-1000001), h2)
noncomputable def f_X5_isSetting (x0 : Int) (x1 : Int) (h : Hp) : Option (Int × Hp) :=
  if x0 = 0 then
    bd (f_X5_in x1 0 3 h) fun r1 h1 =>
    if isB r1 then some (r1, h1) else none
  else
    if x0 = 1 then
      bd (f_X5_in x1 0 20 h) fun r3 h3 =>
      if isB r3 then some (r3, h3) else none
    else
      if x0 = 2 then
        bd (f_X5_in x1 0 20 h) fun r5 h5 =>
        if isB r5 then some (r5, h5) else none
      else
        if x0 = 3 then
          bd (f_X5_in x1 1 48 h) fun r7 h7 =>
          if isB r7 then some (r7, h7) else none
        else
          if x0 = 4 then
            bd (f_X5_in x1 0 9 h) fun r9 h9 =>
            if isB r9 then some (r9, h9) else none
          else
            if x0 = 5 then
              bd (f_X5_in x1 1 20 h) fun r11 h11 =>
              if isB r11 then some (r11, h11) else none
            else
              if x0 = 6 then
                bd (f_X5_in x1 1 20 h) fun r13 h13 =>
                if isB r13 then some (r13, h13) else none
              else
                some (0, h)
noncomputable def f_X5_isUmbrella (x1 : Int) (h : Hp) : Option (Int × Hp) :=
  if inb 15 1330 then
    bd (f_X5_in x1 0 (wr ((h 77 (Int.toNat 15)) - 1)) h) fun r1 h1 =>
    if isB r1 then some (r1, h1) else none
  else none
noncomputable def f_X5_mateOf (x1 : Int) (x2 : Int) (h : Hp) : Option (Int × Hp) :=
  bd (f_X5_matches 0 h) fun r1 h1 =>
  if inb x1 12 then
    lv (h1 79 (Int.toNat x1)) fun y2 =>
    if ¬ y2 = (-1) then
      if x2 = 0 then
        bd (f_X5_pointsOf 0 x1 y2 h1) fun r3 h3 =>
        some (r3, h3)
      else
        some (y2, h1)
    else
      some ((-1000004), h1)
  else none
noncomputable def f_X5_mean_L8 (x1 : Int) (c35 : Int → Hp → Option (Int × Hp)) (n : Nat) : Int → Int → Hp → Option (Int × Hp) :=
  Nat.rec (motive := fun _ => Int → Int → Hp → Option (Int × Hp)) (fun _ _ _ => none) (fun _ rec x2 x3 h =>
    if 12 ≤ x3 then
      c35 x2 h
    else
      if inb x3 12 then
        if ¬ (h 79 (Int.toNat x3)) = (-1) then
          if inb x3 12 then
            if inb (wr ((wr (12 * x3)) + (h 79 (Int.toNat x3)))) 144 then
              lv (wr (x2 + (h 81 (Int.toNat (wr ((wr (12 * x3)) + (h 79 (Int.toNat x3)))))))) fun y2 =>
              rec y2 (wr (x3 + 1)) h
            else none
          else none
        else
          lv (wr (x2 + 0)) fun y3 =>
          rec y3 (wr (x3 + 1)) h
      else none) n
theorem f_X5_mean_L8_s (x1 : Int) (c35 : Int → Hp → Option (Int × Hp)) (n : Nat) (x2 : Int) (x3 : Int) (h : Hp) : f_X5_mean_L8 x1 c35 (n + 1) x2 x3 h =
    if 12 ≤ x3 then
      c35 x2 h
    else
      if inb x3 12 then
        if ¬ (h 79 (Int.toNat x3)) = (-1) then
          if inb x3 12 then
            if inb (wr ((wr (12 * x3)) + (h 79 (Int.toNat x3)))) 144 then
              lv (wr (x2 + (h 81 (Int.toNat (wr ((wr (12 * x3)) + (h 79 (Int.toNat x3)))))))) fun y2 =>
              f_X5_mean_L8 x1 c35 n y2 (wr (x3 + 1)) h
            else none
          else none
        else
          lv (wr (x2 + 0)) fun y3 =>
          f_X5_mean_L8 x1 c35 n y3 (wr (x3 + 1)) h
      else none := rfl
noncomputable def f_X5_mean  (h : Hp) : Option (Int × Hp) :=
  bd (f_X5_matches 0 h) fun r1 h1 =>
  (f_X5_mean_L8 r1
    (fun y4 h5 =>
      if ¬ r1 = 0 then
        if nN (FP.fdiv (FP.i2f (Int32.ofInt y4)) (FP.i2f (Int32.ofInt r1))) then
          bd (f_J_floatToIntBits (FP.fdiv (FP.i2f (Int32.ofInt y4)) (FP.i2f (Int32.ofInt r1))) h5) fun r6 h6 =>
          some (r6, h6)
        else none
      else
        some ((-1000004), h5))
     fu 0 0 h1)
noncomputable def f_X5_oddness_L4 (x1 : Int) (n : Nat) : Int → Int → Hp → Option (Int × Hp) :=
  Nat.rec (motive := fun _ => Int → Int → Hp → Option (Int × Hp)) (fun _ _ _ => none) (fun _ rec x2 x3 h =>
    if 4 ≤ x3 then
      some (x2, h)
    else
      bd (f_X5_umbrellaAt 0 x1 h) fun r1 h1 =>
      if inb (wr (r1 + x3)) 1330 then
        bd (f_X5_many 0 x3 (h1 77 (Int.toNat (wr (r1 + x3)))) h1) fun r2 h2 =>
        lv (wr (x2 + (wr (13 - r2)))) fun y3 =>
        rec y3 (wr (x3 + 1)) h2
      else none) n
theorem f_X5_oddness_L4_s (x1 : Int) (n : Nat) (x2 : Int) (x3 : Int) (h : Hp) : f_X5_oddness_L4 x1 (n + 1) x2 x3 h =
    if 4 ≤ x3 then
      some (x2, h)
    else
      bd (f_X5_umbrellaAt 0 x1 h) fun r1 h1 =>
      if inb (wr (r1 + x3)) 1330 then
        bd (f_X5_many 0 x3 (h1 77 (Int.toNat (wr (r1 + x3)))) h1) fun r2 h2 =>
        lv (wr (x2 + (wr (13 - r2)))) fun y3 =>
        f_X5_oddness_L4 x1 n y3 (wr (x3 + 1)) h2
      else none := rfl
noncomputable def f_X5_oddness (x1 : Int) (h : Hp) : Option (Int × Hp) :=
  (f_X5_oddness_L4 x1
     fu 0 0 h)
noncomputable def f_X5_oddest_L4  (n : Nat) : Int → Int → Hp → Option (Int × Hp) :=
  Nat.rec (motive := fun _ => Int → Int → Hp → Option (Int × Hp)) (fun _ _ _ => none) (fun _ rec x1 x2 h =>
    if inb 15 1330 then
      if (h 77 (Int.toNat 15)) ≤ x2 then
        some (x1, h)
      else
        if x1 = (-1000004) then
          rec x2 (wr (x2 + 1)) h
        else
          bd (f_X5_oddness x2 h) fun r1 h1 =>
          bd (f_X5_oddness x1 h1) fun r2 h2 =>
          if r1 ≤ r2 then
            rec x1 (wr (x2 + 1)) h2
          else
            rec x2 (wr (x2 + 1)) h2
    else none) n
theorem f_X5_oddest_L4_s  (n : Nat) (x1 : Int) (x2 : Int) (h : Hp) : f_X5_oddest_L4  (n + 1) x1 x2 h =
    if inb 15 1330 then
      if (h 77 (Int.toNat 15)) ≤ x2 then
        some (x1, h)
      else
        if x1 = (-1000004) then
          f_X5_oddest_L4  n x2 (wr (x2 + 1)) h
        else
          bd (f_X5_oddness x2 h) fun r1 h1 =>
          bd (f_X5_oddness x1 h1) fun r2 h2 =>
          if r1 ≤ r2 then
            f_X5_oddest_L4  n x1 (wr (x2 + 1)) h2
          else
            f_X5_oddest_L4  n x2 (wr (x2 + 1)) h2
    else none := rfl
noncomputable def f_X5_oddest  (h : Hp) : Option (Int × Hp) :=
  (f_X5_oddest_L4 
     fu (-1000004) 0 h)
noncomputable def f_X5_play  (h : Hp) : Option (Int × Hp) :=
  bd (f_X5_looks  h) fun r1 h1 =>
  if (h1 76 12) ≤ 0 then
    bd (f_X5_records  h1) fun _ h2 =>
    bd (f_X5_copies 6 0 h2) fun _ h3 =>
    some (r1, h3)
  else
    some ((-1000002), h1)
noncomputable def f_X5_points (x1 : Int) (x2 : Int) (h : Hp) : Option (Int × Hp) :=
  bd (f_X5_isUmbrella x1 h) fun r1 h1 =>
  if r1 = 0 then
    some ((-1000001), h1)
  else
    bd (f_X5_isClaim 0 x2 h1) fun r2 h2 =>
    if r2 = 0 then
      some ((-1000001), h2)
    else
      bd (f_X5_pointsOf 0 x1 x2 h2) fun r3 h3 =>
      some ((wr (1000 + r3)), h3)
noncomputable def f_X5_set (x1 : Int) (x2 : Int) (h : Hp) : Option (Int × Hp) :=
  bd (f_X5_isSetting x1 x2 h) fun r1 h1 =>
  if ¬ r1 = 0 then
    bd (f_X5_records  h1) fun _ h2 =>
    if inb (wr (1 + x1)) 1330 then
      lv (h2 77 (Int.toNat (wr (1 + x1)))) fun y3 =>
      if inb (wr (1 + x1)) 1330 then
        lt (hup h2 77 (Int.toNat (wr (1 + x1))) x2) fun h4 =>
        some (y3, h4)
      else none
    else none
  else
    some ((-1000001), h1)
noncomputable def f_X5_tell (x1 : Int) (x2 : Int) (x3 : Int) (h : Hp) : Option (Int × Hp) :=
  bd (f_X5_tried  h) fun r1 h1 =>
  bd (f_X5_tells r1 x1 x2 x3 h1) fun r2 h2 =>
  bd (f_X5_done r2 h2) fun r3 h3 =>
  some (r3, h3)
noncomputable def f_X5_type (x1 : Int) (h : Hp) : Option (Int × Hp) :=
  bd (f_X5_in x1 32 126 h) fun r1 h1 =>
  if ¬ r1 = 0 then
    if ¬ (h1 76 3) = 60 then
      if inb (h1 76 3) 60 then
        lt (hup h1 78 (Int.toNat (h1 76 3)) x1) fun h2 =>
        lt (hup h2 76 3 (wr ((h2 76 3) + 1))) fun h3 =>
        some ((h3 76 3), h3)
      else none
    else
      some ((-1000003), h1)
  else
    some ((-1000001), h1)
noncomputable def f_X5_umbrella (x1 : Int) (x2 : Int) (h : Hp) : Option (Int × Hp) :=
  bd (f_X5_isUmbrella x1 h) fun r1 h1 =>
  if r1 = 0 then
    some ((-1000001), h1)
  else
    bd (f_X5_in x2 0 8 h1) fun r2 h2 =>
    if ¬ r2 = 0 then
      if x2 = 5 then
        if ¬ x2 = 5 then
          bd (f_X5_mateOf x1 0 h2) fun r3 h3 =>
          some (r3, h3)
        else
          bd (f_X5_mateOf x1 1 h2) fun r4 h4 =>
          some (r4, h4)
      else
        if x2 = 6 then
          if ¬ x2 = 5 then
            bd (f_X5_mateOf x1 0 h2) fun r6 h6 =>
            some (r6, h6)
          else
            bd (f_X5_mateOf x1 1 h2) fun r7 h7 =>
            some (r7, h7)
        else
          if x2 = 7 then
            bd (f_X5_suiting x1 (-1) h2) fun r9 h9 =>
            some (r9, h9)
          else
            if x2 = 8 then
              bd (f_X5_oddness x1 h2) fun r11 h11 =>
              some (r11, h11)
            else
              bd (f_X5_umbrellaAt 0 x1 h2) fun r13 h13 =>
              if inb (wr (r13 + x2)) 1330 then
                some ((h13 77 (Int.toNat (wr (r13 + x2)))), h13)
              else none
    else
      some ((-1000001), h2)
noncomputable def f_X5_undo  (h : Hp) : Option (Int × Hp) :=
  if ¬ (h 76 1) = 0 then
    bd (f_X5_copies (h 76 1) 0 h) fun _ h1 =>
    lt (hup h1 76 1 (wr ((h1 76 1) - 1))) fun h2 =>
    some ((h2 76 1), h2)
  else
    some ((-1000002), h)
noncomputable def f_X5_weeks (x1 : Int) (h : Hp) : Option (Int × Hp) :=
  bd (f_X5_tried  h) fun r1 h1 =>
  bd (f_X5_weeksIn r1 x1 h1) fun r2 h2 =>
  bd (f_X5_done r2 h2) fun r3 h3 =>
  some (r3, h3)
noncomputable def f_X5_why_J80  (h : Hp) : Option (Int × Hp) :=
  if (1 : Int) = 0 then
    some (4, h)
  else
    some (3, h)
noncomputable def f_X5_why (x1 : Int) (x2 : Int) (h : Hp) : Option (Int × Hp) :=
  bd (f_X5_isUmbrella x1 h) fun r1 h1 =>
  if r1 = 0 then
    some ((-1000001), h1)
  else
    bd (f_X5_isClaim 0 x2 h1) fun r2 h2 =>
    if ¬ r2 = 0 then
      bd (f_X5_matches 0 h2) fun r3 h3 =>
      if inb x1 12 then
        if ¬ (h3 79 (Int.toNat x1)) = x2 then
          bd (f_X5_misses 0 x1 x2 h3) fun r4 h4 =>
          if inb 1 1330 then
            if r4 ≤ (h4 77 (Int.toNat 1)) then
              bd (f_X5_pointsOf 0 x1 x2 h4) fun r5 h5 =>
              if inb 4 1330 then
                if (h5 77 (Int.toNat 4)) ≤ r5 then
                  if inb x1 12 then
                    lv (h5 79 (Int.toNat x1)) fun y6 =>
                    if y6 = (-1) then
                      if (0 : Int) = 0 then
                        some (4, h5)
                      else
                        some (3, h5)
                    else
                      if inb (wr ((wr (12 * x1)) + y6)) 144 then
                        if r5 < (h5 81 (Int.toNat (wr ((wr (12 * x1)) + y6)))) then
                          f_X5_why_J80  h5
                        else
                          if inb (wr ((wr (12 * x1)) + y6)) 144 then
                            if ¬ (h5 81 (Int.toNat (wr ((wr (12 * x1)) + y6)))) = r5 then
                              if (0 : Int) = 0 then
                                some (4, h5)
                              else
                                some (3, h5)
                            else
                              if x2 ≤ y6 then
                                if (0 : Int) = 0 then
                                  some (4, h5)
                                else
                                  some (3, h5)
                              else
                                f_X5_why_J80  h5
                          else none
                      else none
                  else none
                else
                  some (2, h5)
              else none
            else
              some (1, h4)
          else none
        else
          some (0, h3)
      else none
    else
      some ((-1000001), h2)

/-! printed by wip/gen/gen26.py: the law's methods as functions over the heap of numbers -/
noncomputable def f_L_low (x0 : Int) (x1 : Int) (h : Hp) : Option (Int × Hp) :=
  if 0 < x1 then
    some ((wr ((Int32.ofInt x0 &&& Int32.ofInt 2147483647).toInt - Int.tdiv (Int32.ofInt x0 &&& Int32.ofInt 2147483647).toInt x1 * x1)), h)
  else none
noncomputable def f_L_act_J14 (x2 : Int) (x3 : Int) (h : Hp) : Option (Int × Hp) :=
  bd (f_L_low x2 x3 h) fun r3 h3 =>
  bd (f_L_low (Int32.ofInt x2 >>> (Int32.ofInt 3 &&& 31)).toInt x3 h3) fun r4 h4 =>
  bd (f_L_low (Int32.ofInt x2 >>> (Int32.ofInt 6 &&& 31)).toInt x3 h4) fun r5 h5 =>
  bd (f_L_low (Int32.ofInt x2 >>> (Int32.ofInt 9 &&& 31)).toInt x3 h5) fun r6 h6 =>
  bd (f_X4_find r3 r4 r5 r6 h6) fun r7 h7 =>
  some (r7, h7)
noncomputable def f_L_act_J35 (x2 : Int) (x3 : Int) (h : Hp) : Option (Int × Hp) :=
  bd (f_L_low x2 (wr (x3 + 1)) h) fun r12 h12 =>
  bd (f_L_low (Int32.ofInt x2 >>> (Int32.ofInt 3 &&& 31)).toInt (wr (x3 + 1)) h12) fun r13 h13 =>
  bd (f_L_low (Int32.ofInt x2 >>> (Int32.ofInt 6 &&& 31)).toInt (wr (x3 + 1)) h13) fun r14 h14 =>
  bd (f_L_low (Int32.ofInt x2 >>> (Int32.ofInt 9 &&& 31)).toInt (wr (x3 + 1)) h14) fun r15 h15 =>
  bd (f_X4_claim (wr (r12 - 1)) (wr (r13 - 1)) (wr (r14 - 1)) (wr (r15 - 1)) h15) fun r16 h16 =>
  some (r16, h16)
noncomputable def f_L_act_J72 (x1 : Int) (x2 : Int) (x3 : Int) (h : Hp) : Option (Int × Hp) :=
  bd (f_L_low (Int32.ofInt x1 >>> (Int32.ofInt 4 &&& 31)).toInt 6 h) fun r21 h21 =>
  bd (f_L_low x2 4 h21) fun r22 h22 =>
  bd (f_L_low (Int32.ofInt x2 >>> (Int32.ofInt 2 &&& 31)).toInt x3 h22) fun r23 h23 =>
  bd (f_X4_tell r21 r22 r23 h23) fun r24 h24 =>
  some (r24, h24)
noncomputable def f_L_act_J118 (s1 : Int) (s2 : Int) (s3 : Int) (h : Hp) : Option (Int × Hp) :=
  bd (f_L_low s2 s3 h) fun r35 h35 =>
  bd (f_X4_weeks (wr (s1 + r35)) h35) fun r36 h36 =>
  some (r36, h36)
noncomputable def f_L_act_J106 (x2 : Int) (h : Hp) : Option (Int × Hp) :=
  bd (f_L_low (Int32.ofInt x2 >>> (Int32.ofInt 8 &&& 31)).toInt 5 h) fun r34 h34 =>
  if ¬ r34 = 0 then
    f_L_act_J118 1 x2 2 h34
  else
    f_L_act_J118 1 x2 20 h34
noncomputable def f_L_act_J135 (s1 : Int) (s2 : Int) (s3 : Int) (s4 : Int) (h : Hp) : Option (Int × Hp) :=
  bd (f_L_low s3 s4 h) fun r40 h40 =>
  bd (f_X4_set s1 (wr (s2 + r40)) h40) fun r41 h41 =>
  some (r41, h41)
noncomputable def f_L_act_J9 (x1 : Int) (x2 : Int) (s0 : Int) (h : Hp) : Option (Int × Hp) :=
  bd (f_L_low x1 16 h) fun r2 h2 =>
  if r2 = 0 then
    f_L_act_J14 x2 s0 h2
  else
    if r2 = 1 then
      f_L_act_J14 x2 s0 h2
    else
      if r2 = 2 then
        f_L_act_J14 x2 s0 h2
      else
        if r2 = 3 then
          f_L_act_J14 x2 s0 h2
        else
          if r2 = 4 then
            f_L_act_J35 x2 s0 h2
          else
            if r2 = 5 then
              f_L_act_J35 x2 s0 h2
            else
              if r2 = 6 then
                f_L_act_J35 x2 s0 h2
              else
                if r2 = 7 then
                  f_L_act_J35 x2 s0 h2
                else
                  if r2 = 8 then
                    f_L_act_J72 x1 x2 s0 h2
                  else
                    if r2 = 9 then
                      f_L_act_J72 x1 x2 s0 h2
                    else
                      if r2 = 10 then
                        bd (f_L_low x2 2 h2) fun r27 h27 =>
                        if ¬ r27 = 0 then
                          bd (f_X4_hand  h27) fun r28 h28 =>
                          some (r28, h28)
                        else
                          bd (f_L_low (Int32.ofInt x1 >>> (Int32.ofInt 4 &&& 31)).toInt 6 h27) fun r29 h29 =>
                          bd (f_X4_drop r29 h29) fun r30 h30 =>
                          some (r30, h30)
                      else
                        if r2 = 11 then
                          bd (f_X4_hand  h2) fun r32 h32 =>
                          some (r32, h32)
                        else
                          if r2 = 12 then
                            f_L_act_J106 x2 h2
                          else
                            if r2 = 13 then
                              f_L_act_J106 x2 h2
                            else
                              if r2 = 14 then
                                bd (f_L_low (Int32.ofInt x2 >>> (Int32.ofInt 8 &&& 31)).toInt 3 h2) fun r39 h39 =>
                                if ¬ r39 = 0 then
                                  f_L_act_J135 3 1 x2 16 h39
                                else
                                  f_L_act_J135 3 1 x2 48 h39
                              else
                                bd (f_L_low (Int32.ofInt x1 >>> (Int32.ofInt 4 &&& 31)).toInt 7 h2) fun r43 h43 =>
                                if ¬ r43 = 0 then
                                  if ¬ r43 = 4 then
                                    bd (f_L_low x2 20 h43) fun r44 h44 =>
                                    bd (f_X4_set r43 (wr (1 + r44)) h44) fun r45 h45 =>
                                    some (r45, h45)
                                  else
                                    bd (f_L_low x2 10 h43) fun r46 h46 =>
                                    bd (f_X4_set r43 r46 h46) fun r47 h47 =>
                                    some (r47, h47)
                                else
                                  bd (f_L_low x2 4 h43) fun r48 h48 =>
                                  bd (f_X4_set r43 r48 h48) fun r49 h49 =>
                                  some (r49, h49)
noncomputable def f_L_act (x1 : Int) (x2 : Int) (h : Hp) : Option (Int × Hp) :=
  bd (f_L_low (Int32.ofInt x1 >>> (Int32.ofInt 12 &&& 31)).toInt 3 h) fun r1 h1 =>
  if ¬ r1 = 0 then
    f_L_act_J9 x1 x2 4 h1
  else
    f_L_act_J9 x1 x2 10 h1
noncomputable def f_L_quotient_L2 (x0 : Int) (x1 : Int) (c11 : Int → Hp → Option (Int × Hp)) (n : Nat) : Int → Hp → Option (Int × Hp) :=
  Nat.rec (motive := fun _ => Int → Hp → Option (Int × Hp)) (fun _ _ => none) (fun _ rec x2 h =>
    if x0 < (Int32.ofInt x1 <<< (Int32.ofInt (wr (x2 + 1)) &&& 31)).toInt then
      c11 x2 h
    else
      rec (wr (x2 + 1)) h) n
theorem f_L_quotient_L2_s (x0 : Int) (x1 : Int) (c11 : Int → Hp → Option (Int × Hp)) (n : Nat) (x2 : Int) (h : Hp) : f_L_quotient_L2 x0 x1 c11 (n + 1) x2 h =
    if x0 < (Int32.ofInt x1 <<< (Int32.ofInt (wr (x2 + 1)) &&& 31)).toInt then
      c11 x2 h
    else
      f_L_quotient_L2 x0 x1 c11 n (wr (x2 + 1)) h := rfl
noncomputable def f_L_quotient_J52 (x2 : Int) (s0 : Int64) (s1 : Int64) (h : Hp) : Option (Int × Hp) :=
  ll (s0 + s1) fun y6 =>
  some ((wr ((Int32.ofInt (wr (127 + x2)) <<< (Int32.ofInt 23 &&& 31)).toInt + (Int64.toInt32 (y6 - 8388608)).toInt)), h)
noncomputable def f_L_quotient_J49 (x2 : Int) (s0 : Int64) (h : Hp) : Option (Int × Hp) :=
  f_L_quotient_J52 x2 s0 (Int64.ofNat 1) h
noncomputable def f_L_quotient_J51 (x2 : Int) (s0 : Int64) (h : Hp) : Option (Int × Hp) :=
  f_L_quotient_J52 x2 s0 (Int64.ofNat 0) h
noncomputable def f_L_quotient (x0 : Int) (x1 : Int) (h : Hp) : Option (Int × Hp) :=
  (f_L_quotient_L2 x0 x1
    (fun y1 h2 =>
      ll ((Int64.ofInt x0) <<< ((Int32.ofInt (wr (23 - y1))).toInt64 &&& 63)) fun y3 =>
      if ¬ (Int64.ofInt x1) = 0 then
        ll (y3 - y3 / (Int64.ofInt x1) * (Int64.ofInt x1)) fun y4 =>
        if ¬ (Int64.ofInt x1) = 0 then
          ll (y3 / (Int64.ofInt x1)) fun y5 =>
          if 0 < (lg_cmp (2 * y4) (Int64.ofInt x1)).toInt then
            f_L_quotient_J49 y1 y5 h2
          else
            if ¬ (lg_cmp (2 * y4) (Int64.ofInt x1)).toInt = 0 then
              f_L_quotient_J51 y1 y5 h2
            else
              if ¬ 2 = 0 then
                if ¬ (lg_cmp (y5 - y5 / 2 * 2) (Int64.ofNat 1)).toInt = 0 then
                  f_L_quotient_J51 y1 y5 h2
                else
                  f_L_quotient_J49 y1 y5 h2
              else none
        else none
      else none)
     fu 0 h)
noncomputable def f_L_stable_L16 (x1 : Int) (x2 : Int) (c35 : Hp → Option (Int × Hp)) (n : Nat) : Int → Hp → Option (Int × Hp) :=
  Nat.rec (motive := fun _ => Int → Hp → Option (Int × Hp)) (fun _ _ => none) (fun _ rec x5 h =>
    if x1 ≤ x5 then
      c35 h
    else
      bd (f_X4_umbrella x5 5 h) fun r5 h5 =>
      if inb x5 12 then
        lt (hup h5 76 (Int.toNat x5) r5) fun h6 =>
        bd (f_X4_umbrella x5 6 h6) fun r7 h7 =>
        if inb x5 12 then
          lt (hup h7 77 (Int.toNat x5) r7) fun h8 =>
          rec (wr (x5 + 1)) h8
        else none
      else none) n
theorem f_L_stable_L16_s (x1 : Int) (x2 : Int) (c35 : Hp → Option (Int × Hp)) (n : Nat) (x5 : Int) (h : Hp) : f_L_stable_L16 x1 x2 c35 (n + 1) x5 h =
    if x1 ≤ x5 then
      c35 h
    else
      bd (f_X4_umbrella x5 5 h) fun r5 h5 =>
      if inb x5 12 then
        lt (hup h5 76 (Int.toNat x5) r5) fun h6 =>
        bd (f_X4_umbrella x5 6 h6) fun r7 h7 =>
        if inb x5 12 then
          lt (hup h7 77 (Int.toNat x5) r7) fun h8 =>
          f_L_stable_L16 x1 x2 c35 n (wr (x5 + 1)) h8
        else none
      else none := rfl
noncomputable def f_L_stable_L76 (x1 : Int) (x2 : Int) (x5 : Int) (x6 : Int) (x7 : Int) (x8 : Int) (x9 : Int) (x10 : Int) (c101 : Int → Hp → Option (Int × Hp)) (n : Nat) : Int → Int → Hp → Option (Int × Hp) :=
  Nat.rec (motive := fun _ => Int → Int → Hp → Option (Int × Hp)) (fun _ _ _ => none) (fun _ rec x11 x12 h =>
    if 4 ≤ x12 then
      c101 x11 h
    else
      bd (f_X4_claimOf x6 x12 h) fun r17 h17 =>
      if r17 < 0 then
        lv (wr (x11 + 0)) fun y18 =>
        rec y18 (wr (x12 + 1)) h17
      else
        bd (f_X4_claimOf x6 x12 h17) fun r19 h19 =>
        bd (f_X4_umbrella x5 x12 h19) fun r20 h20 =>
        if r19 = r20 then
          lv (wr (x11 + 0)) fun y21 =>
          rec y21 (wr (x12 + 1)) h20
        else
          lv (wr (x11 + 1)) fun y22 =>
          rec y22 (wr (x12 + 1)) h20) n
theorem f_L_stable_L76_s (x1 : Int) (x2 : Int) (x5 : Int) (x6 : Int) (x7 : Int) (x8 : Int) (x9 : Int) (x10 : Int) (c101 : Int → Hp → Option (Int × Hp)) (n : Nat) (x11 : Int) (x12 : Int) (h : Hp) : f_L_stable_L76 x1 x2 x5 x6 x7 x8 x9 x10 c101 (n + 1) x11 x12 h =
    if 4 ≤ x12 then
      c101 x11 h
    else
      bd (f_X4_claimOf x6 x12 h) fun r17 h17 =>
      if r17 < 0 then
        lv (wr (x11 + 0)) fun y18 =>
        f_L_stable_L76 x1 x2 x5 x6 x7 x8 x9 x10 c101 n y18 (wr (x12 + 1)) h17
      else
        bd (f_X4_claimOf x6 x12 h17) fun r19 h19 =>
        bd (f_X4_umbrella x5 x12 h19) fun r20 h20 =>
        if r19 = r20 then
          lv (wr (x11 + 0)) fun y21 =>
          f_L_stable_L76 x1 x2 x5 x6 x7 x8 x9 x10 c101 n y21 (wr (x12 + 1)) h20
        else
          lv (wr (x11 + 1)) fun y22 =>
          f_L_stable_L76 x1 x2 x5 x6 x7 x8 x9 x10 c101 n y22 (wr (x12 + 1)) h20 := rfl
noncomputable def f_L_stable_J199 (c48 : Int → Hp → Option (Int × Hp)) (x1 : Int) (x2 : Int) (x5 : Int) (x6 : Int) (x7 : Int) (x13 : Int) (x14 : Int) (h : Hp) : Option (Int × Hp) :=
  if ¬ x7 = 4 then
    c48 (wr (x6 + 2)) h
  else
    if ¬ x13 = 0 then
      some (0, h)
    else
      if ¬ x14 = 0 then
        c48 (wr (x6 + 2)) h
      else
        some (0, h)
noncomputable def f_L_stable_J192 (c48 : Int → Hp → Option (Int × Hp)) (x1 : Int) (x2 : Int) (x5 : Int) (x6 : Int) (x7 : Int) (x12 : Int) (x13 : Int) (x14 : Int) (s0 : Int) (h : Hp) : Option (Int × Hp) :=
  if s0 = x12 then
    some (0, h)
  else
    if ¬ x7 = 3 then
      f_L_stable_J199 c48 x1 x2 x5 x6 x7 x13 x14 h
    else
      if x13 = 0 then
        some (0, h)
      else
        f_L_stable_J199 c48 x1 x2 x5 x6 x7 x13 x14 h
noncomputable def f_L_stable_J189 (c48 : Int → Hp → Option (Int × Hp)) (x1 : Int) (x2 : Int) (x5 : Int) (x6 : Int) (x7 : Int) (x12 : Int) (x13 : Int) (x14 : Int) (h : Hp) : Option (Int × Hp) :=
  f_L_stable_J192 c48 x1 x2 x5 x6 x7 x12 x13 x14 1 h
noncomputable def f_L_stable_J182 (c48 : Int → Hp → Option (Int × Hp)) (x1 : Int) (x2 : Int) (x5 : Int) (x6 : Int) (x7 : Int) (x12 : Int) (x13 : Int) (x14 : Int) (s0 : Int) (s1 : Int) (h : Hp) : Option (Int × Hp) :=
  if ¬ s0 = s1 then
    some (0, h)
  else
    if x7 = 1 then
      f_L_stable_J189 c48 x1 x2 x5 x6 x7 x12 x13 x14 h
    else
      if ¬ x7 = 2 then
        f_L_stable_J192 c48 x1 x2 x5 x6 x7 x12 x13 x14 0 h
      else
        f_L_stable_J189 c48 x1 x2 x5 x6 x7 x12 x13 x14 h
noncomputable def f_L_stable_J181 (c48 : Int → Hp → Option (Int × Hp)) (x1 : Int) (x2 : Int) (x5 : Int) (x6 : Int) (x7 : Int) (x12 : Int) (x13 : Int) (x14 : Int) (s0 : Int) (h : Hp) : Option (Int × Hp) :=
  f_L_stable_J182 c48 x1 x2 x5 x6 x7 x12 x13 x14 s0 0 h
noncomputable def f_L_stable_J171 (c48 : Int → Hp → Option (Int × Hp)) (x1 : Int) (x2 : Int) (x5 : Int) (x6 : Int) (x7 : Int) (x9 : Int) (x11 : Int) (x12 : Int) (x13 : Int) (x14 : Int) (s0 : Int) (h : Hp) : Option (Int × Hp) :=
  if x9 = x6 then
    f_L_stable_J181 c48 x1 x2 x5 x6 x7 x12 x13 x14 s0 h
  else
    bd (f_X4_count 20 h) fun r26 h26 =>
    if x11 ≤ r26 then
      f_L_stable_J181 c48 x1 x2 x5 x6 x7 x12 x13 x14 s0 h26
    else
      f_L_stable_J182 c48 x1 x2 x5 x6 x7 x12 x13 x14 s0 1 h26
noncomputable def f_L_stable_J164 (c48 : Int → Hp → Option (Int × Hp)) (x1 : Int) (x2 : Int) (x5 : Int) (x6 : Int) (x7 : Int) (x9 : Int) (x11 : Int) (x12 : Int) (x13 : Int) (x14 : Int) (s0 : Int) (s1 : Int) (h : Hp) : Option (Int × Hp) :=
  if ¬ s0 = s1 then
    some (0, h)
  else
    if ¬ x7 = 1 then
      f_L_stable_J171 c48 x1 x2 x5 x6 x7 x9 x11 x12 x13 x14 0 h
    else
      f_L_stable_J171 c48 x1 x2 x5 x6 x7 x9 x11 x12 x13 x14 1 h
noncomputable def f_L_stable_J158 (c48 : Int → Hp → Option (Int × Hp)) (x1 : Int) (x2 : Int) (x5 : Int) (x6 : Int) (x7 : Int) (x9 : Int) (x11 : Int) (x12 : Int) (x13 : Int) (x14 : Int) (s0 : Int) (h : Hp) : Option (Int × Hp) :=
  if ¬ x9 = x6 then
    f_L_stable_J164 c48 x1 x2 x5 x6 x7 x9 x11 x12 x13 x14 s0 0 h
  else
    f_L_stable_J164 c48 x1 x2 x5 x6 x7 x9 x11 x12 x13 x14 s0 1 h
noncomputable def f_L_stable_J152 (c48 : Int → Hp → Option (Int × Hp)) (x1 : Int) (x2 : Int) (x5 : Int) (x6 : Int) (x7 : Int) (x9 : Int) (x11 : Int) (x12 : Int) (x13 : Int) (s0 : Int) (h : Hp) : Option (Int × Hp) :=
  if ¬ x7 = 0 then
    f_L_stable_J158 c48 x1 x2 x5 x6 x7 x9 x11 x12 x13 s0 0 h
  else
    f_L_stable_J158 c48 x1 x2 x5 x6 x7 x9 x11 x12 x13 s0 1 h
noncomputable def f_L_stable_J151 (c48 : Int → Hp → Option (Int × Hp)) (x1 : Int) (x2 : Int) (x5 : Int) (x6 : Int) (x7 : Int) (x9 : Int) (x11 : Int) (x12 : Int) (x13 : Int) (h : Hp) : Option (Int × Hp) :=
  f_L_stable_J152 c48 x1 x2 x5 x6 x7 x9 x11 x12 x13 0 h
noncomputable def f_L_stable_J149 (c48 : Int → Hp → Option (Int × Hp)) (x1 : Int) (x2 : Int) (x5 : Int) (x6 : Int) (x7 : Int) (x9 : Int) (x11 : Int) (x12 : Int) (x13 : Int) (h : Hp) : Option (Int × Hp) :=
  f_L_stable_J152 c48 x1 x2 x5 x6 x7 x9 x11 x12 x13 1 h
noncomputable def f_L_stable_J133 (c48 : Int → Hp → Option (Int × Hp)) (x1 : Int) (x2 : Int) (x5 : Int) (x6 : Int) (x7 : Int) (x8 : Int) (x9 : Int) (x10 : Int) (x11 : Int) (x12 : Int) (s0 : Int) (h : Hp) : Option (Int × Hp) :=
  if x10 < 0 then
    f_L_stable_J151 c48 x1 x2 x5 x6 x7 x9 x11 x12 s0 h
  else
    if inb x10 12 then
      if x8 < (h 77 (Int.toNat x10)) then
        f_L_stable_J149 c48 x1 x2 x5 x6 x7 x9 x11 x12 s0 h
      else
        if inb x10 12 then
          if ¬ (h 77 (Int.toNat x10)) = x8 then
            f_L_stable_J151 c48 x1 x2 x5 x6 x7 x9 x11 x12 s0 h
          else
            if x5 ≤ x10 then
              f_L_stable_J151 c48 x1 x2 x5 x6 x7 x9 x11 x12 s0 h
            else
              f_L_stable_J149 c48 x1 x2 x5 x6 x7 x9 x11 x12 s0 h
        else none
    else none
noncomputable def f_L_stable_J132 (c48 : Int → Hp → Option (Int × Hp)) (x1 : Int) (x2 : Int) (x5 : Int) (x6 : Int) (x7 : Int) (x8 : Int) (x9 : Int) (x10 : Int) (x11 : Int) (x12 : Int) (h : Hp) : Option (Int × Hp) :=
  f_L_stable_J133 c48 x1 x2 x5 x6 x7 x8 x9 x10 x11 x12 0 h
noncomputable def f_L_stable_J130 (c48 : Int → Hp → Option (Int × Hp)) (x1 : Int) (x2 : Int) (x5 : Int) (x6 : Int) (x7 : Int) (x8 : Int) (x9 : Int) (x10 : Int) (x11 : Int) (x12 : Int) (h : Hp) : Option (Int × Hp) :=
  f_L_stable_J133 c48 x1 x2 x5 x6 x7 x8 x9 x10 x11 x12 1 h
noncomputable def f_L_stable_J114 (c48 : Int → Hp → Option (Int × Hp)) (x1 : Int) (x2 : Int) (x5 : Int) (x6 : Int) (x7 : Int) (x8 : Int) (x9 : Int) (x10 : Int) (x11 : Int) (s0 : Int) (h : Hp) : Option (Int × Hp) :=
  if x9 < 0 then
    f_L_stable_J132 c48 x1 x2 x5 x6 x7 x8 x9 x10 x11 s0 h
  else
    if inb x5 12 then
      if x8 < (h 77 (Int.toNat x5)) then
        f_L_stable_J130 c48 x1 x2 x5 x6 x7 x8 x9 x10 x11 s0 h
      else
        if inb x5 12 then
          if ¬ (h 77 (Int.toNat x5)) = x8 then
            f_L_stable_J132 c48 x1 x2 x5 x6 x7 x8 x9 x10 x11 s0 h
          else
            if x6 ≤ x9 then
              f_L_stable_J132 c48 x1 x2 x5 x6 x7 x8 x9 x10 x11 s0 h
            else
              f_L_stable_J130 c48 x1 x2 x5 x6 x7 x8 x9 x10 x11 s0 h
        else none
    else none
noncomputable def f_L_stable_J113 (c48 : Int → Hp → Option (Int × Hp)) (x1 : Int) (x2 : Int) (x5 : Int) (x6 : Int) (x7 : Int) (x8 : Int) (x9 : Int) (x10 : Int) (x11 : Int) (h : Hp) : Option (Int × Hp) :=
  f_L_stable_J114 c48 x1 x2 x5 x6 x7 x8 x9 x10 x11 0 h
noncomputable def f_L_stable_L48 (x1 : Int) (x2 : Int) (x5 : Int) (c210 : Hp → Option (Int × Hp)) (n : Nat) : Int → Hp → Option (Int × Hp) :=
  Nat.rec (motive := fun _ => Int → Hp → Option (Int × Hp)) (fun _ _ => none) (fun _ rec x6 h =>
    if x2 ≤ x6 then
      c210 h
    else
      bd (f_X4_why x5 x6 h) fun r12 h12 =>
      bd (f_X4_points x5 x6 h12) fun r13 h13 =>
      lv (wr (r13 - 1000)) fun y14 =>
      if inb x5 12 then
        lv (h13 76 (Int.toNat x5)) fun y15 =>
        bd (f_X4_claimOf x6 5 h13) fun r16 h16 =>
        (f_L_stable_L76 x1 x2 x5 x6 r12 y14 y15 r16
          (fun y23 h24 =>
            bd (f_X4_count 20 h24) fun r25 h25 =>
            if r25 < y23 then
              f_L_stable_J113 rec x1 x2 x5 x6 r12 y14 y15 r16 y23 h25
            else
              bd (f_X4_count 23 h25) fun r27 h27 =>
              if y14 < r27 then
                f_L_stable_J113 rec x1 x2 x5 x6 r12 y14 y15 r16 y23 h27
              else
                f_L_stable_J114 rec x1 x2 x5 x6 r12 y14 y15 r16 y23 1 h27)
           fu 0 0 h16)
      else none) n
theorem f_L_stable_L48_s (x1 : Int) (x2 : Int) (x5 : Int) (c210 : Hp → Option (Int × Hp)) (n : Nat) (x6 : Int) (h : Hp) : f_L_stable_L48 x1 x2 x5 c210 (n + 1) x6 h =
    if x2 ≤ x6 then
      c210 h
    else
      bd (f_X4_why x5 x6 h) fun r12 h12 =>
      bd (f_X4_points x5 x6 h12) fun r13 h13 =>
      lv (wr (r13 - 1000)) fun y14 =>
      if inb x5 12 then
        lv (h13 76 (Int.toNat x5)) fun y15 =>
        bd (f_X4_claimOf x6 5 h13) fun r16 h16 =>
        (f_L_stable_L76 x1 x2 x5 x6 r12 y14 y15 r16
          (fun y23 h24 =>
            bd (f_X4_count 20 h24) fun r25 h25 =>
            if r25 < y23 then
              f_L_stable_J113 (f_L_stable_L48 x1 x2 x5 c210 n) x1 x2 x5 x6 r12 y14 y15 r16 y23 h25
            else
              bd (f_X4_count 23 h25) fun r27 h27 =>
              if y14 < r27 then
                f_L_stable_J113 (f_L_stable_L48 x1 x2 x5 c210 n) x1 x2 x5 x6 r12 y14 y15 r16 y23 h27
              else
                f_L_stable_J114 (f_L_stable_L48 x1 x2 x5 c210 n) x1 x2 x5 x6 r12 y14 y15 r16 y23 1 h27)
           fu 0 0 h16)
      else none := rfl
noncomputable def f_L_stable_L37 (x1 : Int) (x2 : Int) (n : Nat) : Int → Hp → Option (Int × Hp) :=
  Nat.rec (motive := fun _ => Int → Hp → Option (Int × Hp)) (fun _ _ => none) (fun _ rec x5 h =>
    if x1 ≤ x5 then
      some (1, h)
    else
      bd (f_X4_count 6 h) fun r10 h10 =>
      lv (wr ((wr (x5 + r10)) - Int.tdiv (wr (x5 + r10)) 2 * 2)) fun y11 =>
      (f_L_stable_L48 x1 x2 x5
        (fun h28 =>
          rec (wr (x5 + 1)) h28)
         fu y11 h10)) n
theorem f_L_stable_L37_s (x1 : Int) (x2 : Int) (n : Nat) (x5 : Int) (h : Hp) : f_L_stable_L37 x1 x2 (n + 1) x5 h =
    if x1 ≤ x5 then
      some (1, h)
    else
      bd (f_X4_count 6 h) fun r10 h10 =>
      lv (wr ((wr (x5 + r10)) - Int.tdiv (wr (x5 + r10)) 2 * 2)) fun y11 =>
      (f_L_stable_L48 x1 x2 x5
        (fun h28 =>
          f_L_stable_L37 x1 x2 n (wr (x5 + 1)) h28)
         fu y11 h10) := rfl
noncomputable def f_L_stable  (h : Hp) : Option (Int × Hp) :=
  bd (f_X4_count 1 h) fun r1 h1 =>
  bd (f_X4_count 2 h1) fun r2 h2 =>
  lt (hzr h2 76) fun h3 =>
  lt (hzr h3 77) fun h4 =>
  (f_L_stable_L16 r1 r2
    (fun h9 =>
      (f_L_stable_L37 r1 r2
         fu 0 h9))
     fu 0 h4)
noncomputable def f_L_hangs_L24 (x1 : Int) (x2 : Int) (x3 : Int) (x4 : Int) (x5 : Int) (x7 : Int) (c41 : Int → Hp → Option (Int × Hp)) (n : Nat) : Int → Int → Hp → Option (Int × Hp) :=
  Nat.rec (motive := fun _ => Int → Int → Hp → Option (Int × Hp)) (fun _ _ _ => none) (fun _ rec x6 x8 h =>
    if 4 ≤ x8 then
      c41 x6 h
    else
      bd (f_X4_umbrella x5 x8 h) fun r3 h3 =>
      bd (f_X4_having x8 r3 h3) fun r4 h4 =>
      lv (wr (x6 + (wr (13 - r4)))) fun y5 =>
      rec y5 (wr (x8 + 1)) h4) n
theorem f_L_hangs_L24_s (x1 : Int) (x2 : Int) (x3 : Int) (x4 : Int) (x5 : Int) (x7 : Int) (c41 : Int → Hp → Option (Int × Hp)) (n : Nat) (x6 : Int) (x8 : Int) (h : Hp) : f_L_hangs_L24 x1 x2 x3 x4 x5 x7 c41 (n + 1) x6 x8 h =
    if 4 ≤ x8 then
      c41 x6 h
    else
      bd (f_X4_umbrella x5 x8 h) fun r3 h3 =>
      bd (f_X4_having x8 r3 h3) fun r4 h4 =>
      lv (wr (x6 + (wr (13 - r4)))) fun y5 =>
      f_L_hangs_L24 x1 x2 x3 x4 x5 x7 c41 n y5 (wr (x8 + 1)) h4 := rfl
noncomputable def f_L_hangs_J112 (c10 : Int → Int → Int → Int → Int → Hp → Option (Int × Hp)) (x1 : Int) (x2 : Int) (x3 : Int) (x4 : Int) (x5 : Int) (x7 : Int) (h : Hp) : Option (Int × Hp) :=
  if 0 ≤ x7 then
    c10 x1 x2 x3 x4 (wr (x5 + 1)) h
  else
    bd (f_X4_umbrella x5 6 h) fun r13 h13 =>
    if r13 = x7 then
      c10 x1 x2 x3 x4 (wr (x5 + 1)) h13
    else
      some (0, h13)
noncomputable def f_L_hangs_J65 (c10 : Int → Int → Int → Int → Int → Hp → Option (Int × Hp)) (x2 : Int) (x3 : Int) (x4 : Int) (x5 : Int) (x6 : Int) (x7 : Int) (s0 : Int) (s1 : Int) (h : Hp) : Option (Int × Hp) :=
  lv (wr (s0 + s1)) fun y9 =>
  bd (f_X4_umbrella x5 7 h) fun r10 h10 =>
  lv (wr (x3 + r10)) fun y11 =>
  bd (f_X4_umbrella x5 8 h10) fun r12 h12 =>
  if ¬ r12 = x6 then
    some (0, h12)
  else
    if x7 < 0 then
      f_L_hangs_J112 c10 y9 x2 y11 x4 x5 x7 h12
    else
      bd (f_X4_claimOf x7 5 h12) fun r14 h14 =>
      if ¬ r14 = x5 then
        some (0, h14)
      else
        bd (f_X4_points x5 x7 h14) fun r15 h15 =>
        bd (f_X4_umbrella x5 6 h15) fun r16 h16 =>
        if ¬ r15 = (wr (1000 + r16)) then
          some (0, h16)
        else
          bd (f_X4_umbrella x5 6 h16) fun r17 h17 =>
          bd (f_X4_count 23 h17) fun r18 h18 =>
          if r17 < r18 then
            some (0, h18)
          else
            bd (f_X4_why x5 x7 h18) fun r19 h19 =>
            if ¬ r19 = 0 then
              some (0, h19)
            else
              f_L_hangs_J112 c10 y9 x2 y11 x4 x5 x7 h19
noncomputable def f_L_hangs_J54 (c10 : Int → Int → Int → Int → Int → Hp → Option (Int × Hp)) (x1 : Int) (x3 : Int) (x4 : Int) (x5 : Int) (x6 : Int) (x7 : Int) (s0 : Int) (s1 : Int) (h : Hp) : Option (Int × Hp) :=
  lv (wr (s0 + s1)) fun y8 =>
  if x7 < 0 then
    f_L_hangs_J65 c10 y8 x3 x4 x5 x6 x7 x1 0 h
  else
    bd (f_X4_umbrella x5 6 h) fun r20 h20 =>
    f_L_hangs_J65 c10 y8 x3 x4 x5 x6 x7 x1 r20 h20
noncomputable def f_L_hangs_J47 (c10 : Int → Int → Int → Int → Int → Hp → Option (Int × Hp)) (x1 : Int) (x2 : Int) (x3 : Int) (x5 : Int) (x6 : Int) (x7 : Int) (s0 : Int) (h : Hp) : Option (Int × Hp) :=
  if x7 < 0 then
    f_L_hangs_J54 c10 x1 x3 s0 x5 x6 x7 x2 0 h
  else
    f_L_hangs_J54 c10 x1 x3 s0 x5 x6 x7 x2 1 h
noncomputable def f_L_hangs_L10 (c124 : Int → Int → Int → Int → Hp → Option (Int × Hp)) (n : Nat) : Int → Int → Int → Int → Int → Hp → Option (Int × Hp) :=
  Nat.rec (motive := fun _ => Int → Int → Int → Int → Int → Hp → Option (Int × Hp)) (fun _ _ _ _ _ _ => none) (fun _ rec x1 x2 x3 x4 x5 h =>
    bd (f_X4_count 1 h) fun r1 h1 =>
    if r1 ≤ x5 then
      c124 x1 x2 x3 x4 h1
    else
      bd (f_X4_umbrella x5 5 h1) fun r2 h2 =>
      (f_L_hangs_L24 x1 x2 x3 x4 x5 r2
        (fun y6 h7 =>
          if y6 ≤ x4 then
            f_L_hangs_J47 rec x1 x2 x3 x5 y6 r2 x4 h7
          else
            f_L_hangs_J47 rec x1 x2 x3 x5 y6 r2 y6 h7)
         fu 0 0 h2)) n
theorem f_L_hangs_L10_s (c124 : Int → Int → Int → Int → Hp → Option (Int × Hp)) (n : Nat) (x1 : Int) (x2 : Int) (x3 : Int) (x4 : Int) (x5 : Int) (h : Hp) : f_L_hangs_L10 c124 (n + 1) x1 x2 x3 x4 x5 h =
    bd (f_X4_count 1 h) fun r1 h1 =>
    if r1 ≤ x5 then
      c124 x1 x2 x3 x4 h1
    else
      bd (f_X4_umbrella x5 5 h1) fun r2 h2 =>
      (f_L_hangs_L24 x1 x2 x3 x4 x5 r2
        (fun y6 h7 =>
          if y6 ≤ x4 then
            f_L_hangs_J47 (f_L_hangs_L10 c124 n) x1 x2 x3 x5 y6 r2 x4 h7
          else
            f_L_hangs_J47 (f_L_hangs_L10 c124 n) x1 x2 x3 x5 y6 r2 y6 h7)
         fu 0 0 h2) := rfl
noncomputable def f_L_hangs_J159 (c126 : Int → Int → Int → Hp → Option (Int × Hp)) (x1 : Int) (x2 : Int) (x3 : Int) (x4 : Int) (x5 : Int) (h : Hp) : Option (Int × Hp) :=
  bd (f_X4_claimOf x5 7 h) fun r31 h31 =>
  if 0 ≤ r31 then
    c126 x2 x3 (wr (x5 + 1)) h31
  else
    some (0, h31)
noncomputable def f_L_hangs_J149 (c126 : Int → Int → Int → Hp → Option (Int × Hp)) (x1 : Int) (x3 : Int) (x4 : Int) (x5 : Int) (x6 : Int) (s0 : Int) (s1 : Int) (h : Hp) : Option (Int × Hp) :=
  lv (wr (s0 - s1)) fun y30 =>
  if x6 < 0 then
    f_L_hangs_J159 c126 x1 y30 x3 x4 x5 h
  else
    bd (f_X4_umbrella x6 5 h) fun r32 h32 =>
    if ¬ r32 = x5 then
      some (0, h32)
    else
      f_L_hangs_J159 c126 x1 y30 x3 x4 x5 h32
noncomputable def f_L_hangs_L126 (x1 : Int) (x4 : Int) (c168 : Int → Int → Hp → Option (Int × Hp)) (n : Nat) : Int → Int → Int → Hp → Option (Int × Hp) :=
  Nat.rec (motive := fun _ => Int → Int → Int → Hp → Option (Int × Hp)) (fun _ _ _ _ => none) (fun _ rec x2 x3 x5 h =>
    bd (f_X4_count 2 h) fun r26 h26 =>
    if r26 ≤ x5 then
      c168 x2 x3 h26
    else
      bd (f_X4_claimOf x5 5 h26) fun r27 h27 =>
      bd (f_X4_claimOf x5 6 h27) fun r28 h28 =>
      lv (wr (x3 - r28)) fun y29 =>
      if r27 < 0 then
        f_L_hangs_J149 rec x1 y29 x4 x5 r27 x2 0 h28
      else
        f_L_hangs_J149 rec x1 y29 x4 x5 r27 x2 1 h28) n
theorem f_L_hangs_L126_s (x1 : Int) (x4 : Int) (c168 : Int → Int → Hp → Option (Int × Hp)) (n : Nat) (x2 : Int) (x3 : Int) (x5 : Int) (h : Hp) : f_L_hangs_L126 x1 x4 c168 (n + 1) x2 x3 x5 h =
    bd (f_X4_count 2 h) fun r26 h26 =>
    if r26 ≤ x5 then
      c168 x2 x3 h26
    else
      bd (f_X4_claimOf x5 5 h26) fun r27 h27 =>
      bd (f_X4_claimOf x5 6 h27) fun r28 h28 =>
      lv (wr (x3 - r28)) fun y29 =>
      if r27 < 0 then
        f_L_hangs_J149 (f_L_hangs_L126 x1 x4 c168 n) x1 y29 x4 x5 r27 x2 0 h28
      else
        f_L_hangs_J149 (f_L_hangs_L126 x1 x4 c168 n) x1 y29 x4 x5 r27 x2 1 h28 := rfl
noncomputable def f_L_hangs_L177 (x1 : Int) (x2 : Int) (x3 : Int) (x4 : Int) (x5 : Int) (c189 : Int → Hp → Option (Int × Hp)) (n : Nat) : Int → Int → Hp → Option (Int × Hp) :=
  Nat.rec (motive := fun _ => Int → Int → Hp → Option (Int × Hp)) (fun _ _ _ => none) (fun _ rec x6 x7 h =>
    if 10 ≤ x7 then
      c189 x6 h
    else
      bd (f_X4_having x5 x7 h) fun r36 h36 =>
      lv (wr (x6 + r36)) fun y37 =>
      rec y37 (wr (x7 + 1)) h36) n
theorem f_L_hangs_L177_s (x1 : Int) (x2 : Int) (x3 : Int) (x4 : Int) (x5 : Int) (c189 : Int → Hp → Option (Int × Hp)) (n : Nat) (x6 : Int) (x7 : Int) (h : Hp) : f_L_hangs_L177 x1 x2 x3 x4 x5 c189 (n + 1) x6 x7 h =
    if 10 ≤ x7 then
      c189 x6 h
    else
      bd (f_X4_having x5 x7 h) fun r36 h36 =>
      lv (wr (x6 + r36)) fun y37 =>
      f_L_hangs_L177 x1 x2 x3 x4 x5 c189 n y37 (wr (x7 + 1)) h36 := rfl
noncomputable def f_L_hangs_L170 (x1 : Int) (x2 : Int) (x3 : Int) (x4 : Int) (c198 : Hp → Option (Int × Hp)) (n : Nat) : Int → Hp → Option (Int × Hp) :=
  Nat.rec (motive := fun _ => Int → Hp → Option (Int × Hp)) (fun _ _ => none) (fun _ rec x5 h =>
    if 4 ≤ x5 then
      c198 h
    else
      (f_L_hangs_L177 x1 x2 x3 x4 x5
        (fun y38 h39 =>
          bd (f_X4_count 1 h39) fun r40 h40 =>
          if y38 = r40 then
            rec (wr (x5 + 1)) h40
          else
            some (0, h40))
         fu 0 0 h)) n
theorem f_L_hangs_L170_s (x1 : Int) (x2 : Int) (x3 : Int) (x4 : Int) (c198 : Hp → Option (Int × Hp)) (n : Nat) (x5 : Int) (h : Hp) : f_L_hangs_L170 x1 x2 x3 x4 c198 (n + 1) x5 h =
    if 4 ≤ x5 then
      c198 h
    else
      (f_L_hangs_L177 x1 x2 x3 x4 x5
        (fun y38 h39 =>
          bd (f_X4_count 1 h39) fun r40 h40 =>
          if y38 = r40 then
            f_L_hangs_L170 x1 x2 x3 x4 c198 n (wr (x5 + 1)) h40
          else
            some (0, h40))
         fu 0 0 h) := rfl
noncomputable def f_L_hangs_J306 (s0 : Int) (s1 : Int) (h : Hp) : Option (Int × Hp) :=
  if ¬ s0 = s1 then
    some (0, h)
  else
    bd (f_L_stable  h) fun r56 h56 =>
    if r56 = 0 then
      some (0, h56)
    else
      some (1, h56)
noncomputable def f_L_hangs_J240 (s0 : Int) (h : Hp) : Option (Int × Hp) :=
  if s0 = 0 then
    some (0, h)
  else
    bd (f_X4_count 5 h) fun r43 h43 =>
    bd (f_X4_count 1 h43) fun r44 h44 =>
    bd (f_X4_count 7 h44) fun r45 h45 =>
    bd (f_X4_count 8 h45) fun r46 h46 =>
    if ¬ r43 = (wr ((wr (r44 + r45)) + r46)) then
      some (0, h46)
    else
      bd (f_X4_count 6 h46) fun r47 h47 =>
      bd (f_X4_count 2 h47) fun r48 h48 =>
      bd (f_X4_count 7 h48) fun r49 h49 =>
      bd (f_X4_count 9 h49) fun r50 h50 =>
      bd (f_X4_count 11 h50) fun r51 h51 =>
      if ¬ r47 = (wr ((wr ((wr (r48 + r49)) + r50)) + r51)) then
        some (0, h51)
      else
        bd (f_X4_count 12 h51) fun r52 h52 =>
        bd (f_X4_count 7 h52) fun r53 h53 =>
        bd (f_X4_count 8 h53) fun r54 h54 =>
        bd (f_X4_count 9 h54) fun r55 h55 =>
        if 10 ≤ (wr ((wr (r53 + r54)) + r55)) then
          f_L_hangs_J306 r52 10 h55
        else
          bd (f_X4_count 7 h55) fun r57 h57 =>
          bd (f_X4_count 8 h57) fun r58 h58 =>
          bd (f_X4_count 9 h58) fun r59 h59 =>
          f_L_hangs_J306 r52 (wr ((wr (r57 + r58)) + r59)) h59
noncomputable def f_L_hangs_J239  (h : Hp) : Option (Int × Hp) :=
  f_L_hangs_J240 0 h
noncomputable def f_L_hangs_J237  (h : Hp) : Option (Int × Hp) :=
  f_L_hangs_J240 1 h
noncomputable def f_L_hangs_J220 (x4 : Int) (s0 : Int) (s1 : Int) (h : Hp) : Option (Int × Hp) :=
  if ¬ s0 = s1 then
    f_L_hangs_J239  h
  else
    bd (f_X4_count 1 h) fun r63 h63 =>
    if ¬ r63 = 0 then
      bd (f_X4_oddest  h63) fun r64 h64 =>
      bd (f_X4_umbrella r64 8 h64) fun r65 h65 =>
      if ¬ r65 = x4 then
        f_L_hangs_J239  h65
      else
        f_L_hangs_J237  h65
    else
      bd (f_X4_oddest  h63) fun r66 h66 =>
      if ¬ r66 = (-1000004) then
        f_L_hangs_J239  h66
      else
        f_L_hangs_J237  h66
noncomputable def f_L_hangs  (h : Hp) : Option (Int × Hp) :=
  (f_L_hangs_L10 
    (fun y21 y22 y23 y24 h25 =>
      (f_L_hangs_L126 y21 y24
        (fun y33 y34 h35 =>
          (f_L_hangs_L170 y21 y33 y34 y24
            (fun h41 =>
              bd (f_X4_count 3 h41) fun r42 h42 =>
              if ¬ y33 = 0 then
                f_L_hangs_J239  h42
              else
                if ¬ y34 = 0 then
                  f_L_hangs_J239  h42
                else
                  bd (f_X4_count 4 h42) fun r60 h60 =>
                  if ¬ r42 = r60 then
                    f_L_hangs_J239  h60
                  else
                    bd (f_X4_mean  h60) fun r61 h61 =>
                    if ¬ r42 = 0 then
                      bd (f_L_quotient y21 r42 h61) fun r62 h62 =>
                      f_L_hangs_J220 y24 r61 r62 h62
                    else
                      f_L_hangs_J220 y24 r61 (-1000004) h61)
             fu 0 h35))
         fu y22 y23 0 h25))
     fu 0 0 0 (-1) 0 h)
noncomputable def f_L_print_L4 (c26 : Int64 → Hp → Option (Int × Hp)) (n : Nat) : Int64 → Int → Hp → Option (Int × Hp) :=
  Nat.rec (motive := fun _ => Int64 → Int → Hp → Option (Int × Hp)) (fun _ _ _ => none) (fun _ rec x1 x3 h =>
    if 27 ≤ x3 then
      c26 x1 h
    else
      if x3 = 13 then
        ll ((31 * x1) + (Int64.ofInt 0)) fun y2 =>
        rec y2 (wr (x3 + 1)) h
      else
        if ¬ x3 = 14 then
          bd (f_X4_count x3 h) fun r3 h3 =>
          ll ((31 * x1) + (Int64.ofInt r3)) fun y4 =>
          rec y4 (wr (x3 + 1)) h3
        else
          ll ((31 * x1) + (Int64.ofInt 0)) fun y5 =>
          rec y5 (wr (x3 + 1)) h) n
theorem f_L_print_L4_s (c26 : Int64 → Hp → Option (Int × Hp)) (n : Nat) (x1 : Int64) (x3 : Int) (h : Hp) : f_L_print_L4 c26 (n + 1) x1 x3 h =
    if 27 ≤ x3 then
      c26 x1 h
    else
      if x3 = 13 then
        ll ((31 * x1) + (Int64.ofInt 0)) fun y2 =>
        f_L_print_L4 c26 n y2 (wr (x3 + 1)) h
      else
        if ¬ x3 = 14 then
          bd (f_X4_count x3 h) fun r3 h3 =>
          ll ((31 * x1) + (Int64.ofInt r3)) fun y4 =>
          f_L_print_L4 c26 n y4 (wr (x3 + 1)) h3
        else
          ll ((31 * x1) + (Int64.ofInt 0)) fun y5 =>
          f_L_print_L4 c26 n y5 (wr (x3 + 1)) h := rfl
noncomputable def f_L_print_L28 (c51 : Int64 → Hp → Option (Int × Hp)) (n : Nat) : Int64 → Int → Hp → Option (Int × Hp) :=
  Nat.rec (motive := fun _ => Int64 → Int → Hp → Option (Int × Hp)) (fun _ _ _ => none) (fun _ rec x1 x3 h =>
    bd (f_X4_count 1 h) fun r8 h8 =>
    if (wr (5 * r8)) ≤ x3 then
      c51 x1 h8
    else
      bd (f_X4_umbrella (wr (Int.tdiv x3 5)) (wr (x3 - Int.tdiv x3 5 * 5)) h8) fun r9 h9 =>
      ll ((31 * x1) + (Int64.ofInt r9)) fun y10 =>
      rec y10 (wr (x3 + 1)) h9) n
theorem f_L_print_L28_s (c51 : Int64 → Hp → Option (Int × Hp)) (n : Nat) (x1 : Int64) (x3 : Int) (h : Hp) : f_L_print_L28 c51 (n + 1) x1 x3 h =
    bd (f_X4_count 1 h) fun r8 h8 =>
    if (wr (5 * r8)) ≤ x3 then
      c51 x1 h8
    else
      bd (f_X4_umbrella (wr (Int.tdiv x3 5)) (wr (x3 - Int.tdiv x3 5 * 5)) h8) fun r9 h9 =>
      ll ((31 * x1) + (Int64.ofInt r9)) fun y10 =>
      f_L_print_L28 c51 n y10 (wr (x3 + 1)) h9 := rfl
noncomputable def f_L_print_L53 (c86 : Int64 → Hp → Option (Int × Hp)) (n : Nat) : Int64 → Int → Hp → Option (Int × Hp) :=
  Nat.rec (motive := fun _ => Int64 → Int → Hp → Option (Int × Hp)) (fun _ _ _ => none) (fun _ rec x1 x3 h =>
    bd (f_X4_count 2 h) fun r13 h13 =>
    if (wr (5 * r13)) ≤ x3 then
      c86 x1 h13
    else
      bd (f_X4_claimOf (wr (Int.tdiv x3 5)) (wr (x3 - Int.tdiv x3 5 * 5)) h13) fun r14 h14 =>
      bd (f_X4_claimOf (wr (Int.tdiv x3 5)) 7 h14) fun r15 h15 =>
      ll (((31 * x1) + (Int64.ofInt r14)) + (7 * (Int64.ofInt r15))) fun y16 =>
      rec y16 (wr (x3 + 1)) h15) n
theorem f_L_print_L53_s (c86 : Int64 → Hp → Option (Int × Hp)) (n : Nat) (x1 : Int64) (x3 : Int) (h : Hp) : f_L_print_L53 c86 (n + 1) x1 x3 h =
    bd (f_X4_count 2 h) fun r13 h13 =>
    if (wr (5 * r13)) ≤ x3 then
      c86 x1 h13
    else
      bd (f_X4_claimOf (wr (Int.tdiv x3 5)) (wr (x3 - Int.tdiv x3 5 * 5)) h13) fun r14 h14 =>
      bd (f_X4_claimOf (wr (Int.tdiv x3 5)) 7 h14) fun r15 h15 =>
      ll (((31 * x1) + (Int64.ofInt r14)) + (7 * (Int64.ofInt r15))) fun y16 =>
      f_L_print_L53 c86 n y16 (wr (x3 + 1)) h15 := rfl
noncomputable def f_L_print_L88  (n : Nat) : Int64 → Int → Hp → Option (Int × Hp) :=
  Nat.rec (motive := fun _ => Int64 → Int → Hp → Option (Int × Hp)) (fun _ _ _ => none) (fun _ rec x1 x3 h =>
    bd (f_X4_count 12 h) fun r19 h19 =>
    if (wr (4 * r19)) ≤ x3 then
      some (Int64.toInt x1, h19)
    else
      bd (f_X4_book (wr (Int.tdiv x3 4)) (wr (x3 - Int.tdiv x3 4 * 4)) h19) fun r20 h20 =>
      ll ((31 * x1) + (Int64.ofInt r20)) fun y21 =>
      rec y21 (wr (x3 + 1)) h20) n
theorem f_L_print_L88_s  (n : Nat) (x1 : Int64) (x3 : Int) (h : Hp) : f_L_print_L88  (n + 1) x1 x3 h =
    bd (f_X4_count 12 h) fun r19 h19 =>
    if (wr (4 * r19)) ≤ x3 then
      some (Int64.toInt x1, h19)
    else
      bd (f_X4_book (wr (Int.tdiv x3 4)) (wr (x3 - Int.tdiv x3 4 * 4)) h19) fun r20 h20 =>
      ll ((31 * x1) + (Int64.ofInt r20)) fun y21 =>
      f_L_print_L88  n y21 (wr (x3 + 1)) h20 := rfl
noncomputable def f_L_print  (h : Hp) : Option (Int × Hp) :=
  ll 29 fun y1 =>
  (f_L_print_L4 
    (fun y6 h7 =>
      (f_L_print_L28 
        (fun y11 h12 =>
          (f_L_print_L53 
            (fun y17 h18 =>
              (f_L_print_L88 
                 fu y17 0 h18))
             fu y11 0 h12))
         fu y6 0 h7))
     fu y1 0 h)
noncomputable def f_L_hands_L12 (x2 : Int) (x3 : Int) (c37 : Int → Hp → Option (Int × Hp)) (n : Nat) : Int → Int → Hp → Option (Int × Hp) :=
  Nat.rec (motive := fun _ => Int → Int → Hp → Option (Int × Hp)) (fun _ _ _ => none) (fun _ rec x1 x4 h =>
    bd (f_X4_count 1 h) fun r3 h3 =>
    if r3 ≤ x4 then
      c37 x1 h3
    else
      bd (f_X4_umbrella x4 5 h3) fun r4 h4 =>
      if r4 < 0 then
        lv (wr (x1 + 0)) fun y5 =>
        rec y5 (wr (x4 + 1)) h4
      else
        bd (f_X4_umbrella x4 4 h4) fun r6 h6 =>
        bd (f_X4_count 24 h6) fun r7 h7 =>
        lv (wr (x1 + (wr (r6 * r7)))) fun y8 =>
        rec y8 (wr (x4 + 1)) h7) n
theorem f_L_hands_L12_s (x2 : Int) (x3 : Int) (c37 : Int → Hp → Option (Int × Hp)) (n : Nat) (x1 : Int) (x4 : Int) (h : Hp) : f_L_hands_L12 x2 x3 c37 (n + 1) x1 x4 h =
    bd (f_X4_count 1 h) fun r3 h3 =>
    if r3 ≤ x4 then
      c37 x1 h3
    else
      bd (f_X4_umbrella x4 5 h3) fun r4 h4 =>
      if r4 < 0 then
        lv (wr (x1 + 0)) fun y5 =>
        f_L_hands_L12 x2 x3 c37 n y5 (wr (x4 + 1)) h4
      else
        bd (f_X4_umbrella x4 4 h4) fun r6 h6 =>
        bd (f_X4_count 24 h6) fun r7 h7 =>
        lv (wr (x1 + (wr (r6 * r7)))) fun y8 =>
        f_L_hands_L12 x2 x3 c37 n y8 (wr (x4 + 1)) h7 := rfl
noncomputable def f_L_hands_J105 (x7 : Int64) (s0 : Int) (h : Hp) : Option (Int × Hp) :=
  if s0 = 0 then
    some (0, h)
  else
    bd (f_X4_undo  h) fun r17 h17 =>
    if r17 < 0 then
      some (0, h17)
    else
      bd (f_L_print  h17) fun r18 h18 =>
      if ¬ (lg_cmp (Int64.ofInt r18) x7).toInt = 0 then
        some (0, h18)
      else
        some (1, h18)
noncomputable def f_L_hands_J104 (x7 : Int64) (h : Hp) : Option (Int × Hp) :=
  f_L_hands_J105 x7 0 h
noncomputable def f_L_hands_J99 (x7 : Int64) (h : Hp) : Option (Int × Hp) :=
  bd (f_L_hangs  h) fun r23 h23 =>
  if r23 = 0 then
    f_L_hands_J104 x7 h23
  else
    f_L_hands_J105 x7 1 h23
noncomputable def f_L_hands  (h : Hp) : Option (Int × Hp) :=
  bd (f_X4_count 3 h) fun r1 h1 =>
  bd (f_X4_count 7 h1) fun r2 h2 =>
  (f_L_hands_L12 r1 r2
    (fun y9 h10 =>
      bd (f_X4_count 10 h10) fun r11 h11 =>
      bd (f_X4_count 1 h11) fun r12 h12 =>
      bd (f_X4_count 2 h12) fun r13 h13 =>
      bd (f_L_print  h13) fun r14 h14 =>
      ll (Int64.ofInt r14) fun y15 =>
      bd (f_X4_hand  h14) fun r16 h16 =>
      if ¬ r16 = r1 then
        f_L_hands_J104 y15 h16
      else
        bd (f_X4_count 7 h16) fun r19 h19 =>
        if ¬ r19 = (wr (r2 + r1)) then
          f_L_hands_J104 y15 h19
        else
          bd (f_X4_count 10 h19) fun r20 h20 =>
          if ¬ r20 = (wr (r11 + y9)) then
            f_L_hands_J104 y15 h20
          else
            bd (f_X4_count 1 h20) fun r21 h21 =>
            if ¬ r21 = (wr (r12 - r1)) then
              f_L_hands_J104 y15 h21
            else
              bd (f_X4_count 2 h21) fun r22 h22 =>
              if ¬ r22 = (wr (r13 - r1)) then
                f_L_hands_J104 y15 h22
              else
                if r1 = 0 then
                  f_L_hands_J99 y15 h22
                else
                  bd (f_X4_book 0 1 h22) fun r24 h24 =>
                  if ¬ r24 = 0 then
                    f_L_hands_J104 y15 h24
                  else
                    bd (f_X4_book 0 0 h24) fun r25 h25 =>
                    bd (f_X4_count 0 h25) fun r26 h26 =>
                    if ¬ r25 = r26 then
                      f_L_hands_J104 y15 h26
                    else
                      f_L_hands_J99 y15 h26)
     fu 0 0 h2)
noncomputable def f_L_tells_J74 (x5 : Int64) (s0 : Int) (h : Hp) : Option (Int × Hp) :=
  if s0 = 0 then
    some (0, h)
  else
    bd (f_X4_undo  h) fun r8 h8 =>
    if r8 < 0 then
      some (0, h8)
    else
      bd (f_L_print  h8) fun r9 h9 =>
      if ¬ (lg_cmp (Int64.ofInt r9) x5).toInt = 0 then
        some (0, h9)
      else
        some (1, h9)
noncomputable def f_L_tells_J73 (x5 : Int64) (h : Hp) : Option (Int × Hp) :=
  f_L_tells_J74 x5 0 h
noncomputable def f_L_tells_J57 (x1 : Int) (x2 : Int) (x3 : Int) (x4 : Int) (x5 : Int64) (s0 : Int) (s1 : Int) (s2 : Int) (h : Hp) : Option (Int × Hp) :=
  if ¬ s0 = (wr (s1 + s2)) then
    f_L_tells_J73 x5 h
  else
    bd (f_X4_claimOf x1 x2 h) fun r10 h10 =>
    if ¬ r10 = x3 then
      f_L_tells_J73 x5 h10
    else
      bd (f_X4_claimOf x1 5 h10) fun r11 h11 =>
      if ¬ r11 = x4 then
        f_L_tells_J73 x5 h11
      else
        f_L_tells_J74 x5 1 h11
noncomputable def f_L_tells_J56 (x1 : Int) (x2 : Int) (x3 : Int) (x4 : Int) (x5 : Int64) (s0 : Int) (s1 : Int) (h : Hp) : Option (Int × Hp) :=
  f_L_tells_J57 x1 x2 x3 x4 x5 s0 s1 0 h
noncomputable def f_L_tells (x1 : Int) (x2 : Int) (x3 : Int) (h : Hp) : Option (Int × Hp) :=
  bd (f_X4_ifTold x1 x2 x3 h) fun r1 h1 =>
  bd (f_L_print  h1) fun r2 h2 =>
  ll (Int64.ofInt r2) fun y3 =>
  bd (f_X4_count 2 h2) fun r4 h4 =>
  if x1 < r4 then
    bd (f_X4_claimOf x1 7 h4) fun r5 h5 =>
    bd (f_X4_claimOf x1 x2 h5) fun r6 h6 =>
    bd (f_X4_tell x1 x2 x3 h6) fun r7 h7 =>
    if r6 < 0 then
      f_L_tells_J56 x1 x2 x3 r1 y3 r7 r5 h7
    else
      if r6 = x3 then
        f_L_tells_J56 x1 x2 x3 r1 y3 r7 r5 h7
      else
        f_L_tells_J57 x1 x2 x3 r1 y3 r7 r5 1 h7
  else
    if ¬ r1 = (-1000001) then
      some (0, h4)
    else
      bd (f_X4_tell x1 x2 x3 h4) fun r12 h12 =>
      if ¬ r12 = r1 then
        some (0, h12)
      else
        bd (f_L_print  h12) fun r13 h13 =>
        if ¬ (lg_cmp (Int64.ofInt r13) y3).toInt = 0 then
          some (0, h13)
        else
          some (1, h13)
noncomputable def f_L_weeks_J103 (x9 : Int64) (s0 : Int) (h : Hp) : Option (Int × Hp) :=
  if s0 = 0 then
    some (0, h)
  else
    bd (f_X4_undo  h) fun r11 h11 =>
    if r11 < 0 then
      some (0, h11)
    else
      bd (f_L_print  h11) fun r12 h12 =>
      if ¬ (lg_cmp (Int64.ofInt r12) x9).toInt = 0 then
        some (0, h12)
      else
        some (1, h12)
noncomputable def f_L_weeks_J102 (x9 : Int64) (h : Hp) : Option (Int × Hp) :=
  f_L_weeks_J103 x9 0 h
noncomputable def f_L_weeks (x1 : Int) (h : Hp) : Option (Int × Hp) :=
  bd (f_X4_ifWeeks x1 0 h) fun r1 h1 =>
  bd (f_X4_ifWeeks x1 1 h1) fun r2 h2 =>
  bd (f_X4_ifWeeks x1 2 h2) fun r3 h3 =>
  bd (f_X4_count 8 h3) fun r4 h4 =>
  bd (f_X4_count 9 h4) fun r5 h5 =>
  bd (f_X4_count 10 h5) fun r6 h6 =>
  bd (f_X4_count 0 h6) fun r7 h7 =>
  bd (f_L_print  h7) fun r8 h8 =>
  ll (Int64.ofInt r8) fun y9 =>
  bd (f_X4_weeks x1 h8) fun r10 h10 =>
  if 0 ≤ r10 then
    if ¬ r10 = r1 then
      f_L_weeks_J102 y9 h10
    else
      bd (f_X4_count 8 h10) fun r13 h13 =>
      if ¬ r13 = (wr (r4 + r1)) then
        f_L_weeks_J102 y9 h13
      else
        bd (f_X4_count 9 h13) fun r14 h14 =>
        if ¬ r14 = (wr (r5 + r2)) then
          f_L_weeks_J102 y9 h14
        else
          bd (f_X4_count 3 h14) fun r15 h15 =>
          if ¬ r15 = r3 then
            f_L_weeks_J102 y9 h15
          else
            bd (f_X4_count 10 h15) fun r16 h16 =>
            bd (f_X4_count 26 h16) fun r17 h17 =>
            if ¬ r16 = (wr (r6 + (wr (r1 * r17)))) then
              f_L_weeks_J102 y9 h17
            else
              bd (f_X4_count 0 h17) fun r18 h18 =>
              if ¬ r18 = (wr (r7 + x1)) then
                f_L_weeks_J102 y9 h18
              else
                bd (f_L_hangs  h18) fun r19 h19 =>
                if r19 = 0 then
                  f_L_weeks_J102 y9 h19
                else
                  f_L_weeks_J103 y9 1 h19
  else
    if ¬ r10 = (-1000003) then
      some (0, h10)
    else
      if (wr (r7 + x1)) ≤ 999 then
        some (0, h10)
      else
        bd (f_L_print  h10) fun r20 h20 =>
        if ¬ (lg_cmp (Int64.ofInt r20) y9).toInt = 0 then
          some (0, h20)
        else
          some (1, h20)

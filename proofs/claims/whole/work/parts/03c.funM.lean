def g_X11_plain_2 (v1 : Int32) (k24 : z_I → Option (z_I)) : Nat → Int32 → z_I → Option (z_I)
  | 0, _, _ => none
  | n + 1, v2, I =>
    if (428 : Int32) ≤ v2 then
      k24 I
    else
      if zin (v1 + v2) 2200 = true then
        z_lt (z2 I 1 ((v1 + v2)).toNatClampNeg (0 : Int32)) fun I2 =>
        g_X11_plain_2 v1 k24 n (v2 + (1 : Int32)) I2
      else none
def f_X11_plain (I : z_I) (p0 : Int32) : Option (z_I) :=
  g_X11_plain_2 p0
    (fun I_3 =>
      if zin (p0 + (4 : Int32)) 2200 = true then
        z_lt (z2 I_3 1 ((p0 + (4 : Int32))).toNatClampNeg (8 : Int32)) fun I5 =>
        if zin (p0 + (7 : Int32)) 2200 = true then
          z_lt (z2 I5 1 ((p0 + (7 : Int32))).toNatClampNeg (-1 : Int32)) fun I7 =>
          some I7
        else none
      else none) z_fuel (0 : Int32) I
def f_X11_status (I : z_I)  : Int32 :=
  (I 0 2)
def f_X11_top (L : z_L)  : Int64 :=
  (L 0 3)
def f_X11_bottom (L : z_L)  : Int64 :=
  (L 0 4)
def f_X11_is (I : z_I) (p0 : Int32) : Bool × z_I :=
  z_lt (z2 I 0 2 p0) fun I1 =>
  if p0 = 0 then
    (true, I1)
  else
    (false, I1)
def f_X11_refuse (I : z_I) (p0 : Int32) : Int32 × z_I :=
  z_lt (z2 I 0 2 p0) fun I1 =>
  ((-1 : Int32), I1)
def f_X11_gives (I : z_I) (p0 : Int32) : Int32 × z_I :=
  z_lt (z2 I 0 2 (0 : Int32)) fun I1 =>
  (p0, I1)
def f_X11_orNone (I : z_I) (p0 : Int32) : Int32 × z_I :=
  if p0 = (-1 : Int32) then
    ((f_X11_refuse I (6 : Int32)).1, (f_X11_refuse I (6 : Int32)).2)
  else
    ((f_X11_gives I p0).1, (f_X11_gives I p0).2)
def g_X11_tellsBy_6 (v1 : Int64) (v3 : Int64) (I : z_I) (L : z_L) (k31 : Int64 → Option (Bool × z_I × z_L)) : Nat → Int64 → Int64 → Option (Bool × z_I × z_L)
  | 0, _, _ => none
  | n + 1, v5, v7 =>
    if v7 = (0 : Int64) then
      k31 v5
    else
      if ¬ v7 = 0 then
        g_X11_tellsBy_6 v1 v3 I L k31 n v7 (v5 - v5 / v7 * v7)
      else none
def f_X11_tellsBy (I : z_I) (L : z_L) (p0 : Int64) (p1 : Int64) : Option (Bool × z_I × z_L) :=
  g_X11_tellsBy_6 p0 p1 I L
    (fun v5_2 =>
      if ¬ v5_2 = 0 then
        z_lt (z2 L 0 3 (p0 / v5_2)) fun L4 =>
        if ¬ v5_2 = 0 then
          z_lt (z2 L4 0 4 (p1 / v5_2)) fun L6 =>
          some ((f_X11_is I (0 : Int32)).1, (f_X11_is I (0 : Int32)).2, L6)
        else none
      else none) z_fuel p0 p1
def f_X11_isTray  (p0 : Int32) : Bool :=
  if p0 < 0 then
    false
  else
    if (4 : Int32) ≤ p0 then
      false
    else
      true
def f_X11_cut  (p0 : Int64) (p1 : Int32) : Int64 :=
  if p1 = 0 then
    (((p0.toInt32).toInt8.toInt32).toInt64)
  else
    if p1 = (1 : Int32) then
      (((p0.toInt32).toInt16.toInt32).toInt64)
    else
      if p1 = (2 : Int32) then
        ((p0.toInt32).toInt64)
      else
        p0
def g_X11_tray_49 (v1 : Int32) (v3 : Int32) (I : z_I)  : Nat → Int32 → z_L → Option (Bool × z_I × z_L)
  | 0, _, _ => none
  | n + 1, v4, L =>
    if v3 ≤ v4 then
      some ((f_X11_is I (0 : Int32)).1, (f_X11_is I (0 : Int32)).2, L)
    else
      if zin (((60 : Int32) * v1) + v4) 240 = true then
        z_lt (z2 L 5 ((((60 : Int32) * v1) + v4)).toNatClampNeg (0 : Int64)) fun L6 =>
        g_X11_tray_49 v1 v3 I  n (v4 + (1 : Int32)) L6
      else none
def f_X11_tray (I : z_I) (L : z_L) (p0 : Int32) (p1 : Int32) (p2 : Int32) : Option (Bool × z_I × z_L) :=
  if (f_X11_isTray p0) = true then
    if p1 < 0 then
      some ((f_X11_is I (1 : Int32)).1, (f_X11_is I (1 : Int32)).2, L)
    else
      if (3 : Int32) < p1 then
        some ((f_X11_is I (1 : Int32)).1, (f_X11_is I (1 : Int32)).2, L)
      else
        if p2 < 0 then
          some ((f_X11_is I (1 : Int32)).1, (f_X11_is I (1 : Int32)).2, L)
        else
          if p2 ≤ (60 : Int32) then
            if zin p0 4 = true then
              z_lt (z2 I 3 (p0).toNatClampNeg p1) fun I2 =>
              z_lt (z2 I2 4 (p0).toNatClampNeg p2) fun I4 =>
              g_X11_tray_49 p0 p2 I4 z_fuel (0 : Int32) L
            else none
          else
            some ((f_X11_is I (1 : Int32)).1, (f_X11_is I (1 : Int32)).2, L)
  else
    some ((f_X11_is I (1 : Int32)).1, (f_X11_is I (1 : Int32)).2, L)
def f_X11_wrongPlace (I : z_I) (p0 : Int32) (p1 : Int32) : Option (Int32) :=
  if (f_X11_isTray p0) = true then
    if zin p0 4 = true then
      if (I 4 (p0).toNatClampNeg) = (-1 : Int32) then
        some (2 : Int32)
      else
        if p1 < 0 then
          some (3 : Int32)
        else
          if p1 < (I 4 (p0).toNatClampNeg) then
            some (0 : Int32)
          else
            some (3 : Int32)
    else none
  else
    some (1 : Int32)
def f_X11_write (I : z_I) (L : z_L) (p0 : Int32) (p1 : Int32) (p2 : Int64) : Option (Bool × z_I × z_L) :=
  (f_X11_wrongPlace I p0 p1).bind fun q1 =>
    if q1 = 0 then
      if zin p0 4 = true then
        if zin (((60 : Int32) * p0) + p1) 240 = true then
          z_lt (z2 L 5 ((((60 : Int32) * p0) + p1)).toNatClampNeg (f_X11_cut p2 (I 3 (p0).toNatClampNeg))) fun L5 =>
          some ((f_X11_is I q1).1, (f_X11_is I q1).2, L5)
        else none
      else none
    else
      some ((f_X11_is I q1).1, (f_X11_is I q1).2, L)
def f_X11_read (I : z_I) (L : z_L) (p0 : Int32) (p1 : Int32) : Option (Int64 × z_I) :=
  (f_X11_wrongPlace I p0 p1).bind fun q1 =>
    z_lt (z2 I 0 2 q1) fun I3 =>
    if q1 ≤ 0 then
      if zin (((60 : Int32) * p0) + p1) 240 = true then
        some ((L 5 ((((60 : Int32) * p0) + p1)).toNatClampNeg), I3)
      else none
    else
      some ((-1 : Int64), I3)
def g_X11_pour_118 (v1 : Int32) (v2 : Int32) (v3 : Int32) (v4 : Int32) (v5 : Int32) (I : z_I)  : Nat → Int32 → z_L → Option (Bool × z_I × z_L)
  | 0, _, _ => none
  | n + 1, v6, L =>
    if v5 ≤ v6 then
      some ((f_X11_is I (0 : Int32)).1, (f_X11_is I (0 : Int32)).2, L)
    else
      if v4 ≤ v2 then
        if zin ((((60 : Int32) * v1) + v2) + v6) 240 = true then
          if zin ((((60 : Int32) * v3) + v4) + v6) 240 = true then
            z_lt (z2 L 5 (((((60 : Int32) * v3) + v4) + v6)).toNatClampNeg (L 5 (((((60 : Int32) * v1) + v2) + v6)).toNatClampNeg)) fun L9 =>
            g_X11_pour_118 v1 v2 v3 v4 v5 I  n (v6 + (1 : Int32)) L9
          else none
        else none
      else
        if zin ((((60 : Int32) * v1) + v2) + ((v5 - (1 : Int32)) - v6)) 240 = true then
          if zin ((((60 : Int32) * v3) + v4) + ((v5 - (1 : Int32)) - v6)) 240 = true then
            z_lt (z2 L 5 (((((60 : Int32) * v3) + v4) + ((v5 - (1 : Int32)) - v6))).toNatClampNeg (L 5 (((((60 : Int32) * v1) + v2) + ((v5 - (1 : Int32)) - v6))).toNatClampNeg)) fun L12 =>
            g_X11_pour_118 v1 v2 v3 v4 v5 I  n (v6 + (1 : Int32)) L12
          else none
        else none
def f_X11_pour (I : z_I) (L : z_L) (p0 : Int32) (p1 : Int32) (p2 : Int32) (p3 : Int32) (p4 : Int32) : Option (Bool × z_I × z_L) :=
  if (f_X11_isTray p0) = true then
    if (f_X11_isTray p2) = true then
      if p1 < 0 then
        some ((f_X11_is I (1 : Int32)).1, (f_X11_is I (1 : Int32)).2, L)
      else
        if p3 < 0 then
          some ((f_X11_is I (1 : Int32)).1, (f_X11_is I (1 : Int32)).2, L)
        else
          if 0 ≤ p4 then
            if zin p0 4 = true then
              if (I 4 (p0).toNatClampNeg) = (-1 : Int32) then
                some ((f_X11_is I (2 : Int32)).1, (f_X11_is I (2 : Int32)).2, L)
              else
                if zin p2 4 = true then
                  if (I 4 (p2).toNatClampNeg) = (-1 : Int32) then
                    some ((f_X11_is I (2 : Int32)).1, (f_X11_is I (2 : Int32)).2, L)
                  else
                    if (I 3 (p0).toNatClampNeg) = (I 3 (p2).toNatClampNeg) then
                      if ((I 4 (p0).toNatClampNeg) - p1) < p4 then
                        some ((f_X11_is I (3 : Int32)).1, (f_X11_is I (3 : Int32)).2, L)
                      else
                        if p4 ≤ ((I 4 (p2).toNatClampNeg) - p3) then
                          g_X11_pour_118 p0 p1 p2 p3 p4 I z_fuel (0 : Int32) L
                        else
                          some ((f_X11_is I (3 : Int32)).1, (f_X11_is I (3 : Int32)).2, L)
                    else
                      some ((f_X11_is I (8 : Int32)).1, (f_X11_is I (8 : Int32)).2, L)
                else none
            else none
          else
            some ((f_X11_is I (1 : Int32)).1, (f_X11_is I (1 : Int32)).2, L)
    else
      some ((f_X11_is I (1 : Int32)).1, (f_X11_is I (1 : Int32)).2, L)
  else
    some ((f_X11_is I (1 : Int32)).1, (f_X11_is I (1 : Int32)).2, L)
def f_X11_isFrom  (p0 : Int64) (p1 : Int64) (p2 : Int64) : Bool :=
  if p0 < p1 then
    false
  else
    if p2 < p0 then
      false
    else
      true
def g_X11_four_3 (v1 : Int32)  : Nat → Int32 → z_I → Option (z_I)
  | 0, _, _ => none
  | n + 1, v2, I =>
    if v2 < 0 then
      some I
    else
      if zin (I 0 10) 900 = true then
        z_lt (z2 I 6 ((I 0 10)).toNatClampNeg (vp_nar .byte ((v1 >>> (v2 &&& 31)).toInt8.toInt32))) fun I2 =>
        z_lt (z2 I2 0 10 ((I 0 10) + (1 : Int32))) fun I3 =>
        g_X11_four_3 v1  n (v2 + (-8 : Int32)) I3
      else none
def f_X11_four (I : z_I) (p0 : Int32) : Option (z_I) :=
  g_X11_four_3 p0 z_fuel (24 : Int32) I
def f_X11_feed (I : z_I) (p0 : Int32) (p1 : Int32) (p2 : Int32) (p3 : Int32) (p4 : Int32) : Option (Int32 × z_I) :=
  if ((I 0 10) + (20 : Int32)) ≤ (900 : Int32) then
    (f_X11_four I p0).bind fun q1 =>
      (f_X11_four q1 p1).bind fun q3 =>
        (f_X11_four q3 p2).bind fun q5 =>
          (f_X11_four q5 p3).bind fun q7 =>
            (f_X11_four q7 p4).bind fun q9 =>
              some ((q9 0 10), q9)
  else
    some ((-1 : Int32), I)
def f_X11_byteAt (I : z_I) (p0 : Int32) : Option (Int32) :=
  if (I 0 11) ≤ p0 then
    some (-1 : Int32)
  else
    if zin p0 900 = true then
      some ((I 7 (p0).toNatClampNeg) &&& (255 : Int32))
    else none
def f_X11_isSmall  (p0 : Int32) : Bool :=
  if p0 < (97 : Int32) then
    false
  else
    if (122 : Int32) < p0 then
      false
    else
      true
def f_X11_isDigit  (p0 : Int32) : Bool :=
  if p0 < (48 : Int32) then
    false
  else
    if (57 : Int32) < p0 then
      false
    else
      true
def g_X11_ahead_0  (k39 : z_I → Option (z_I)) : Nat → z_I → Option (z_I)
  | 0, _ => none
  | n + 1, I =>
    (f_X11_byteAt I (I 0 14)).bind fun q1 =>
      if q1 = (32 : Int32) then
        z_lt (z2 I 0 14 ((I 0 14) + (1 : Int32))) fun I3 =>
        g_X11_ahead_0  k39 n I3
      else
        (f_X11_byteAt I (I 0 14)).bind fun q4 =>
          if q4 = (10 : Int32) then
            z_lt (z2 I 0 14 ((I 0 14) + (1 : Int32))) fun I6 =>
            g_X11_ahead_0  k39 n I6
          else
            k39 I
def g_X11_ahead_81   : Nat → z_I → Option (z_I)
  | 0, _ => none
  | n + 1, I =>
    (f_X11_byteAt I (I 0 14)).bind fun q13 =>
      if (f_X11_isSmall q13) = true then
        z_lt (z2 I 0 14 ((I 0 14) + (1 : Int32))) fun I15 =>
        g_X11_ahead_81   n I15
      else
        z_lt (z2 I 0 12 (2 : Int32)) fun I16 =>
        some I16
def g_X11_ahead_128  (k183 : z_I → Option (z_I)) : Nat → z_I → Option (z_I)
  | 0, _ => none
  | n + 1, I =>
    (f_X11_byteAt I (I 0 14)).bind fun q18 =>
      if (f_X11_isDigit q18) = true then
        (f_X11_byteAt I (I 0 14)).bind fun q20 =>
          z_lt (z2 I 0 15 (z_min (100000 : Int32) ((((10 : Int32) * (I 0 15)) + q20) - (48 : Int32)))) fun I22 =>
          z_lt (z2 I22 0 14 ((I 0 14) + (1 : Int32))) fun I23 =>
          g_X11_ahead_128  k183 n I23
      else
        k183 I
def f_X11_ahead (I : z_I)  : Option (z_I) :=
  g_X11_ahead_0 
    (fun I_7 =>
      z_lt (z2 I_7 0 13 (I_7 0 14)) fun I8 =>
      (f_X11_byteAt I8 (I_7 0 14)).bind fun q9 =>
        z_lt (z2 I8 0 15 q9) fun I11 =>
        if q9 = (-1 : Int32) then
          z_lt (z2 I11 0 12 (0 : Int32)) fun I12 =>
          some I12
        else
          if (f_X11_isSmall q9) = true then
            g_X11_ahead_81  z_fuel I11
          else
            if (f_X11_isDigit q9) = true then
              z_lt (z2 I11 0 15 (0 : Int32)) fun I17 =>
              g_X11_ahead_128 
                (fun I_24 =>
                  if ((I_24 0 14) - (I_24 0 13)) ≤ (4 : Int32) then
                    z_lt (z2 I_24 0 12 (3 : Int32)) fun I25 =>
                    some I25
                  else
                    z_lt (z2 I_24 0 12 (1 : Int32)) fun I26 =>
                    some I26) z_fuel I17
            else
              z_lt (z2 I11 0 14 ((I_7 0 14) + (1 : Int32))) fun I27 =>
              if q9 = (59 : Int32) then
                z_lt (z2 I27 0 12 (4 : Int32)) fun I28 =>
                some I28
              else
                if q9 = (60 : Int32) then
                  z_lt (z2 I27 0 12 (4 : Int32)) fun I29 =>
                  some I29
                else
                  if q9 = (62 : Int32) then
                    z_lt (z2 I27 0 12 (4 : Int32)) fun I30 =>
                    some I30
                  else
                    if q9 = (61 : Int32) then
                      z_lt (z2 I27 0 12 (4 : Int32)) fun I31 =>
                      some I31
                    else
                      z_lt (z2 I27 0 12 (1 : Int32)) fun I32 =>
                      some I32) z_fuel I
def f_X11_isSign (I : z_I) (p0 : Int32) : Bool :=
  if (I 0 12) = (4 : Int32) then
    if (I 0 15) = p0 then
      true
    else
      false
  else
    false
def g_X11_inWords_25 (v2 : Int32) (v3 : Int32) (I : z_I) (k42 : Int32 → Option (Int32)) : Nat → Int32 → Option (Int32)
  | 0, _ => none
  | n + 1, v4 =>
    if zin v4 120 = true then
      if (z_ch (v4).toNatClampNeg) = (32 : Int32) then
        k42 v4
      else
        g_X11_inWords_25 v2 v3 I k42 n (v4 + (1 : Int32))
    else none
def g_X11_inWords_68 (v2 : Int32) (v3 : Int32) (v4 : Int32) (I : z_I) (k115 : Int32 → Option (Int32)) : Nat → Int32 → Int32 → Option (Int32)
  | 0, _, _ => none
  | n + 1, v5, v6 =>
    if v4 ≤ v6 then
      k115 v5
    else
      if v5 = 0 then
        k115 v5
      else
        if zin v6 120 = true then
          (f_X11_byteAt I (((I 0 13) + v6) - v3)).bind fun q4 =>
            if (z_ch (v6).toNatClampNeg) = q4 then
              g_X11_inWords_68 v2 v3 v4 I k115 n (1 : Int32) (v6 + (1 : Int32))
            else
              g_X11_inWords_68 v2 v3 v4 I k115 n (0 : Int32) (v6 + (1 : Int32))
        else none
def g_X11_inWords_14 (I : z_I)  : Nat → Int32 → Int32 → Option (Int32)
  | 0, _, _ => none
  | n + 1, v2, v3 =>
    if (120 : Int32) ≤ v3 then
      some (-1 : Int32)
    else
      g_X11_inWords_25 v2 v3 I
        (fun v4_2 =>
          if (v4_2 - v3) = ((I 0 14) - (I 0 13)) then
            g_X11_inWords_68 v2 v3 v4_2 I
              (fun v5_6 =>
                if v5_6 = 0 then
                  g_X11_inWords_14 I  n (v2 + (1 : Int32)) (v4_2 + (1 : Int32))
                else
                  some v2) z_fuel (1 : Int32) v3
          else
            g_X11_inWords_68 v2 v3 v4_2 I
              (fun v5_7 =>
                if v5_7 = 0 then
                  g_X11_inWords_14 I  n (v2 + (1 : Int32)) (v4_2 + (1 : Int32))
                else
                  some v2) z_fuel (0 : Int32) v3) z_fuel v3
def f_X11_inWords (I : z_I)  : Option (Int32) :=
  if (I 0 12) = (2 : Int32) then
    g_X11_inWords_14 I z_fuel (0 : Int32) (1 : Int32)
  else
    some (-1 : Int32)
def f_X11_fails (I : z_I) (p0 : Int32) : Bool × z_I :=
  if (I 0 18) = 0 then
    if (I 0 12) = (1 : Int32) then
      z_lt (z2 I 0 18 (1 : Int32)) fun I1 =>
      z_lt (z2 I1 0 17 (I 0 13)) fun I2 =>
      (false, I2)
    else
      z_lt (z2 I 0 18 p0) fun I3 =>
      z_lt (z2 I3 0 17 (I 0 13)) fun I4 =>
      (false, I4)
  else
    (false, I)
def g_X11_begins_26 (v1 : Int32) (k49 : z_I → Option (Bool × z_I)) : Nat → Int32 → z_I → Option (Bool × z_I)
  | 0, _, _ => none
  | n + 1, v3, I =>
    if v1 ≤ v3 then
      k49 I
    else
      if zin v3 900 = true then
        z_lt (z2 I 7 (v3).toNatClampNeg (vp_nar .byte (I 6 (v3).toNatClampNeg))) fun I4 =>
        g_X11_begins_26 v1 k49 n (v3 + (1 : Int32)) I4
      else none
def f_X11_begins (I : z_I) (p0 : Int32) (p1 : Int32) : Option (Bool × z_I) :=
  if p0 < 0 then
    some (false, I)
  else
    if (I 0 10) < p0 then
      some (false, I)
    else
      if p0 ≤ p1 then
        z_lt (z2 I 0 11 p0) fun I1 =>
        g_X11_begins_26 p0
          (fun I_5 =>
            z_lt (z2 I_5 0 10 (0 : Int32)) fun I6 =>
            z_lt (z2 I6 0 18 (0 : Int32)) fun I7 =>
            z_lt (z2 I7 0 17 (-1 : Int32)) fun I8 =>
            z_lt (z2 I8 0 14 (0 : Int32)) fun I9 =>
            z_lt (z2 I9 0 19 (0 : Int32)) fun I10 =>
            (f_X11_ahead I10).bind fun q11 =>
              some (true, q11)) z_fuel (0 : Int32) I1
      else
        some (false, I)
def f_X11_wantSign (I : z_I) (p0 : Int32) : Option (Bool × z_I) :=
  if (f_X11_isSign I p0) = true then
    (f_X11_ahead I).bind fun q1 =>
      some (true, q1)
  else
    some ((f_X11_fails I (2 : Int32)).1, (f_X11_fails I (2 : Int32)).2)
def f_X11_wantWord (I : z_I) (p1 : Int32) : Option (Bool × z_I) :=
  (f_X11_inWords I).bind fun q1 =>
    if q1 = p1 then
      (f_X11_ahead I).bind fun q3 =>
        some (true, q3)
    else
      some ((f_X11_fails I (2 : Int32)).1, (f_X11_fails I (2 : Int32)).2)
def f_X11_number (I : z_I) (p0 : Int32) (p1 : Int32) (p2 : Int32) : Option (Bool × z_I) :=
  if (I 0 12) = (3 : Int32) then
    if (I 0 15) < p1 then
      some ((f_X11_fails I (4 : Int32)).1, (f_X11_fails I (4 : Int32)).2)
    else
      if (I 0 15) ≤ p2 then
        if zin p0 2200 = true then
          z_lt (z2 I 1 (p0).toNatClampNeg (I 0 15)) fun I2 =>
          (f_X11_ahead I2).bind fun q3 =>
            some (true, q3)
        else none
      else
        some ((f_X11_fails I (4 : Int32)).1, (f_X11_fails I (4 : Int32)).2)
  else
    some ((f_X11_fails I (2 : Int32)).1, (f_X11_fails I (2 : Int32)).2)
def f_X11_isName (I : z_I)  : Option (Bool) :=
  if (I 0 12) = (2 : Int32) then
    if (8 : Int32) < ((I 0 14) - (I 0 13)) then
      some false
    else
      (f_X11_inWords I).bind fun q1 =>
        if q1 = (-1 : Int32) then
          some true
        else
          some false
  else
    some false
def g_X11_nameHere_7 (I : z_I)  : Nat → Int64 → Int32 → Option (Int64)
  | 0, _, _ => none
  | n + 1, v1, v3 =>
    if (I 0 14) ≤ v3 then
      some v1
    else
      (f_X11_byteAt I v3).bind fun q1 =>
        z_lt ((v1 <<< (((8 : Int32)).toInt64 &&& 63)) ||| (q1.toInt64)) fun w3 =>
        g_X11_nameHere_7 I  n w3 (v3 + (1 : Int32))
def f_X11_nameHere (I : z_I)  : Option (Int64) :=
  g_X11_nameHere_7 I z_fuel (0 : Int64) (I 0 13)
def g_X11_findHere_2 (v1 : Int32) (v2 : Int32) (I : z_I) (L : z_L)  : Nat → Int32 → Option (Int32)
  | 0, _ => none
  | n + 1, v3 =>
    if v2 ≤ v3 then
      some (-1 : Int32)
    else
      if zin (v1 + v3) 114 = true then
        (f_X11_nameHere I).bind fun q2 =>
          if (L 2 ((v1 + v3)).toNatClampNeg) = q2 then
            some v3
          else
            g_X11_findHere_2 v1 v2 I L  n (v3 + (1 : Int32))
      else none
def f_X11_findHere (I : z_I) (L : z_L) (p0 : Int32) (p1 : Int32) : Option (Int32) :=
  g_X11_findHere_2 p0 p1 I L z_fuel (0 : Int32)
def f_X11_fault (I : z_I) (p0 : Int32) : Int32 :=
  if p0 = 0 then
    (I 0 16)
  else
    if p0 = (1 : Int32) then
      (I 0 17)
    else
      (-1 : Int32)
def f_X11_taken (I : z_I) (p0 : Int32) : Int32 × z_I :=
  z_lt (z2 I 0 16 (I 0 18)) fun I1 =>
  if (I 0 18) ≤ 0 then
    ((f_X11_gives I1 p0).1, (f_X11_gives I1 p0).2)
  else
    ((f_X11_refuse I1 (9 : Int32)).1, (f_X11_refuse I1 (9 : Int32)).2)
def f_X11_bedRow  (p0 : Int32) : Int32 :=
  ((10 : Int32) + ((2 : Int32) * p0))
def f_X11_claimRow  (p0 : Int32) : Int32 :=
  ((30 : Int32) + ((3 : Int32) * p0))
def f_X11_scholarRow  (p0 : Int32) : Int32 :=
  ((51 : Int32) + ((2 : Int32) * p0))
def f_X11_isIn  (p0 : Int32) (p1 : Int32) : Bool :=
  if ((p0 >>> (p1 &&& 31)) &&& (1 : Int32)) = (1 : Int32) then
    true
  else
    false
def f_X11_isThere (I : z_I) (p0 : Int32) : Option (Bool × z_I) :=
  (f_X11_inWords I).bind fun q1 =>
    if q1 = p0 then
      (f_X11_ahead I).bind fun q3 =>
        some (true, q3)
    else
      some (false, I)
def f_X11_perhaps (I : z_I) (p0 : Int32) (p1 : Int32) (p2 : Int32) (p3 : Int32) (p4 : Int32) : Option (Bool × z_I) :=
  (f_X11_isThere I p0).bind fun q1 =>
    if q1.1 = true then
      (f_X11_number q1.2 p1 p2 p3).bind fun q3 =>
        some (q3.1, q3.2)
    else
      if zin p1 2200 = true then
        z_lt (z2 q1.2 1 (p1).toNatClampNeg p4) fun I6 =>
        some (true, I6)
      else none
def f_X11_isFull (I : z_I) (p0 : Int32) (p1 : Int32) : Option (Bool) :=
  if zin ((1712 : Int32) + p0) 2200 = true then
    if (I 1 (((1712 : Int32) + p0)).toNatClampNeg) = p1 then
      some true
    else
      some false
  else none
def f_X11_isOld (I : z_I) (L : z_L)  : Option (Bool) :=
  (f_X11_findHere I L (76 : Int32) (I 1 1713)).bind fun q2 =>
    if q2 = (-1 : Int32) then
      (f_X11_findHere I L (84 : Int32) (I 1 1714)).bind fun q5 =>
        if q5 = (-1 : Int32) then
          (f_X11_findHere I L (91 : Int32) (I 1 1715)).bind fun q8 =>
            if q8 = (-1 : Int32) then
              some false
            else
              some true
        else
          some true
    else
      some true
def f_X11_newOne (I : z_I) (L : z_L) (p0 : Int32) (p1 : Int32) (p2 : Int32) : Option (Bool × z_I × z_L) :=
  (f_X11_isFull I p0 p1).bind fun q1 =>
    if q1 = true then
      some ((f_X11_fails I (6 : Int32)).1, (f_X11_fails I (6 : Int32)).2, L)
    else
      (f_X11_ahead I).bind fun q3 =>
        (f_X11_isName q3).bind fun q5 =>
          if q5 = true then
            (f_X11_isOld q3 L).bind fun q7 =>
              if q7 = true then
                some ((f_X11_fails q3 (3 : Int32)).1, (f_X11_fails q3 (3 : Int32)).2, L)
              else
                if zin ((1712 : Int32) + p0) 2200 = true then
                  (f_X11_nameHere q3).bind fun q10 =>
                    if zin (((76 : Int32) + p2) + (q3 1 (((1712 : Int32) + p0)).toNatClampNeg)) 114 = true then
                      z_lt (z2 L 2 ((((76 : Int32) + p2) + (q3 1 (((1712 : Int32) + p0)).toNatClampNeg))).toNatClampNeg q10) fun L13 =>
                      (f_X11_ahead q3).bind fun q14 =>
                        some (true, q14, L13)
                    else none
                else none
          else
            some ((f_X11_fails q3 (2 : Int32)).1, (f_X11_fails q3 (2 : Int32)).2, L)
def f_X11_oldOne (I : z_I) (L : z_L) (p0 : Int32) (p1 : Int32) (p2 : Int32) : Option (Bool × z_I) :=
  (f_X11_isName I).bind fun q1 =>
    if q1 = true then
      (f_X11_findHere I L p0 p1).bind fun q3 =>
        if zin p2 2200 = true then
          z_lt (z2 I 1 (p2).toNatClampNeg q3) fun I6 =>
          if (I6 1 (p2).toNatClampNeg) = (-1 : Int32) then
            some ((f_X11_fails I6 (3 : Int32)).1, (f_X11_fails I6 (3 : Int32)).2)
          else
            (f_X11_ahead I6).bind fun q8 =>
              some (true, q8)
        else none
    else
      some ((f_X11_fails I (2 : Int32)).1, (f_X11_fails I (2 : Int32)).2)
def f_X11_newBedTo (I : z_I) (p0 : Int32) : Option (Bool × z_I) :=
  (f_X11_number I p0 (0 : Int32) ((I 1 1712) - (1 : Int32))).bind fun q2 =>
    some (q2.1, q2.2)
def f_X11_aBed (I : z_I)  : Option (Bool × z_I) :=
  (f_X11_isFull I (0 : Int32) (6 : Int32)).bind fun q1 =>
    if q1 = true then
      some ((f_X11_fails I (6 : Int32)).1, (f_X11_fails I (6 : Int32)).2)
    else
      (f_X11_ahead I).bind fun q4 =>
        (f_X11_perhaps q4 (5 : Int32) ((1712 : Int32) + (f_X11_bedRow (I 1 1712))) (0 : Int32) (99 : Int32) (0 : Int32)).bind fun q6 =>
          if q6.1 = true then
            (f_X11_perhaps q6.2 (6 : Int32) (((1712 : Int32) + (f_X11_bedRow (I 1 1712))) + (1 : Int32)) (0 : Int32) (99 : Int32) (0 : Int32)).bind fun q8 =>
              if q8.1 = true then
                z_lt (z2 q8.2 1 1712 ((q8.2 1 1712) + (1 : Int32))) fun I12 =>
                some (true, I12)
              else
                some (false, q8.2)
          else
            some (false, q6.2)
def f_X11_aCase (I : z_I) (L : z_L)  : Option (Bool × z_I × z_L) :=
  (f_X11_newOne I L (1 : Int32) (8 : Int32) (0 : Int32)).bind fun q1 =>
    if q1.1 = true then
      (f_X11_wantWord q1.2.1 (7 : Int32)).bind fun q3 =>
        if q3.1 = true then
          (f_X11_number q3.2 ((1734 : Int32) + (q3.2 1 1713)) (1 : Int32) (20 : Int32)).bind fun q6 =>
            if q6.1 = true then
              z_lt (z2 q6.2 1 1713 ((q6.2 1 1713) + (1 : Int32))) fun I10 =>
              some (true, I10, q1.2.2)
            else
              some (false, q6.2, q1.2.2)
        else
          some (false, q3.2, q1.2.2)
    else
      some (false, q1.2.1, q1.2.2)
def g_X11_aClaim_91 (v1 : Int32) (v2 : Int32) (L : z_L) (k179 : z_I → Option (Bool × z_I × z_L)) : Nat → z_I → Option (Bool × z_I × z_L)
  | 0, _ => none
  | n + 1, I =>
    (f_X11_isName I).bind fun q15 =>
      if q15 = true then
        (f_X11_findHere I L (76 : Int32) (I 1 1713)).bind fun q18 =>
          if q18 = (-1 : Int32) then
            (f_X11_oldOne I L (76 : Int32) (I 1 1713) v2).bind fun q21 =>
              if q21.1 = true then
                if zin (v1 + (2 : Int32)) 2200 = true then
                  z_lt (z2 q21.2 1 ((v1 + (2 : Int32))).toNatClampNeg ((q21.2 1 ((v1 + (2 : Int32))).toNatClampNeg) ||| ((1 : Int32) <<< (q18 &&& 31)))) fun I25 =>
                  g_X11_aClaim_91 v1 v2 L k179 n I25
                else none
              else
                some (false, q21.2, L)
          else
            if zin (v1 + (2 : Int32)) 2200 = true then
              if (f_X11_isIn (I 1 ((v1 + (2 : Int32))).toNatClampNeg) q18) = true then
                some ((f_X11_fails I (5 : Int32)).1, (f_X11_fails I (5 : Int32)).2, L)
              else
                (f_X11_oldOne I L (76 : Int32) (I 1 1713) v2).bind fun q28 =>
                  if q28.1 = true then
                    z_lt (z2 q28.2 1 ((v1 + (2 : Int32))).toNatClampNeg ((q28.2 1 ((v1 + (2 : Int32))).toNatClampNeg) ||| ((1 : Int32) <<< (q18 &&& 31)))) fun I32 =>
                    g_X11_aClaim_91 v1 v2 L k179 n I32
                  else
                    some (false, q28.2, L)
            else none
      else
        k179 I
def f_X11_aClaim (I : z_I) (L : z_L)  : Option (Bool × z_I × z_L) :=
  z_lt ((1712 : Int32) + (f_X11_claimRow (I 1 1714))) fun w2 =>
  (f_X11_newOne I L (2 : Int32) (7 : Int32) (8 : Int32)).bind fun q3 =>
    if q3.1 = true then
      (f_X11_wantWord q3.2.1 (8 : Int32)).bind fun q5 =>
        if q5.1 = true then
          (f_X11_newBedTo q5.2 w2).bind fun q7 =>
            if q7.1 = true then
              (f_X11_perhaps q7.2 (9 : Int32) (w2 + (1 : Int32)) (1 : Int32) (9 : Int32) (1 : Int32)).bind fun q9 =>
                if q9.1 = true then
                  (f_X11_wantWord q9.2 (10 : Int32)).bind fun q11 =>
                    if q11.1 = true then
                      if zin (w2 + (2 : Int32)) 2200 = true then
                        z_lt (z2 q11.2 1 ((w2 + (2 : Int32))).toNatClampNeg (0 : Int32)) fun I14 =>
                        g_X11_aClaim_91 w2 (2132 : Int32) q3.2.2
                          (fun I_33 =>
                            z_lt (z2 I_33 1 1714 ((I_33 1 1714) + (1 : Int32))) fun I36 =>
                            some (true, I36, q3.2.2)) z_fuel I14
                      else none
                    else
                      some (false, q11.2, q3.2.2)
                else
                  some (false, q9.2, q3.2.2)
            else
              some (false, q7.2, q3.2.2)
        else
          some (false, q5.2, q3.2.2)
    else
      some (false, q3.2.1, q3.2.2)
def f_X11_aScholar (I : z_I) (L : z_L)  : Option (Bool × z_I × z_L) :=
  z_lt ((1712 : Int32) + (f_X11_scholarRow (I 1 1715))) fun w2 =>
  (f_X11_newOne I L (3 : Int32) (4 : Int32) (15 : Int32)).bind fun q3 =>
    if q3.1 = true then
      (f_X11_wantWord q3.2.1 (8 : Int32)).bind fun q5 =>
        if q5.1 = true then
          (f_X11_newBedTo q5.2 w2).bind fun q7 =>
            if q7.1 = true then
              (f_X11_perhaps q7.2 (11 : Int32) (w2 + (1 : Int32)) (0 : Int32) (999 : Int32) (0 : Int32)).bind fun q9 =>
                if q9.1 = true then
                  z_lt (z2 q9.2 1 1715 ((q9.2 1 1715) + (1 : Int32))) fun I13 =>
                  some (true, I13, q3.2.2)
                else
                  some (false, q9.2, q3.2.2)
            else
              some (false, q7.2, q3.2.2)
        else
          some (false, q5.2, q3.2.2)
    else
      some (false, q3.2.1, q3.2.2)
def f_X11_courtPart (I : z_I) (L : z_L)  : Option (Bool × z_I × z_L) :=
  (f_X11_inWords I).bind fun q1 =>
    if q1 < 0 then
      some ((f_X11_fails I (2 : Int32)).1, (f_X11_fails I (2 : Int32)).2, L)
    else
      if q1 ≤ (4 : Int32) then
        if q1 = 0 then
          if (I 0 20) = (1 : Int32) then
            some ((f_X11_fails I (5 : Int32)).1, (f_X11_fails I (5 : Int32)).2, L)
          else
            if q1 = 0 then
              z_lt (z2 I 0 20 (1 : Int32)) fun I3 =>
              (f_X11_ahead I3).bind fun q4 =>
                if q1 = (0) then
                  (f_X11_number q4 (1716 : Int32) (0 : Int32) (16 : Int32)).bind fun q6 =>
                    if q6.1 = true then
                      (f_X11_wantSign q6.2 (59 : Int32)).bind fun q8 =>
                        if q8.1 = true then
                          some (true, q8.2, L)
                        else
                          some (false, q8.2, L)
                    else
                      some (false, q6.2, L)
                else
                  if q1 = (1) then
                    (f_X11_aBed q4).bind fun q11 =>
                      if q11.1 = true then
                        (f_X11_wantSign q11.2 (59 : Int32)).bind fun q13 =>
                          if q13.1 = true then
                            some (true, q13.2, L)
                          else
                            some (false, q13.2, L)
                      else
                        some (false, q11.2, L)
                  else
                    if q1 = (2) then
                      (f_X11_aCase q4 L).bind fun q16 =>
                        if q16.1 = true then
                          (f_X11_wantSign q16.2.1 (59 : Int32)).bind fun q18 =>
                            if q18.1 = true then
                              some (true, q18.2, q16.2.2)
                            else
                              some (false, q18.2, q16.2.2)
                        else
                          some (false, q16.2.1, q16.2.2)
                    else
                      if q1 = (3) then
                        (f_X11_aClaim q4 L).bind fun q21 =>
                          if q21.1 = true then
                            (f_X11_wantSign q21.2.1 (59 : Int32)).bind fun q23 =>
                              if q23.1 = true then
                                some (true, q23.2, q21.2.2)
                              else
                                some (false, q23.2, q21.2.2)
                          else
                            some (false, q21.2.1, q21.2.2)
                      else
                        (f_X11_aScholar q4 L).bind fun q26 =>
                          if q26.1 = true then
                            (f_X11_wantSign q26.2.1 (59 : Int32)).bind fun q28 =>
                              if q28.1 = true then
                                some (true, q28.2, q26.2.2)
                              else
                                some (false, q28.2, q26.2.2)
                          else
                            some (false, q26.2.1, q26.2.2)
            else
              if q1 = (0) then
                (f_X11_number I (1716 : Int32) (0 : Int32) (16 : Int32)).bind fun q30 =>
                  if q30.1 = true then
                    (f_X11_wantSign q30.2 (59 : Int32)).bind fun q32 =>
                      if q32.1 = true then
                        some (true, q32.2, L)
                      else
                        some (false, q32.2, L)
                  else
                    some (false, q30.2, L)
              else
                if q1 = (1) then
                  (f_X11_aBed I).bind fun q35 =>
                    if q35.1 = true then
                      (f_X11_wantSign q35.2 (59 : Int32)).bind fun q37 =>
                        if q37.1 = true then
                          some (true, q37.2, L)
                        else
                          some (false, q37.2, L)
                    else
                      some (false, q35.2, L)
                else
                  if q1 = (2) then
                    (f_X11_aCase I L).bind fun q40 =>
                      if q40.1 = true then
                        (f_X11_wantSign q40.2.1 (59 : Int32)).bind fun q42 =>
                          if q42.1 = true then
                            some (true, q42.2, q40.2.2)
                          else
                            some (false, q42.2, q40.2.2)
                      else
                        some (false, q40.2.1, q40.2.2)
                  else
                    if q1 = (3) then
                      (f_X11_aClaim I L).bind fun q45 =>
                        if q45.1 = true then
                          (f_X11_wantSign q45.2.1 (59 : Int32)).bind fun q47 =>
                            if q47.1 = true then
                              some (true, q47.2, q45.2.2)
                            else
                              some (false, q47.2, q45.2.2)
                        else
                          some (false, q45.2.1, q45.2.2)
                    else
                      (f_X11_aScholar I L).bind fun q50 =>
                        if q50.1 = true then
                          (f_X11_wantSign q50.2.1 (59 : Int32)).bind fun q52 =>
                            if q52.1 = true then
                              some (true, q52.2, q50.2.2)
                            else
                              some (false, q52.2, q50.2.2)
                        else
                          some (false, q50.2.1, q50.2.2)
        else
          if q1 = 0 then
            z_lt (z2 I 0 20 (1 : Int32)) fun I54 =>
            (f_X11_ahead I54).bind fun q55 =>
              if q1 = (0) then
                (f_X11_number q55 (1716 : Int32) (0 : Int32) (16 : Int32)).bind fun q57 =>
                  if q57.1 = true then
                    (f_X11_wantSign q57.2 (59 : Int32)).bind fun q59 =>
                      if q59.1 = true then
                        some (true, q59.2, L)
                      else
                        some (false, q59.2, L)
                  else
                    some (false, q57.2, L)
              else
                if q1 = (1) then
                  (f_X11_aBed q55).bind fun q62 =>
                    if q62.1 = true then
                      (f_X11_wantSign q62.2 (59 : Int32)).bind fun q64 =>
                        if q64.1 = true then
                          some (true, q64.2, L)
                        else
                          some (false, q64.2, L)
                    else
                      some (false, q62.2, L)
                else
                  if q1 = (2) then
                    (f_X11_aCase q55 L).bind fun q67 =>
                      if q67.1 = true then
                        (f_X11_wantSign q67.2.1 (59 : Int32)).bind fun q69 =>
                          if q69.1 = true then
                            some (true, q69.2, q67.2.2)
                          else
                            some (false, q69.2, q67.2.2)
                      else
                        some (false, q67.2.1, q67.2.2)
                  else
                    if q1 = (3) then
                      (f_X11_aClaim q55 L).bind fun q72 =>
                        if q72.1 = true then
                          (f_X11_wantSign q72.2.1 (59 : Int32)).bind fun q74 =>
                            if q74.1 = true then
                              some (true, q74.2, q72.2.2)
                            else
                              some (false, q74.2, q72.2.2)
                        else
                          some (false, q72.2.1, q72.2.2)
                    else
                      (f_X11_aScholar q55 L).bind fun q77 =>
                        if q77.1 = true then
                          (f_X11_wantSign q77.2.1 (59 : Int32)).bind fun q79 =>
                            if q79.1 = true then
                              some (true, q79.2, q77.2.2)
                            else
                              some (false, q79.2, q77.2.2)
                        else
                          some (false, q77.2.1, q77.2.2)
          else
            if q1 = (0) then
              (f_X11_number I (1716 : Int32) (0 : Int32) (16 : Int32)).bind fun q81 =>
                if q81.1 = true then
                  (f_X11_wantSign q81.2 (59 : Int32)).bind fun q83 =>
                    if q83.1 = true then
                      some (true, q83.2, L)
                    else
                      some (false, q83.2, L)
                else
                  some (false, q81.2, L)
            else
              if q1 = (1) then
                (f_X11_aBed I).bind fun q86 =>
                  if q86.1 = true then
                    (f_X11_wantSign q86.2 (59 : Int32)).bind fun q88 =>
                      if q88.1 = true then
                        some (true, q88.2, L)
                      else
                        some (false, q88.2, L)
                  else
                    some (false, q86.2, L)
              else
                if q1 = (2) then
                  (f_X11_aCase I L).bind fun q91 =>
                    if q91.1 = true then
                      (f_X11_wantSign q91.2.1 (59 : Int32)).bind fun q93 =>
                        if q93.1 = true then
                          some (true, q93.2, q91.2.2)
                        else
                          some (false, q93.2, q91.2.2)
                    else
                      some (false, q91.2.1, q91.2.2)
                else
                  if q1 = (3) then
                    (f_X11_aClaim I L).bind fun q96 =>
                      if q96.1 = true then
                        (f_X11_wantSign q96.2.1 (59 : Int32)).bind fun q98 =>
                          if q98.1 = true then
                            some (true, q98.2, q96.2.2)
                          else
                            some (false, q98.2, q96.2.2)
                      else
                        some (false, q96.2.1, q96.2.2)
                  else
                    (f_X11_aScholar I L).bind fun q101 =>
                      if q101.1 = true then
                        (f_X11_wantSign q101.2.1 (59 : Int32)).bind fun q103 =>
                          if q103.1 = true then
                            some (true, q103.2, q101.2.2)
                          else
                            some (false, q103.2, q101.2.2)
                      else
                        some (false, q101.2.1, q101.2.2)
      else
        some ((f_X11_fails I (2 : Int32)).1, (f_X11_fails I (2 : Int32)).2, L)
def g_X11_court_31  (k50 : z_I → z_L → Option (Int32 × z_I × z_L)) : Nat → Bool → z_I → z_L → Option (Int32 × z_I × z_L)
  | 0, _, _, _ => none
  | n + 1, v2, I, L =>
    if v2 = true then
      if (I 0 12) = 0 then
        k50 I L
      else
        (f_X11_courtPart I L).bind fun q6 =>
          g_X11_court_31  k50 n q6.1 q6.2.1 q6.2.2
    else
      k50 I L
def g_X11_court_59 (L : z_L) (k88 : z_I → Option (Int32 × z_I × z_L)) : Nat → Int32 → z_I → Option (Int32 × z_I × z_L)
  | 0, _, _ => none
  | n + 1, v3, I =>
    if (428 : Int32) ≤ v3 then
      k88 I
    else
      if zin ((1712 : Int32) + v3) 2200 = true then
        if zin v3 2200 = true then
          z_lt (z2 I 1 (v3).toNatClampNeg (I 1 (((1712 : Int32) + v3)).toNatClampNeg)) fun I12 =>
          g_X11_court_59 L k88 n (v3 + (1 : Int32)) I12
        else none
      else none
def g_X11_court_90 (I : z_I)  : Nat → Int32 → z_L → Option (Int32 × z_I × z_L)
  | 0, _, _ => none
  | n + 1, v3, L =>
    if (19 : Int32) ≤ v3 then
      some ((f_X11_taken I (I 1 2)).1, (f_X11_taken I (I 1 2)).2, L)
    else
      if zin ((76 : Int32) + v3) 114 = true then
        if zin v3 114 = true then
          z_lt (z2 L 2 (v3).toNatClampNeg (L 2 (((76 : Int32) + v3)).toNatClampNeg)) fun L17 =>
          g_X11_court_90 I  n (v3 + (1 : Int32)) L17
        else none
      else none
def f_X11_court (I : z_I) (L : z_L) (p0 : Int32) : Option (Int32 × z_I × z_L) :=
  (f_X11_begins I p0 (900 : Int32)).bind fun q1 =>
    if q1.1 = true then
      (f_X11_plain q1.2 (1712 : Int32)).bind fun q3 =>
        z_lt (z2 q3 0 20 (0 : Int32)) fun I5 =>
        g_X11_court_31 
          (fun I_8 L_9 =>
            if (I_8 0 18) = 0 then
              g_X11_court_59 L_9
                (fun I_13 =>
                  g_X11_court_90 I_13 z_fuel (0 : Int32) L_9) z_fuel (0 : Int32) I_8
            else
              some ((f_X11_taken I_8 (I_8 1 2)).1, (f_X11_taken I_8 (I_8 1 2)).2, L_9)) z_fuel true I5 L
    else
      some ((f_X11_refuse q1.2 (1 : Int32)).1, (f_X11_refuse q1.2 (1 : Int32)).2, L)
def f_X11_claimTo (I : z_I) (L : z_L) (p0 : Int32) : Option (Bool × z_I) :=
  (f_X11_oldOne I L (8 : Int32) (I 1 2) p0).bind fun q2 =>
    some (q2.1, q2.2)
def f_X11_scholarTo (I : z_I) (L : z_L) (p0 : Int32) : Option (Bool × z_I) :=
  (f_X11_oldOne I L (15 : Int32) (I 1 3) p0).bind fun q2 =>
    some (q2.1, q2.2)
def f_X11_bedTo (I : z_I) (p0 : Int32) : Option (Bool × z_I) :=
  (f_X11_number I p0 (0 : Int32) ((I 1 0) - (1 : Int32))).bind fun q2 =>
    some (q2.1, q2.2)
def f_X11_test (I : z_I) (L : z_L) (p0 : Int32) : Option (Bool × z_I) :=
  (f_X11_inWords I).bind fun q1 =>
    if q1 = (5 : Int32) then
      if zin p0 2200 = true then
        z_lt (z2 I 1 (p0).toNatClampNeg ((1800 : Int32) + q1)) fun I4 =>
        (f_X11_ahead I4).bind fun q5 =>
          if q1 = (22 : Int32) then
            (f_X11_claimTo q5 L (p0 + (1 : Int32))).bind fun q7 =>
              some (q7.1, q7.2)
          else
            if q1 = (11 : Int32) then
              (f_X11_scholarTo q5 L (p0 + (1 : Int32))).bind fun q9 =>
                if q9.1 = true then
                  if (f_X11_isSign q9.2 (60 : Int32)) = true then
                    if zin (p0 + (5 : Int32)) 2200 = true then
                      z_lt (z2 q9.2 1 ((p0 + (5 : Int32))).toNatClampNeg (q9.2 0 15)) fun I12 =>
                      (f_X11_ahead I12).bind fun q13 =>
                        (f_X11_number q13 (p0 + (2 : Int32)) (0 : Int32) (9999 : Int32)).bind fun q15 =>
                          some (q15.1, q15.2)
                    else none
                  else
                    if (f_X11_isSign q9.2 (62 : Int32)) = true then
                      if zin (p0 + (5 : Int32)) 2200 = true then
                        z_lt (z2 q9.2 1 ((p0 + (5 : Int32))).toNatClampNeg (q9.2 0 15)) fun I18 =>
                        (f_X11_ahead I18).bind fun q19 =>
                          (f_X11_number q19 (p0 + (2 : Int32)) (0 : Int32) (9999 : Int32)).bind fun q21 =>
                            some (q21.1, q21.2)
                      else none
                    else
                      if (f_X11_isSign q9.2 (61 : Int32)) = true then
                        if zin (p0 + (5 : Int32)) 2200 = true then
                          z_lt (z2 q9.2 1 ((p0 + (5 : Int32))).toNatClampNeg (q9.2 0 15)) fun I24 =>
                          (f_X11_ahead I24).bind fun q25 =>
                            (f_X11_number q25 (p0 + (2 : Int32)) (0 : Int32) (9999 : Int32)).bind fun q27 =>
                              some (q27.1, q27.2)
                        else none
                      else
                        some ((f_X11_fails q9.2 (2 : Int32)).1, (f_X11_fails q9.2 (2 : Int32)).2)
                else
                  some (false, q9.2)
            else
              (f_X11_bedTo q5 (p0 + (1 : Int32))).bind fun q29 =>
                if q29.1 = true then
                  if (f_X11_isSign q29.2 (60 : Int32)) = true then
                    if zin (p0 + (5 : Int32)) 2200 = true then
                      z_lt (z2 q29.2 1 ((p0 + (5 : Int32))).toNatClampNeg (q29.2 0 15)) fun I32 =>
                      (f_X11_ahead I32).bind fun q33 =>
                        (f_X11_number q33 (p0 + (2 : Int32)) (0 : Int32) (9999 : Int32)).bind fun q35 =>
                          some (q35.1, q35.2)
                    else none
                  else
                    if (f_X11_isSign q29.2 (62 : Int32)) = true then
                      if zin (p0 + (5 : Int32)) 2200 = true then
                        z_lt (z2 q29.2 1 ((p0 + (5 : Int32))).toNatClampNeg (q29.2 0 15)) fun I38 =>
                        (f_X11_ahead I38).bind fun q39 =>
                          (f_X11_number q39 (p0 + (2 : Int32)) (0 : Int32) (9999 : Int32)).bind fun q41 =>
                            some (q41.1, q41.2)
                      else none
                    else
                      if (f_X11_isSign q29.2 (61 : Int32)) = true then
                        if zin (p0 + (5 : Int32)) 2200 = true then
                          z_lt (z2 q29.2 1 ((p0 + (5 : Int32))).toNatClampNeg (q29.2 0 15)) fun I44 =>
                          (f_X11_ahead I44).bind fun q45 =>
                            (f_X11_number q45 (p0 + (2 : Int32)) (0 : Int32) (9999 : Int32)).bind fun q47 =>
                              some (q47.1, q47.2)
                        else none
                      else
                        some ((f_X11_fails q29.2 (2 : Int32)).1, (f_X11_fails q29.2 (2 : Int32)).2)
                else
                  some (false, q29.2)
      else none
    else
      if q1 = (11 : Int32) then
        if zin p0 2200 = true then
          z_lt (z2 I 1 (p0).toNatClampNeg ((1800 : Int32) + q1)) fun I50 =>
          (f_X11_ahead I50).bind fun q51 =>
            if q1 = (22 : Int32) then
              (f_X11_claimTo q51 L (p0 + (1 : Int32))).bind fun q53 =>
                some (q53.1, q53.2)
            else
              if q1 = (11 : Int32) then
                (f_X11_scholarTo q51 L (p0 + (1 : Int32))).bind fun q55 =>
                  if q55.1 = true then
                    if (f_X11_isSign q55.2 (60 : Int32)) = true then
                      if zin (p0 + (5 : Int32)) 2200 = true then
                        z_lt (z2 q55.2 1 ((p0 + (5 : Int32))).toNatClampNeg (q55.2 0 15)) fun I58 =>
                        (f_X11_ahead I58).bind fun q59 =>
                          (f_X11_number q59 (p0 + (2 : Int32)) (0 : Int32) (9999 : Int32)).bind fun q61 =>
                            some (q61.1, q61.2)
                      else none
                    else
                      if (f_X11_isSign q55.2 (62 : Int32)) = true then
                        if zin (p0 + (5 : Int32)) 2200 = true then
                          z_lt (z2 q55.2 1 ((p0 + (5 : Int32))).toNatClampNeg (q55.2 0 15)) fun I64 =>
                          (f_X11_ahead I64).bind fun q65 =>
                            (f_X11_number q65 (p0 + (2 : Int32)) (0 : Int32) (9999 : Int32)).bind fun q67 =>
                              some (q67.1, q67.2)
                        else none
                      else
                        if (f_X11_isSign q55.2 (61 : Int32)) = true then
                          if zin (p0 + (5 : Int32)) 2200 = true then
                            z_lt (z2 q55.2 1 ((p0 + (5 : Int32))).toNatClampNeg (q55.2 0 15)) fun I70 =>
                            (f_X11_ahead I70).bind fun q71 =>
                              (f_X11_number q71 (p0 + (2 : Int32)) (0 : Int32) (9999 : Int32)).bind fun q73 =>
                                some (q73.1, q73.2)
                          else none
                        else
                          some ((f_X11_fails q55.2 (2 : Int32)).1, (f_X11_fails q55.2 (2 : Int32)).2)
                  else
                    some (false, q55.2)
              else
                (f_X11_bedTo q51 (p0 + (1 : Int32))).bind fun q75 =>
                  if q75.1 = true then
                    if (f_X11_isSign q75.2 (60 : Int32)) = true then
                      if zin (p0 + (5 : Int32)) 2200 = true then
                        z_lt (z2 q75.2 1 ((p0 + (5 : Int32))).toNatClampNeg (q75.2 0 15)) fun I78 =>
                        (f_X11_ahead I78).bind fun q79 =>
                          (f_X11_number q79 (p0 + (2 : Int32)) (0 : Int32) (9999 : Int32)).bind fun q81 =>
                            some (q81.1, q81.2)
                      else none
                    else
                      if (f_X11_isSign q75.2 (62 : Int32)) = true then
                        if zin (p0 + (5 : Int32)) 2200 = true then
                          z_lt (z2 q75.2 1 ((p0 + (5 : Int32))).toNatClampNeg (q75.2 0 15)) fun I84 =>
                          (f_X11_ahead I84).bind fun q85 =>
                            (f_X11_number q85 (p0 + (2 : Int32)) (0 : Int32) (9999 : Int32)).bind fun q87 =>
                              some (q87.1, q87.2)
                        else none
                      else
                        if (f_X11_isSign q75.2 (61 : Int32)) = true then
                          if zin (p0 + (5 : Int32)) 2200 = true then
                            z_lt (z2 q75.2 1 ((p0 + (5 : Int32))).toNatClampNeg (q75.2 0 15)) fun I90 =>
                            (f_X11_ahead I90).bind fun q91 =>
                              (f_X11_number q91 (p0 + (2 : Int32)) (0 : Int32) (9999 : Int32)).bind fun q93 =>
                                some (q93.1, q93.2)
                          else none
                        else
                          some ((f_X11_fails q75.2 (2 : Int32)).1, (f_X11_fails q75.2 (2 : Int32)).2)
                  else
                    some (false, q75.2)
        else none
      else
        if q1 = (22 : Int32) then
          if zin p0 2200 = true then
            z_lt (z2 I 1 (p0).toNatClampNeg ((1800 : Int32) + q1)) fun I96 =>
            (f_X11_ahead I96).bind fun q97 =>
              if q1 = (22 : Int32) then
                (f_X11_claimTo q97 L (p0 + (1 : Int32))).bind fun q99 =>
                  some (q99.1, q99.2)
              else
                if q1 = (11 : Int32) then
                  (f_X11_scholarTo q97 L (p0 + (1 : Int32))).bind fun q101 =>
                    if q101.1 = true then
                      if (f_X11_isSign q101.2 (60 : Int32)) = true then
                        if zin (p0 + (5 : Int32)) 2200 = true then
                          z_lt (z2 q101.2 1 ((p0 + (5 : Int32))).toNatClampNeg (q101.2 0 15)) fun I104 =>
                          (f_X11_ahead I104).bind fun q105 =>
                            (f_X11_number q105 (p0 + (2 : Int32)) (0 : Int32) (9999 : Int32)).bind fun q107 =>
                              some (q107.1, q107.2)
                        else none
                      else
                        if (f_X11_isSign q101.2 (62 : Int32)) = true then
                          if zin (p0 + (5 : Int32)) 2200 = true then
                            z_lt (z2 q101.2 1 ((p0 + (5 : Int32))).toNatClampNeg (q101.2 0 15)) fun I110 =>
                            (f_X11_ahead I110).bind fun q111 =>
                              (f_X11_number q111 (p0 + (2 : Int32)) (0 : Int32) (9999 : Int32)).bind fun q113 =>
                                some (q113.1, q113.2)
                          else none
                        else
                          if (f_X11_isSign q101.2 (61 : Int32)) = true then
                            if zin (p0 + (5 : Int32)) 2200 = true then
                              z_lt (z2 q101.2 1 ((p0 + (5 : Int32))).toNatClampNeg (q101.2 0 15)) fun I116 =>
                              (f_X11_ahead I116).bind fun q117 =>
                                (f_X11_number q117 (p0 + (2 : Int32)) (0 : Int32) (9999 : Int32)).bind fun q119 =>
                                  some (q119.1, q119.2)
                            else none
                          else
                            some ((f_X11_fails q101.2 (2 : Int32)).1, (f_X11_fails q101.2 (2 : Int32)).2)
                    else
                      some (false, q101.2)
                else
                  (f_X11_bedTo q97 (p0 + (1 : Int32))).bind fun q121 =>
                    if q121.1 = true then
                      if (f_X11_isSign q121.2 (60 : Int32)) = true then
                        if zin (p0 + (5 : Int32)) 2200 = true then
                          z_lt (z2 q121.2 1 ((p0 + (5 : Int32))).toNatClampNeg (q121.2 0 15)) fun I124 =>
                          (f_X11_ahead I124).bind fun q125 =>
                            (f_X11_number q125 (p0 + (2 : Int32)) (0 : Int32) (9999 : Int32)).bind fun q127 =>
                              some (q127.1, q127.2)
                        else none
                      else
                        if (f_X11_isSign q121.2 (62 : Int32)) = true then
                          if zin (p0 + (5 : Int32)) 2200 = true then
                            z_lt (z2 q121.2 1 ((p0 + (5 : Int32))).toNatClampNeg (q121.2 0 15)) fun I130 =>
                            (f_X11_ahead I130).bind fun q131 =>
                              (f_X11_number q131 (p0 + (2 : Int32)) (0 : Int32) (9999 : Int32)).bind fun q133 =>
                                some (q133.1, q133.2)
                          else none
                        else
                          if (f_X11_isSign q121.2 (61 : Int32)) = true then
                            if zin (p0 + (5 : Int32)) 2200 = true then
                              z_lt (z2 q121.2 1 ((p0 + (5 : Int32))).toNatClampNeg (q121.2 0 15)) fun I136 =>
                              (f_X11_ahead I136).bind fun q137 =>
                                (f_X11_number q137 (p0 + (2 : Int32)) (0 : Int32) (9999 : Int32)).bind fun q139 =>
                                  some (q139.1, q139.2)
                            else none
                          else
                            some ((f_X11_fails q121.2 (2 : Int32)).1, (f_X11_fails q121.2 (2 : Int32)).2)
                    else
                      some (false, q121.2)
          else none
        else
          some ((f_X11_fails I (2 : Int32)).1, (f_X11_fails I (2 : Int32)).2)
def f_X11_termOrder (I : z_I) (L : z_L) (p0 : Int32) (p1 : Int32) : Option (Bool × z_I) :=
  if p0 = (12) then
    (f_X11_claimTo I L (p1 + (1 : Int32))).bind fun q1 =>
      some (q1.1, q1.2)
  else
    if p0 = (13) then
      (f_X11_scholarTo I L (p1 + (1 : Int32))).bind fun q4 =>
        if q4.1 = true then
          (f_X11_bedTo q4.2 (p1 + (2 : Int32))).bind fun q6 =>
            if q6.1 = true then
              some (true, q6.2)
            else
              some (false, q6.2)
        else
          some (false, q4.2)
    else
      if p0 = (14) then
        (f_X11_scholarTo I L (p1 + (1 : Int32))).bind fun q9 =>
          some (q9.1, q9.2)
      else
        if p0 = (15) then
          (f_X11_number I (p1 + (1 : Int32)) (1 : Int32) (40 : Int32)).bind fun q12 =>
            some (q12.1, q12.2)
        else
          if p0 = (16) then
            some (true, I)
          else
            if p0 = (17) then
              some (true, I)
            else
              if p0 = (18) then
                (f_X11_test I L p1).bind fun q17 =>
                  some (q17.1, q17.2)
              else
                if p0 = (19) then
                  (f_X11_number I (p1 + (1 : Int32)) (1 : Int32) (99 : Int32)).bind fun q20 =>
                    some (q20.1, q20.2)
                else
                  some (true, I)
def g_X11_termStep_147 (v1 : Int32) (v2 : Int32) (v3 : Int32) (v4 : Int32) (L : z_L) (k170 : z_I → Option (Bool × z_I)) : Nat → Int32 → z_I → Option (Bool × z_I)
  | 0, _, _ => none
  | n + 1, v5, I =>
    if (6 : Int32) ≤ v5 then
      k170 I
    else
      if zin (v3 + v5) 2200 = true then
        z_lt (z2 I 1 ((v3 + v5)).toNatClampNeg (0 : Int32)) fun I9 =>
        g_X11_termStep_147 v1 v2 v3 v4 L k170 n (v5 + (1 : Int32)) I9
      else none
def f_X11_termStep (I : z_I) (L : z_L)  : Option (Bool × z_I) :=
  (f_X11_inWords I).bind fun q1 =>
    z_lt ((1772 : Int32) + ((6 : Int32) * (I 1 1719))) fun w4 =>
    if q1 = (18 : Int32) then
      if q1 < (12 : Int32) then
        some ((f_X11_fails I (2 : Int32)).1, (f_X11_fails I (2 : Int32)).2)
      else
        if (21 : Int32) < q1 then
          some ((f_X11_fails I (2 : Int32)).1, (f_X11_fails I (2 : Int32)).2)
        else
          if q1 = (20 : Int32) then
            if (I 0 22) = 0 then
              some ((f_X11_fails I (2 : Int32)).1, (f_X11_fails I (2 : Int32)).2)
            else
              if q1 = (20 : Int32) then
                if (I 0 22) = (3 : Int32) then
                  some ((f_X11_fails I (7 : Int32)).1, (f_X11_fails I (7 : Int32)).2)
                else
                  if q1 = (20 : Int32) then
                    z_lt (z2 I 0 23 ((I 0 23) + (0 : Int32))) fun I5 =>
                    if zin w4 2200 = true then
                      z_lt (z2 I5 1 (w4).toNatClampNeg q1) fun I7 =>
                      g_X11_termStep_147 q1 (I 1 1719) w4 (1 : Int32) L
                        (fun I_10 =>
                          z_lt (z2 I_10 1 1719 ((I_10 1 1719) + (1 : Int32))) fun I13 =>
                          (f_X11_ahead I13).bind fun q14 =>
                            (f_X11_termOrder q14 L q1 w4).bind fun q16 =>
                              if q16.1 = true then
                                if zin (q16.2 0 22) 3 = true then
                                  z_lt (z2 q16.2 8 ((q16.2 0 22)).toNatClampNeg (I 1 1719)) fun I19 =>
                                  z_lt (z2 I19 0 22 ((q16.2 0 22) + (1 : Int32))) fun I20 =>
                                  if q1 = (20 : Int32) then
                                    z_lt (z2 I20 0 22 (((q16.2 0 22) + (1 : Int32)) - (1 : Int32))) fun I21 =>
                                    if zin (((q16.2 0 22) + (1 : Int32)) - (1 : Int32)) 3 = true then
                                      if zin (w4 + (4 : Int32)) 2200 = true then
                                        z_lt (z2 I21 1 ((w4 + (4 : Int32))).toNatClampNeg (I19 8 ((((q16.2 0 22) + (1 : Int32)) - (1 : Int32))).toNatClampNeg)) fun I24 =>
                                        if zin (((1772 : Int32) + ((6 : Int32) * (I19 8 ((((q16.2 0 22) + (1 : Int32)) - (1 : Int32))).toNatClampNeg))) + (4 : Int32)) 2200 = true then
                                          z_lt (z2 I24 1 ((((1772 : Int32) + ((6 : Int32) * (I19 8 ((((q16.2 0 22) + (1 : Int32)) - (1 : Int32))).toNatClampNeg))) + (4 : Int32))).toNatClampNeg (I 1 1719)) fun I27 =>
                                          (f_X11_wantSign I27 (59 : Int32)).bind fun q28 =>
                                            some (q28.1, q28.2)
                                        else none
                                      else none
                                    else none
                                  else
                                    (f_X11_wantSign I20 (59 : Int32)).bind fun q30 =>
                                      some (q30.1, q30.2)
                                else none
                              else
                                some (false, q16.2)) z_fuel (1 : Int32) I7
                    else none
                  else
                    z_lt (z2 I 0 23 ((I 0 23) + (1 : Int32))) fun I32 =>
                    if zin w4 2200 = true then
                      z_lt (z2 I32 1 (w4).toNatClampNeg q1) fun I34 =>
                      g_X11_termStep_147 q1 (I 1 1719) w4 (1 : Int32) L
                        (fun I_35 =>
                          z_lt (z2 I_35 1 1719 ((I_35 1 1719) + (1 : Int32))) fun I38 =>
                          (f_X11_ahead I38).bind fun q39 =>
                            (f_X11_termOrder q39 L q1 w4).bind fun q41 =>
                              if q41.1 = true then
                                if zin (q41.2 0 22) 3 = true then
                                  z_lt (z2 q41.2 8 ((q41.2 0 22)).toNatClampNeg (I 1 1719)) fun I44 =>
                                  z_lt (z2 I44 0 22 ((q41.2 0 22) + (1 : Int32))) fun I45 =>
                                  if q1 = (20 : Int32) then
                                    z_lt (z2 I45 0 22 (((q41.2 0 22) + (1 : Int32)) - (1 : Int32))) fun I46 =>
                                    if zin (((q41.2 0 22) + (1 : Int32)) - (1 : Int32)) 3 = true then
                                      if zin (w4 + (4 : Int32)) 2200 = true then
                                        z_lt (z2 I46 1 ((w4 + (4 : Int32))).toNatClampNeg (I44 8 ((((q41.2 0 22) + (1 : Int32)) - (1 : Int32))).toNatClampNeg)) fun I49 =>
                                        if zin (((1772 : Int32) + ((6 : Int32) * (I44 8 ((((q41.2 0 22) + (1 : Int32)) - (1 : Int32))).toNatClampNeg))) + (4 : Int32)) 2200 = true then
                                          z_lt (z2 I49 1 ((((1772 : Int32) + ((6 : Int32) * (I44 8 ((((q41.2 0 22) + (1 : Int32)) - (1 : Int32))).toNatClampNeg))) + (4 : Int32))).toNatClampNeg (I 1 1719)) fun I52 =>
                                          (f_X11_wantSign I52 (59 : Int32)).bind fun q53 =>
                                            some (q53.1, q53.2)
                                        else none
                                      else none
                                    else none
                                  else
                                    (f_X11_wantSign I45 (59 : Int32)).bind fun q55 =>
                                      some (q55.1, q55.2)
                                else none
                              else
                                some (false, q41.2)) z_fuel (1 : Int32) I34
                    else none
              else
                if (I 0 23) = (30 : Int32) then
                  some ((f_X11_fails I (6 : Int32)).1, (f_X11_fails I (6 : Int32)).2)
                else
                  if (I 0 22) = (3 : Int32) then
                    some ((f_X11_fails I (7 : Int32)).1, (f_X11_fails I (7 : Int32)).2)
                  else
                    if q1 = (20 : Int32) then
                      z_lt (z2 I 0 23 ((I 0 23) + (0 : Int32))) fun I57 =>
                      if zin w4 2200 = true then
                        z_lt (z2 I57 1 (w4).toNatClampNeg q1) fun I59 =>
                        g_X11_termStep_147 q1 (I 1 1719) w4 (1 : Int32) L
                          (fun I_60 =>
                            z_lt (z2 I_60 1 1719 ((I_60 1 1719) + (1 : Int32))) fun I63 =>
                            (f_X11_ahead I63).bind fun q64 =>
                              (f_X11_termOrder q64 L q1 w4).bind fun q66 =>
                                if q66.1 = true then
                                  if zin (q66.2 0 22) 3 = true then
                                    z_lt (z2 q66.2 8 ((q66.2 0 22)).toNatClampNeg (I 1 1719)) fun I69 =>
                                    z_lt (z2 I69 0 22 ((q66.2 0 22) + (1 : Int32))) fun I70 =>
                                    if q1 = (20 : Int32) then
                                      z_lt (z2 I70 0 22 (((q66.2 0 22) + (1 : Int32)) - (1 : Int32))) fun I71 =>
                                      if zin (((q66.2 0 22) + (1 : Int32)) - (1 : Int32)) 3 = true then
                                        if zin (w4 + (4 : Int32)) 2200 = true then
                                          z_lt (z2 I71 1 ((w4 + (4 : Int32))).toNatClampNeg (I69 8 ((((q66.2 0 22) + (1 : Int32)) - (1 : Int32))).toNatClampNeg)) fun I74 =>
                                          if zin (((1772 : Int32) + ((6 : Int32) * (I69 8 ((((q66.2 0 22) + (1 : Int32)) - (1 : Int32))).toNatClampNeg))) + (4 : Int32)) 2200 = true then
                                            z_lt (z2 I74 1 ((((1772 : Int32) + ((6 : Int32) * (I69 8 ((((q66.2 0 22) + (1 : Int32)) - (1 : Int32))).toNatClampNeg))) + (4 : Int32))).toNatClampNeg (I 1 1719)) fun I77 =>
                                            (f_X11_wantSign I77 (59 : Int32)).bind fun q78 =>
                                              some (q78.1, q78.2)
                                          else none
                                        else none
                                      else none
                                    else
                                      (f_X11_wantSign I70 (59 : Int32)).bind fun q80 =>
                                        some (q80.1, q80.2)
                                  else none
                                else
                                  some (false, q66.2)) z_fuel (1 : Int32) I59
                      else none
                    else
                      z_lt (z2 I 0 23 ((I 0 23) + (1 : Int32))) fun I82 =>
                      if zin w4 2200 = true then
                        z_lt (z2 I82 1 (w4).toNatClampNeg q1) fun I84 =>
                        g_X11_termStep_147 q1 (I 1 1719) w4 (1 : Int32) L
                          (fun I_85 =>
                            z_lt (z2 I_85 1 1719 ((I_85 1 1719) + (1 : Int32))) fun I88 =>
                            (f_X11_ahead I88).bind fun q89 =>
                              (f_X11_termOrder q89 L q1 w4).bind fun q91 =>
                                if q91.1 = true then
                                  if zin (q91.2 0 22) 3 = true then
                                    z_lt (z2 q91.2 8 ((q91.2 0 22)).toNatClampNeg (I 1 1719)) fun I94 =>
                                    z_lt (z2 I94 0 22 ((q91.2 0 22) + (1 : Int32))) fun I95 =>
                                    if q1 = (20 : Int32) then
                                      z_lt (z2 I95 0 22 (((q91.2 0 22) + (1 : Int32)) - (1 : Int32))) fun I96 =>
                                      if zin (((q91.2 0 22) + (1 : Int32)) - (1 : Int32)) 3 = true then
                                        if zin (w4 + (4 : Int32)) 2200 = true then
                                          z_lt (z2 I96 1 ((w4 + (4 : Int32))).toNatClampNeg (I94 8 ((((q91.2 0 22) + (1 : Int32)) - (1 : Int32))).toNatClampNeg)) fun I99 =>
                                          if zin (((1772 : Int32) + ((6 : Int32) * (I94 8 ((((q91.2 0 22) + (1 : Int32)) - (1 : Int32))).toNatClampNeg))) + (4 : Int32)) 2200 = true then
                                            z_lt (z2 I99 1 ((((1772 : Int32) + ((6 : Int32) * (I94 8 ((((q91.2 0 22) + (1 : Int32)) - (1 : Int32))).toNatClampNeg))) + (4 : Int32))).toNatClampNeg (I 1 1719)) fun I102 =>
                                            (f_X11_wantSign I102 (59 : Int32)).bind fun q103 =>
                                              some (q103.1, q103.2)
                                          else none
                                        else none
                                      else none
                                    else
                                      (f_X11_wantSign I95 (59 : Int32)).bind fun q105 =>
                                        some (q105.1, q105.2)
                                  else none
                                else
                                  some (false, q91.2)) z_fuel (1 : Int32) I84
                      else none
          else
            if q1 = (20 : Int32) then
              if (I 0 22) = (3 : Int32) then
                some ((f_X11_fails I (7 : Int32)).1, (f_X11_fails I (7 : Int32)).2)
              else
                if q1 = (20 : Int32) then
                  z_lt (z2 I 0 23 ((I 0 23) + (0 : Int32))) fun I107 =>
                  if zin w4 2200 = true then
                    z_lt (z2 I107 1 (w4).toNatClampNeg q1) fun I109 =>
                    g_X11_termStep_147 q1 (I 1 1719) w4 (1 : Int32) L
                      (fun I_110 =>
                        z_lt (z2 I_110 1 1719 ((I_110 1 1719) + (1 : Int32))) fun I113 =>
                        (f_X11_ahead I113).bind fun q114 =>
                          (f_X11_termOrder q114 L q1 w4).bind fun q116 =>
                            if q116.1 = true then
                              if zin (q116.2 0 22) 3 = true then
                                z_lt (z2 q116.2 8 ((q116.2 0 22)).toNatClampNeg (I 1 1719)) fun I119 =>
                                z_lt (z2 I119 0 22 ((q116.2 0 22) + (1 : Int32))) fun I120 =>
                                if q1 = (20 : Int32) then
                                  z_lt (z2 I120 0 22 (((q116.2 0 22) + (1 : Int32)) - (1 : Int32))) fun I121 =>
                                  if zin (((q116.2 0 22) + (1 : Int32)) - (1 : Int32)) 3 = true then
                                    if zin (w4 + (4 : Int32)) 2200 = true then
                                      z_lt (z2 I121 1 ((w4 + (4 : Int32))).toNatClampNeg (I119 8 ((((q116.2 0 22) + (1 : Int32)) - (1 : Int32))).toNatClampNeg)) fun I124 =>
                                      if zin (((1772 : Int32) + ((6 : Int32) * (I119 8 ((((q116.2 0 22) + (1 : Int32)) - (1 : Int32))).toNatClampNeg))) + (4 : Int32)) 2200 = true then
                                        z_lt (z2 I124 1 ((((1772 : Int32) + ((6 : Int32) * (I119 8 ((((q116.2 0 22) + (1 : Int32)) - (1 : Int32))).toNatClampNeg))) + (4 : Int32))).toNatClampNeg (I 1 1719)) fun I127 =>
                                        (f_X11_wantSign I127 (59 : Int32)).bind fun q128 =>
                                          some (q128.1, q128.2)
                                      else none
                                    else none
                                  else none
                                else
                                  (f_X11_wantSign I120 (59 : Int32)).bind fun q130 =>
                                    some (q130.1, q130.2)
                              else none
                            else
                              some (false, q116.2)) z_fuel (1 : Int32) I109
                  else none
                else
                  z_lt (z2 I 0 23 ((I 0 23) + (1 : Int32))) fun I132 =>
                  if zin w4 2200 = true then
                    z_lt (z2 I132 1 (w4).toNatClampNeg q1) fun I134 =>
                    g_X11_termStep_147 q1 (I 1 1719) w4 (1 : Int32) L
                      (fun I_135 =>
                        z_lt (z2 I_135 1 1719 ((I_135 1 1719) + (1 : Int32))) fun I138 =>
                        (f_X11_ahead I138).bind fun q139 =>
                          (f_X11_termOrder q139 L q1 w4).bind fun q141 =>
                            if q141.1 = true then
                              if zin (q141.2 0 22) 3 = true then
                                z_lt (z2 q141.2 8 ((q141.2 0 22)).toNatClampNeg (I 1 1719)) fun I144 =>
                                z_lt (z2 I144 0 22 ((q141.2 0 22) + (1 : Int32))) fun I145 =>
                                if q1 = (20 : Int32) then
                                  z_lt (z2 I145 0 22 (((q141.2 0 22) + (1 : Int32)) - (1 : Int32))) fun I146 =>
                                  if zin (((q141.2 0 22) + (1 : Int32)) - (1 : Int32)) 3 = true then
                                    if zin (w4 + (4 : Int32)) 2200 = true then
                                      z_lt (z2 I146 1 ((w4 + (4 : Int32))).toNatClampNeg (I144 8 ((((q141.2 0 22) + (1 : Int32)) - (1 : Int32))).toNatClampNeg)) fun I149 =>
                                      if zin (((1772 : Int32) + ((6 : Int32) * (I144 8 ((((q141.2 0 22) + (1 : Int32)) - (1 : Int32))).toNatClampNeg))) + (4 : Int32)) 2200 = true then
                                        z_lt (z2 I149 1 ((((1772 : Int32) + ((6 : Int32) * (I144 8 ((((q141.2 0 22) + (1 : Int32)) - (1 : Int32))).toNatClampNeg))) + (4 : Int32))).toNatClampNeg (I 1 1719)) fun I152 =>
                                        (f_X11_wantSign I152 (59 : Int32)).bind fun q153 =>
                                          some (q153.1, q153.2)
                                      else none
                                    else none
                                  else none
                                else
                                  (f_X11_wantSign I145 (59 : Int32)).bind fun q155 =>
                                    some (q155.1, q155.2)
                              else none
                            else
                              some (false, q141.2)) z_fuel (1 : Int32) I134
                  else none
            else
              if (I 0 23) = (30 : Int32) then
                some ((f_X11_fails I (6 : Int32)).1, (f_X11_fails I (6 : Int32)).2)
              else
                if (I 0 22) = (3 : Int32) then
                  some ((f_X11_fails I (7 : Int32)).1, (f_X11_fails I (7 : Int32)).2)
                else
                  if q1 = (20 : Int32) then
                    z_lt (z2 I 0 23 ((I 0 23) + (0 : Int32))) fun I157 =>
                    if zin w4 2200 = true then
                      z_lt (z2 I157 1 (w4).toNatClampNeg q1) fun I159 =>
                      g_X11_termStep_147 q1 (I 1 1719) w4 (1 : Int32) L
                        (fun I_160 =>
                          z_lt (z2 I_160 1 1719 ((I_160 1 1719) + (1 : Int32))) fun I163 =>
                          (f_X11_ahead I163).bind fun q164 =>
                            (f_X11_termOrder q164 L q1 w4).bind fun q166 =>
                              if q166.1 = true then
                                if zin (q166.2 0 22) 3 = true then
                                  z_lt (z2 q166.2 8 ((q166.2 0 22)).toNatClampNeg (I 1 1719)) fun I169 =>
                                  z_lt (z2 I169 0 22 ((q166.2 0 22) + (1 : Int32))) fun I170 =>
                                  if q1 = (20 : Int32) then
                                    z_lt (z2 I170 0 22 (((q166.2 0 22) + (1 : Int32)) - (1 : Int32))) fun I171 =>
                                    if zin (((q166.2 0 22) + (1 : Int32)) - (1 : Int32)) 3 = true then
                                      if zin (w4 + (4 : Int32)) 2200 = true then
                                        z_lt (z2 I171 1 ((w4 + (4 : Int32))).toNatClampNeg (I169 8 ((((q166.2 0 22) + (1 : Int32)) - (1 : Int32))).toNatClampNeg)) fun I174 =>
                                        if zin (((1772 : Int32) + ((6 : Int32) * (I169 8 ((((q166.2 0 22) + (1 : Int32)) - (1 : Int32))).toNatClampNeg))) + (4 : Int32)) 2200 = true then
                                          z_lt (z2 I174 1 ((((1772 : Int32) + ((6 : Int32) * (I169 8 ((((q166.2 0 22) + (1 : Int32)) - (1 : Int32))).toNatClampNeg))) + (4 : Int32))).toNatClampNeg (I 1 1719)) fun I177 =>
                                          (f_X11_wantSign I177 (59 : Int32)).bind fun q178 =>
                                            some (q178.1, q178.2)
                                        else none
                                      else none
                                    else none
                                  else
                                    (f_X11_wantSign I170 (59 : Int32)).bind fun q180 =>
                                      some (q180.1, q180.2)
                                else none
                              else
                                some (false, q166.2)) z_fuel (1 : Int32) I159
                    else none
                  else
                    z_lt (z2 I 0 23 ((I 0 23) + (1 : Int32))) fun I182 =>
                    if zin w4 2200 = true then
                      z_lt (z2 I182 1 (w4).toNatClampNeg q1) fun I184 =>
                      g_X11_termStep_147 q1 (I 1 1719) w4 (1 : Int32) L
                        (fun I_185 =>
                          z_lt (z2 I_185 1 1719 ((I_185 1 1719) + (1 : Int32))) fun I188 =>
                          (f_X11_ahead I188).bind fun q189 =>
                            (f_X11_termOrder q189 L q1 w4).bind fun q191 =>
                              if q191.1 = true then
                                if zin (q191.2 0 22) 3 = true then
                                  z_lt (z2 q191.2 8 ((q191.2 0 22)).toNatClampNeg (I 1 1719)) fun I194 =>
                                  z_lt (z2 I194 0 22 ((q191.2 0 22) + (1 : Int32))) fun I195 =>
                                  if q1 = (20 : Int32) then
                                    z_lt (z2 I195 0 22 (((q191.2 0 22) + (1 : Int32)) - (1 : Int32))) fun I196 =>
                                    if zin (((q191.2 0 22) + (1 : Int32)) - (1 : Int32)) 3 = true then
                                      if zin (w4 + (4 : Int32)) 2200 = true then
                                        z_lt (z2 I196 1 ((w4 + (4 : Int32))).toNatClampNeg (I194 8 ((((q191.2 0 22) + (1 : Int32)) - (1 : Int32))).toNatClampNeg)) fun I199 =>
                                        if zin (((1772 : Int32) + ((6 : Int32) * (I194 8 ((((q191.2 0 22) + (1 : Int32)) - (1 : Int32))).toNatClampNeg))) + (4 : Int32)) 2200 = true then
                                          z_lt (z2 I199 1 ((((1772 : Int32) + ((6 : Int32) * (I194 8 ((((q191.2 0 22) + (1 : Int32)) - (1 : Int32))).toNatClampNeg))) + (4 : Int32))).toNatClampNeg (I 1 1719)) fun I202 =>
                                          (f_X11_wantSign I202 (59 : Int32)).bind fun q203 =>
                                            some (q203.1, q203.2)
                                        else none
                                      else none
                                    else none
                                  else
                                    (f_X11_wantSign I195 (59 : Int32)).bind fun q205 =>
                                      some (q205.1, q205.2)
                                else none
                              else
                                some (false, q191.2)) z_fuel (1 : Int32) I184
                    else none
    else
      if q1 = (19 : Int32) then
        if q1 < (12 : Int32) then
          some ((f_X11_fails I (2 : Int32)).1, (f_X11_fails I (2 : Int32)).2)
        else
          if (21 : Int32) < q1 then
            some ((f_X11_fails I (2 : Int32)).1, (f_X11_fails I (2 : Int32)).2)
          else
            if q1 = (20 : Int32) then
              if (I 0 22) = 0 then
                some ((f_X11_fails I (2 : Int32)).1, (f_X11_fails I (2 : Int32)).2)
              else
                if q1 = (20 : Int32) then
                  if (I 0 22) = (3 : Int32) then
                    some ((f_X11_fails I (7 : Int32)).1, (f_X11_fails I (7 : Int32)).2)
                  else
                    if q1 = (20 : Int32) then
                      z_lt (z2 I 0 23 ((I 0 23) + (0 : Int32))) fun I207 =>
                      if zin w4 2200 = true then
                        z_lt (z2 I207 1 (w4).toNatClampNeg q1) fun I209 =>
                        g_X11_termStep_147 q1 (I 1 1719) w4 (1 : Int32) L
                          (fun I_210 =>
                            z_lt (z2 I_210 1 1719 ((I_210 1 1719) + (1 : Int32))) fun I213 =>
                            (f_X11_ahead I213).bind fun q214 =>
                              (f_X11_termOrder q214 L q1 w4).bind fun q216 =>
                                if q216.1 = true then
                                  if zin (q216.2 0 22) 3 = true then
                                    z_lt (z2 q216.2 8 ((q216.2 0 22)).toNatClampNeg (I 1 1719)) fun I219 =>
                                    z_lt (z2 I219 0 22 ((q216.2 0 22) + (1 : Int32))) fun I220 =>
                                    if q1 = (20 : Int32) then
                                      z_lt (z2 I220 0 22 (((q216.2 0 22) + (1 : Int32)) - (1 : Int32))) fun I221 =>
                                      if zin (((q216.2 0 22) + (1 : Int32)) - (1 : Int32)) 3 = true then
                                        if zin (w4 + (4 : Int32)) 2200 = true then
                                          z_lt (z2 I221 1 ((w4 + (4 : Int32))).toNatClampNeg (I219 8 ((((q216.2 0 22) + (1 : Int32)) - (1 : Int32))).toNatClampNeg)) fun I224 =>
                                          if zin (((1772 : Int32) + ((6 : Int32) * (I219 8 ((((q216.2 0 22) + (1 : Int32)) - (1 : Int32))).toNatClampNeg))) + (4 : Int32)) 2200 = true then
                                            z_lt (z2 I224 1 ((((1772 : Int32) + ((6 : Int32) * (I219 8 ((((q216.2 0 22) + (1 : Int32)) - (1 : Int32))).toNatClampNeg))) + (4 : Int32))).toNatClampNeg (I 1 1719)) fun I227 =>
                                            (f_X11_wantSign I227 (59 : Int32)).bind fun q228 =>
                                              some (q228.1, q228.2)
                                          else none
                                        else none
                                      else none
                                    else
                                      (f_X11_wantSign I220 (59 : Int32)).bind fun q230 =>
                                        some (q230.1, q230.2)
                                  else none
                                else
                                  some (false, q216.2)) z_fuel (1 : Int32) I209
                      else none
                    else
                      z_lt (z2 I 0 23 ((I 0 23) + (1 : Int32))) fun I232 =>
                      if zin w4 2200 = true then
                        z_lt (z2 I232 1 (w4).toNatClampNeg q1) fun I234 =>
                        g_X11_termStep_147 q1 (I 1 1719) w4 (1 : Int32) L
                          (fun I_235 =>
                            z_lt (z2 I_235 1 1719 ((I_235 1 1719) + (1 : Int32))) fun I238 =>
                            (f_X11_ahead I238).bind fun q239 =>
                              (f_X11_termOrder q239 L q1 w4).bind fun q241 =>
                                if q241.1 = true then
                                  if zin (q241.2 0 22) 3 = true then
                                    z_lt (z2 q241.2 8 ((q241.2 0 22)).toNatClampNeg (I 1 1719)) fun I244 =>
                                    z_lt (z2 I244 0 22 ((q241.2 0 22) + (1 : Int32))) fun I245 =>
                                    if q1 = (20 : Int32) then
                                      z_lt (z2 I245 0 22 (((q241.2 0 22) + (1 : Int32)) - (1 : Int32))) fun I246 =>
                                      if zin (((q241.2 0 22) + (1 : Int32)) - (1 : Int32)) 3 = true then
                                        if zin (w4 + (4 : Int32)) 2200 = true then
                                          z_lt (z2 I246 1 ((w4 + (4 : Int32))).toNatClampNeg (I244 8 ((((q241.2 0 22) + (1 : Int32)) - (1 : Int32))).toNatClampNeg)) fun I249 =>
                                          if zin (((1772 : Int32) + ((6 : Int32) * (I244 8 ((((q241.2 0 22) + (1 : Int32)) - (1 : Int32))).toNatClampNeg))) + (4 : Int32)) 2200 = true then
                                            z_lt (z2 I249 1 ((((1772 : Int32) + ((6 : Int32) * (I244 8 ((((q241.2 0 22) + (1 : Int32)) - (1 : Int32))).toNatClampNeg))) + (4 : Int32))).toNatClampNeg (I 1 1719)) fun I252 =>
                                            (f_X11_wantSign I252 (59 : Int32)).bind fun q253 =>
                                              some (q253.1, q253.2)
                                          else none
                                        else none
                                      else none
                                    else
                                      (f_X11_wantSign I245 (59 : Int32)).bind fun q255 =>
                                        some (q255.1, q255.2)
                                  else none
                                else
                                  some (false, q241.2)) z_fuel (1 : Int32) I234
                      else none
                else
                  if (I 0 23) = (30 : Int32) then
                    some ((f_X11_fails I (6 : Int32)).1, (f_X11_fails I (6 : Int32)).2)
                  else
                    if (I 0 22) = (3 : Int32) then
                      some ((f_X11_fails I (7 : Int32)).1, (f_X11_fails I (7 : Int32)).2)
                    else
                      if q1 = (20 : Int32) then
                        z_lt (z2 I 0 23 ((I 0 23) + (0 : Int32))) fun I257 =>
                        if zin w4 2200 = true then
                          z_lt (z2 I257 1 (w4).toNatClampNeg q1) fun I259 =>
                          g_X11_termStep_147 q1 (I 1 1719) w4 (1 : Int32) L
                            (fun I_260 =>
                              z_lt (z2 I_260 1 1719 ((I_260 1 1719) + (1 : Int32))) fun I263 =>
                              (f_X11_ahead I263).bind fun q264 =>
                                (f_X11_termOrder q264 L q1 w4).bind fun q266 =>
                                  if q266.1 = true then
                                    if zin (q266.2 0 22) 3 = true then
                                      z_lt (z2 q266.2 8 ((q266.2 0 22)).toNatClampNeg (I 1 1719)) fun I269 =>
                                      z_lt (z2 I269 0 22 ((q266.2 0 22) + (1 : Int32))) fun I270 =>
                                      if q1 = (20 : Int32) then
                                        z_lt (z2 I270 0 22 (((q266.2 0 22) + (1 : Int32)) - (1 : Int32))) fun I271 =>
                                        if zin (((q266.2 0 22) + (1 : Int32)) - (1 : Int32)) 3 = true then
                                          if zin (w4 + (4 : Int32)) 2200 = true then
                                            z_lt (z2 I271 1 ((w4 + (4 : Int32))).toNatClampNeg (I269 8 ((((q266.2 0 22) + (1 : Int32)) - (1 : Int32))).toNatClampNeg)) fun I274 =>
                                            if zin (((1772 : Int32) + ((6 : Int32) * (I269 8 ((((q266.2 0 22) + (1 : Int32)) - (1 : Int32))).toNatClampNeg))) + (4 : Int32)) 2200 = true then
                                              z_lt (z2 I274 1 ((((1772 : Int32) + ((6 : Int32) * (I269 8 ((((q266.2 0 22) + (1 : Int32)) - (1 : Int32))).toNatClampNeg))) + (4 : Int32))).toNatClampNeg (I 1 1719)) fun I277 =>
                                              (f_X11_wantSign I277 (59 : Int32)).bind fun q278 =>
                                                some (q278.1, q278.2)
                                            else none
                                          else none
                                        else none
                                      else
                                        (f_X11_wantSign I270 (59 : Int32)).bind fun q280 =>
                                          some (q280.1, q280.2)
                                    else none
                                  else
                                    some (false, q266.2)) z_fuel (1 : Int32) I259
                        else none
                      else
                        z_lt (z2 I 0 23 ((I 0 23) + (1 : Int32))) fun I282 =>
                        if zin w4 2200 = true then
                          z_lt (z2 I282 1 (w4).toNatClampNeg q1) fun I284 =>
                          g_X11_termStep_147 q1 (I 1 1719) w4 (1 : Int32) L
                            (fun I_285 =>
                              z_lt (z2 I_285 1 1719 ((I_285 1 1719) + (1 : Int32))) fun I288 =>
                              (f_X11_ahead I288).bind fun q289 =>
                                (f_X11_termOrder q289 L q1 w4).bind fun q291 =>
                                  if q291.1 = true then
                                    if zin (q291.2 0 22) 3 = true then
                                      z_lt (z2 q291.2 8 ((q291.2 0 22)).toNatClampNeg (I 1 1719)) fun I294 =>
                                      z_lt (z2 I294 0 22 ((q291.2 0 22) + (1 : Int32))) fun I295 =>
                                      if q1 = (20 : Int32) then
                                        z_lt (z2 I295 0 22 (((q291.2 0 22) + (1 : Int32)) - (1 : Int32))) fun I296 =>
                                        if zin (((q291.2 0 22) + (1 : Int32)) - (1 : Int32)) 3 = true then
                                          if zin (w4 + (4 : Int32)) 2200 = true then
                                            z_lt (z2 I296 1 ((w4 + (4 : Int32))).toNatClampNeg (I294 8 ((((q291.2 0 22) + (1 : Int32)) - (1 : Int32))).toNatClampNeg)) fun I299 =>
                                            if zin (((1772 : Int32) + ((6 : Int32) * (I294 8 ((((q291.2 0 22) + (1 : Int32)) - (1 : Int32))).toNatClampNeg))) + (4 : Int32)) 2200 = true then
                                              z_lt (z2 I299 1 ((((1772 : Int32) + ((6 : Int32) * (I294 8 ((((q291.2 0 22) + (1 : Int32)) - (1 : Int32))).toNatClampNeg))) + (4 : Int32))).toNatClampNeg (I 1 1719)) fun I302 =>
                                              (f_X11_wantSign I302 (59 : Int32)).bind fun q303 =>
                                                some (q303.1, q303.2)
                                            else none
                                          else none
                                        else none
                                      else
                                        (f_X11_wantSign I295 (59 : Int32)).bind fun q305 =>
                                          some (q305.1, q305.2)
                                    else none
                                  else
                                    some (false, q291.2)) z_fuel (1 : Int32) I284
                        else none
            else
              if q1 = (20 : Int32) then
                if (I 0 22) = (3 : Int32) then
                  some ((f_X11_fails I (7 : Int32)).1, (f_X11_fails I (7 : Int32)).2)
                else
                  if q1 = (20 : Int32) then
                    z_lt (z2 I 0 23 ((I 0 23) + (0 : Int32))) fun I307 =>
                    if zin w4 2200 = true then
                      z_lt (z2 I307 1 (w4).toNatClampNeg q1) fun I309 =>
                      g_X11_termStep_147 q1 (I 1 1719) w4 (1 : Int32) L
                        (fun I_310 =>
                          z_lt (z2 I_310 1 1719 ((I_310 1 1719) + (1 : Int32))) fun I313 =>
                          (f_X11_ahead I313).bind fun q314 =>
                            (f_X11_termOrder q314 L q1 w4).bind fun q316 =>
                              if q316.1 = true then
                                if zin (q316.2 0 22) 3 = true then
                                  z_lt (z2 q316.2 8 ((q316.2 0 22)).toNatClampNeg (I 1 1719)) fun I319 =>
                                  z_lt (z2 I319 0 22 ((q316.2 0 22) + (1 : Int32))) fun I320 =>
                                  if q1 = (20 : Int32) then
                                    z_lt (z2 I320 0 22 (((q316.2 0 22) + (1 : Int32)) - (1 : Int32))) fun I321 =>
                                    if zin (((q316.2 0 22) + (1 : Int32)) - (1 : Int32)) 3 = true then
                                      if zin (w4 + (4 : Int32)) 2200 = true then
                                        z_lt (z2 I321 1 ((w4 + (4 : Int32))).toNatClampNeg (I319 8 ((((q316.2 0 22) + (1 : Int32)) - (1 : Int32))).toNatClampNeg)) fun I324 =>
                                        if zin (((1772 : Int32) + ((6 : Int32) * (I319 8 ((((q316.2 0 22) + (1 : Int32)) - (1 : Int32))).toNatClampNeg))) + (4 : Int32)) 2200 = true then
                                          z_lt (z2 I324 1 ((((1772 : Int32) + ((6 : Int32) * (I319 8 ((((q316.2 0 22) + (1 : Int32)) - (1 : Int32))).toNatClampNeg))) + (4 : Int32))).toNatClampNeg (I 1 1719)) fun I327 =>
                                          (f_X11_wantSign I327 (59 : Int32)).bind fun q328 =>
                                            some (q328.1, q328.2)
                                        else none
                                      else none
                                    else none
                                  else
                                    (f_X11_wantSign I320 (59 : Int32)).bind fun q330 =>
                                      some (q330.1, q330.2)
                                else none
                              else
                                some (false, q316.2)) z_fuel (1 : Int32) I309
                    else none
                  else
                    z_lt (z2 I 0 23 ((I 0 23) + (1 : Int32))) fun I332 =>
                    if zin w4 2200 = true then
                      z_lt (z2 I332 1 (w4).toNatClampNeg q1) fun I334 =>
                      g_X11_termStep_147 q1 (I 1 1719) w4 (1 : Int32) L
                        (fun I_335 =>
                          z_lt (z2 I_335 1 1719 ((I_335 1 1719) + (1 : Int32))) fun I338 =>
                          (f_X11_ahead I338).bind fun q339 =>
                            (f_X11_termOrder q339 L q1 w4).bind fun q341 =>
                              if q341.1 = true then
                                if zin (q341.2 0 22) 3 = true then
                                  z_lt (z2 q341.2 8 ((q341.2 0 22)).toNatClampNeg (I 1 1719)) fun I344 =>
                                  z_lt (z2 I344 0 22 ((q341.2 0 22) + (1 : Int32))) fun I345 =>
                                  if q1 = (20 : Int32) then
                                    z_lt (z2 I345 0 22 (((q341.2 0 22) + (1 : Int32)) - (1 : Int32))) fun I346 =>
                                    if zin (((q341.2 0 22) + (1 : Int32)) - (1 : Int32)) 3 = true then
                                      if zin (w4 + (4 : Int32)) 2200 = true then
                                        z_lt (z2 I346 1 ((w4 + (4 : Int32))).toNatClampNeg (I344 8 ((((q341.2 0 22) + (1 : Int32)) - (1 : Int32))).toNatClampNeg)) fun I349 =>
                                        if zin (((1772 : Int32) + ((6 : Int32) * (I344 8 ((((q341.2 0 22) + (1 : Int32)) - (1 : Int32))).toNatClampNeg))) + (4 : Int32)) 2200 = true then
                                          z_lt (z2 I349 1 ((((1772 : Int32) + ((6 : Int32) * (I344 8 ((((q341.2 0 22) + (1 : Int32)) - (1 : Int32))).toNatClampNeg))) + (4 : Int32))).toNatClampNeg (I 1 1719)) fun I352 =>
                                          (f_X11_wantSign I352 (59 : Int32)).bind fun q353 =>
                                            some (q353.1, q353.2)
                                        else none
                                      else none
                                    else none
                                  else
                                    (f_X11_wantSign I345 (59 : Int32)).bind fun q355 =>
                                      some (q355.1, q355.2)
                                else none
                              else
                                some (false, q341.2)) z_fuel (1 : Int32) I334
                    else none
              else
                if (I 0 23) = (30 : Int32) then
                  some ((f_X11_fails I (6 : Int32)).1, (f_X11_fails I (6 : Int32)).2)
                else
                  if (I 0 22) = (3 : Int32) then
                    some ((f_X11_fails I (7 : Int32)).1, (f_X11_fails I (7 : Int32)).2)
                  else
                    if q1 = (20 : Int32) then
                      z_lt (z2 I 0 23 ((I 0 23) + (0 : Int32))) fun I357 =>
                      if zin w4 2200 = true then
                        z_lt (z2 I357 1 (w4).toNatClampNeg q1) fun I359 =>
                        g_X11_termStep_147 q1 (I 1 1719) w4 (1 : Int32) L
                          (fun I_360 =>
                            z_lt (z2 I_360 1 1719 ((I_360 1 1719) + (1 : Int32))) fun I363 =>
                            (f_X11_ahead I363).bind fun q364 =>
                              (f_X11_termOrder q364 L q1 w4).bind fun q366 =>
                                if q366.1 = true then
                                  if zin (q366.2 0 22) 3 = true then
                                    z_lt (z2 q366.2 8 ((q366.2 0 22)).toNatClampNeg (I 1 1719)) fun I369 =>
                                    z_lt (z2 I369 0 22 ((q366.2 0 22) + (1 : Int32))) fun I370 =>
                                    if q1 = (20 : Int32) then
                                      z_lt (z2 I370 0 22 (((q366.2 0 22) + (1 : Int32)) - (1 : Int32))) fun I371 =>
                                      if zin (((q366.2 0 22) + (1 : Int32)) - (1 : Int32)) 3 = true then
                                        if zin (w4 + (4 : Int32)) 2200 = true then
                                          z_lt (z2 I371 1 ((w4 + (4 : Int32))).toNatClampNeg (I369 8 ((((q366.2 0 22) + (1 : Int32)) - (1 : Int32))).toNatClampNeg)) fun I374 =>
                                          if zin (((1772 : Int32) + ((6 : Int32) * (I369 8 ((((q366.2 0 22) + (1 : Int32)) - (1 : Int32))).toNatClampNeg))) + (4 : Int32)) 2200 = true then
                                            z_lt (z2 I374 1 ((((1772 : Int32) + ((6 : Int32) * (I369 8 ((((q366.2 0 22) + (1 : Int32)) - (1 : Int32))).toNatClampNeg))) + (4 : Int32))).toNatClampNeg (I 1 1719)) fun I377 =>
                                            (f_X11_wantSign I377 (59 : Int32)).bind fun q378 =>
                                              some (q378.1, q378.2)
                                          else none
                                        else none
                                      else none
                                    else
                                      (f_X11_wantSign I370 (59 : Int32)).bind fun q380 =>
                                        some (q380.1, q380.2)
                                  else none
                                else
                                  some (false, q366.2)) z_fuel (1 : Int32) I359
                      else none
                    else
                      z_lt (z2 I 0 23 ((I 0 23) + (1 : Int32))) fun I382 =>
                      if zin w4 2200 = true then
                        z_lt (z2 I382 1 (w4).toNatClampNeg q1) fun I384 =>
                        g_X11_termStep_147 q1 (I 1 1719) w4 (1 : Int32) L
                          (fun I_385 =>
                            z_lt (z2 I_385 1 1719 ((I_385 1 1719) + (1 : Int32))) fun I388 =>
                            (f_X11_ahead I388).bind fun q389 =>
                              (f_X11_termOrder q389 L q1 w4).bind fun q391 =>
                                if q391.1 = true then
                                  if zin (q391.2 0 22) 3 = true then
                                    z_lt (z2 q391.2 8 ((q391.2 0 22)).toNatClampNeg (I 1 1719)) fun I394 =>
                                    z_lt (z2 I394 0 22 ((q391.2 0 22) + (1 : Int32))) fun I395 =>
                                    if q1 = (20 : Int32) then
                                      z_lt (z2 I395 0 22 (((q391.2 0 22) + (1 : Int32)) - (1 : Int32))) fun I396 =>
                                      if zin (((q391.2 0 22) + (1 : Int32)) - (1 : Int32)) 3 = true then
                                        if zin (w4 + (4 : Int32)) 2200 = true then
                                          z_lt (z2 I396 1 ((w4 + (4 : Int32))).toNatClampNeg (I394 8 ((((q391.2 0 22) + (1 : Int32)) - (1 : Int32))).toNatClampNeg)) fun I399 =>
                                          if zin (((1772 : Int32) + ((6 : Int32) * (I394 8 ((((q391.2 0 22) + (1 : Int32)) - (1 : Int32))).toNatClampNeg))) + (4 : Int32)) 2200 = true then
                                            z_lt (z2 I399 1 ((((1772 : Int32) + ((6 : Int32) * (I394 8 ((((q391.2 0 22) + (1 : Int32)) - (1 : Int32))).toNatClampNeg))) + (4 : Int32))).toNatClampNeg (I 1 1719)) fun I402 =>
                                            (f_X11_wantSign I402 (59 : Int32)).bind fun q403 =>
                                              some (q403.1, q403.2)
                                          else none
                                        else none
                                      else none
                                    else
                                      (f_X11_wantSign I395 (59 : Int32)).bind fun q405 =>
                                        some (q405.1, q405.2)
                                  else none
                                else
                                  some (false, q391.2)) z_fuel (1 : Int32) I384
                      else none
      else
        if q1 < (12 : Int32) then
          some ((f_X11_fails I (2 : Int32)).1, (f_X11_fails I (2 : Int32)).2)
        else
          if (21 : Int32) < q1 then
            some ((f_X11_fails I (2 : Int32)).1, (f_X11_fails I (2 : Int32)).2)
          else
            if q1 = (20 : Int32) then
              if (I 0 22) = 0 then
                some ((f_X11_fails I (2 : Int32)).1, (f_X11_fails I (2 : Int32)).2)
              else
                if q1 = (20 : Int32) then
                  if q1 = (20 : Int32) then
                    z_lt (z2 I 0 23 ((I 0 23) + (0 : Int32))) fun I407 =>
                    if zin w4 2200 = true then
                      z_lt (z2 I407 1 (w4).toNatClampNeg q1) fun I409 =>
                      g_X11_termStep_147 q1 (I 1 1719) w4 (0 : Int32) L
                        (fun I_410 =>
                          z_lt (z2 I_410 1 1719 ((I_410 1 1719) + (1 : Int32))) fun I413 =>
                          (f_X11_ahead I413).bind fun q414 =>
                            (f_X11_termOrder q414 L q1 w4).bind fun q416 =>
                              if q416.1 = true then
                                if q1 = (20 : Int32) then
                                  z_lt (z2 q416.2 0 22 ((q416.2 0 22) - (1 : Int32))) fun I418 =>
                                  if zin ((q416.2 0 22) - (1 : Int32)) 3 = true then
                                    if zin (w4 + (4 : Int32)) 2200 = true then
                                      z_lt (z2 I418 1 ((w4 + (4 : Int32))).toNatClampNeg (q416.2 8 (((q416.2 0 22) - (1 : Int32))).toNatClampNeg)) fun I421 =>
                                      if zin (((1772 : Int32) + ((6 : Int32) * (q416.2 8 (((q416.2 0 22) - (1 : Int32))).toNatClampNeg))) + (4 : Int32)) 2200 = true then
                                        z_lt (z2 I421 1 ((((1772 : Int32) + ((6 : Int32) * (q416.2 8 (((q416.2 0 22) - (1 : Int32))).toNatClampNeg))) + (4 : Int32))).toNatClampNeg (I 1 1719)) fun I424 =>
                                        (f_X11_wantSign I424 (59 : Int32)).bind fun q425 =>
                                          some (q425.1, q425.2)
                                      else none
                                    else none
                                  else none
                                else
                                  (f_X11_wantSign q416.2 (59 : Int32)).bind fun q427 =>
                                    some (q427.1, q427.2)
                              else
                                some (false, q416.2)) z_fuel (1 : Int32) I409
                    else none
                  else
                    z_lt (z2 I 0 23 ((I 0 23) + (1 : Int32))) fun I429 =>
                    if zin w4 2200 = true then
                      z_lt (z2 I429 1 (w4).toNatClampNeg q1) fun I431 =>
                      g_X11_termStep_147 q1 (I 1 1719) w4 (0 : Int32) L
                        (fun I_432 =>
                          z_lt (z2 I_432 1 1719 ((I_432 1 1719) + (1 : Int32))) fun I435 =>
                          (f_X11_ahead I435).bind fun q436 =>
                            (f_X11_termOrder q436 L q1 w4).bind fun q438 =>
                              if q438.1 = true then
                                if q1 = (20 : Int32) then
                                  z_lt (z2 q438.2 0 22 ((q438.2 0 22) - (1 : Int32))) fun I440 =>
                                  if zin ((q438.2 0 22) - (1 : Int32)) 3 = true then
                                    if zin (w4 + (4 : Int32)) 2200 = true then
                                      z_lt (z2 I440 1 ((w4 + (4 : Int32))).toNatClampNeg (q438.2 8 (((q438.2 0 22) - (1 : Int32))).toNatClampNeg)) fun I443 =>
                                      if zin (((1772 : Int32) + ((6 : Int32) * (q438.2 8 (((q438.2 0 22) - (1 : Int32))).toNatClampNeg))) + (4 : Int32)) 2200 = true then
                                        z_lt (z2 I443 1 ((((1772 : Int32) + ((6 : Int32) * (q438.2 8 (((q438.2 0 22) - (1 : Int32))).toNatClampNeg))) + (4 : Int32))).toNatClampNeg (I 1 1719)) fun I446 =>
                                        (f_X11_wantSign I446 (59 : Int32)).bind fun q447 =>
                                          some (q447.1, q447.2)
                                      else none
                                    else none
                                  else none
                                else
                                  (f_X11_wantSign q438.2 (59 : Int32)).bind fun q449 =>
                                    some (q449.1, q449.2)
                              else
                                some (false, q438.2)) z_fuel (1 : Int32) I431
                    else none
                else
                  if (I 0 23) = (30 : Int32) then
                    some ((f_X11_fails I (6 : Int32)).1, (f_X11_fails I (6 : Int32)).2)
                  else
                    if q1 = (20 : Int32) then
                      z_lt (z2 I 0 23 ((I 0 23) + (0 : Int32))) fun I451 =>
                      if zin w4 2200 = true then
                        z_lt (z2 I451 1 (w4).toNatClampNeg q1) fun I453 =>
                        g_X11_termStep_147 q1 (I 1 1719) w4 (0 : Int32) L
                          (fun I_454 =>
                            z_lt (z2 I_454 1 1719 ((I_454 1 1719) + (1 : Int32))) fun I457 =>
                            (f_X11_ahead I457).bind fun q458 =>
                              (f_X11_termOrder q458 L q1 w4).bind fun q460 =>
                                if q460.1 = true then
                                  if q1 = (20 : Int32) then
                                    z_lt (z2 q460.2 0 22 ((q460.2 0 22) - (1 : Int32))) fun I462 =>
                                    if zin ((q460.2 0 22) - (1 : Int32)) 3 = true then
                                      if zin (w4 + (4 : Int32)) 2200 = true then
                                        z_lt (z2 I462 1 ((w4 + (4 : Int32))).toNatClampNeg (q460.2 8 (((q460.2 0 22) - (1 : Int32))).toNatClampNeg)) fun I465 =>
                                        if zin (((1772 : Int32) + ((6 : Int32) * (q460.2 8 (((q460.2 0 22) - (1 : Int32))).toNatClampNeg))) + (4 : Int32)) 2200 = true then
                                          z_lt (z2 I465 1 ((((1772 : Int32) + ((6 : Int32) * (q460.2 8 (((q460.2 0 22) - (1 : Int32))).toNatClampNeg))) + (4 : Int32))).toNatClampNeg (I 1 1719)) fun I468 =>
                                          (f_X11_wantSign I468 (59 : Int32)).bind fun q469 =>
                                            some (q469.1, q469.2)
                                        else none
                                      else none
                                    else none
                                  else
                                    (f_X11_wantSign q460.2 (59 : Int32)).bind fun q471 =>
                                      some (q471.1, q471.2)
                                else
                                  some (false, q460.2)) z_fuel (1 : Int32) I453
                      else none
                    else
                      z_lt (z2 I 0 23 ((I 0 23) + (1 : Int32))) fun I473 =>
                      if zin w4 2200 = true then
                        z_lt (z2 I473 1 (w4).toNatClampNeg q1) fun I475 =>
                        g_X11_termStep_147 q1 (I 1 1719) w4 (0 : Int32) L
                          (fun I_476 =>
                            z_lt (z2 I_476 1 1719 ((I_476 1 1719) + (1 : Int32))) fun I479 =>
                            (f_X11_ahead I479).bind fun q480 =>
                              (f_X11_termOrder q480 L q1 w4).bind fun q482 =>
                                if q482.1 = true then
                                  if q1 = (20 : Int32) then
                                    z_lt (z2 q482.2 0 22 ((q482.2 0 22) - (1 : Int32))) fun I484 =>
                                    if zin ((q482.2 0 22) - (1 : Int32)) 3 = true then
                                      if zin (w4 + (4 : Int32)) 2200 = true then
                                        z_lt (z2 I484 1 ((w4 + (4 : Int32))).toNatClampNeg (q482.2 8 (((q482.2 0 22) - (1 : Int32))).toNatClampNeg)) fun I487 =>
                                        if zin (((1772 : Int32) + ((6 : Int32) * (q482.2 8 (((q482.2 0 22) - (1 : Int32))).toNatClampNeg))) + (4 : Int32)) 2200 = true then
                                          z_lt (z2 I487 1 ((((1772 : Int32) + ((6 : Int32) * (q482.2 8 (((q482.2 0 22) - (1 : Int32))).toNatClampNeg))) + (4 : Int32))).toNatClampNeg (I 1 1719)) fun I490 =>
                                          (f_X11_wantSign I490 (59 : Int32)).bind fun q491 =>
                                            some (q491.1, q491.2)
                                        else none
                                      else none
                                    else none
                                  else
                                    (f_X11_wantSign q482.2 (59 : Int32)).bind fun q493 =>
                                      some (q493.1, q493.2)
                                else
                                  some (false, q482.2)) z_fuel (1 : Int32) I475
                      else none
            else
              if q1 = (20 : Int32) then
                if q1 = (20 : Int32) then
                  z_lt (z2 I 0 23 ((I 0 23) + (0 : Int32))) fun I495 =>
                  if zin w4 2200 = true then
                    z_lt (z2 I495 1 (w4).toNatClampNeg q1) fun I497 =>
                    g_X11_termStep_147 q1 (I 1 1719) w4 (0 : Int32) L
                      (fun I_498 =>
                        z_lt (z2 I_498 1 1719 ((I_498 1 1719) + (1 : Int32))) fun I501 =>
                        (f_X11_ahead I501).bind fun q502 =>
                          (f_X11_termOrder q502 L q1 w4).bind fun q504 =>
                            if q504.1 = true then
                              if q1 = (20 : Int32) then
                                z_lt (z2 q504.2 0 22 ((q504.2 0 22) - (1 : Int32))) fun I506 =>
                                if zin ((q504.2 0 22) - (1 : Int32)) 3 = true then
                                  if zin (w4 + (4 : Int32)) 2200 = true then
                                    z_lt (z2 I506 1 ((w4 + (4 : Int32))).toNatClampNeg (q504.2 8 (((q504.2 0 22) - (1 : Int32))).toNatClampNeg)) fun I509 =>
                                    if zin (((1772 : Int32) + ((6 : Int32) * (q504.2 8 (((q504.2 0 22) - (1 : Int32))).toNatClampNeg))) + (4 : Int32)) 2200 = true then
                                      z_lt (z2 I509 1 ((((1772 : Int32) + ((6 : Int32) * (q504.2 8 (((q504.2 0 22) - (1 : Int32))).toNatClampNeg))) + (4 : Int32))).toNatClampNeg (I 1 1719)) fun I512 =>
                                      (f_X11_wantSign I512 (59 : Int32)).bind fun q513 =>
                                        some (q513.1, q513.2)
                                    else none
                                  else none
                                else none
                              else
                                (f_X11_wantSign q504.2 (59 : Int32)).bind fun q515 =>
                                  some (q515.1, q515.2)
                            else
                              some (false, q504.2)) z_fuel (1 : Int32) I497
                  else none
                else
                  z_lt (z2 I 0 23 ((I 0 23) + (1 : Int32))) fun I517 =>
                  if zin w4 2200 = true then
                    z_lt (z2 I517 1 (w4).toNatClampNeg q1) fun I519 =>
                    g_X11_termStep_147 q1 (I 1 1719) w4 (0 : Int32) L
                      (fun I_520 =>
                        z_lt (z2 I_520 1 1719 ((I_520 1 1719) + (1 : Int32))) fun I523 =>
                        (f_X11_ahead I523).bind fun q524 =>
                          (f_X11_termOrder q524 L q1 w4).bind fun q526 =>
                            if q526.1 = true then
                              if q1 = (20 : Int32) then
                                z_lt (z2 q526.2 0 22 ((q526.2 0 22) - (1 : Int32))) fun I528 =>
                                if zin ((q526.2 0 22) - (1 : Int32)) 3 = true then
                                  if zin (w4 + (4 : Int32)) 2200 = true then
                                    z_lt (z2 I528 1 ((w4 + (4 : Int32))).toNatClampNeg (q526.2 8 (((q526.2 0 22) - (1 : Int32))).toNatClampNeg)) fun I531 =>
                                    if zin (((1772 : Int32) + ((6 : Int32) * (q526.2 8 (((q526.2 0 22) - (1 : Int32))).toNatClampNeg))) + (4 : Int32)) 2200 = true then
                                      z_lt (z2 I531 1 ((((1772 : Int32) + ((6 : Int32) * (q526.2 8 (((q526.2 0 22) - (1 : Int32))).toNatClampNeg))) + (4 : Int32))).toNatClampNeg (I 1 1719)) fun I534 =>
                                      (f_X11_wantSign I534 (59 : Int32)).bind fun q535 =>
                                        some (q535.1, q535.2)
                                    else none
                                  else none
                                else none
                              else
                                (f_X11_wantSign q526.2 (59 : Int32)).bind fun q537 =>
                                  some (q537.1, q537.2)
                            else
                              some (false, q526.2)) z_fuel (1 : Int32) I519
                  else none
              else
                if (I 0 23) = (30 : Int32) then
                  some ((f_X11_fails I (6 : Int32)).1, (f_X11_fails I (6 : Int32)).2)
                else
                  if q1 = (20 : Int32) then
                    z_lt (z2 I 0 23 ((I 0 23) + (0 : Int32))) fun I539 =>
                    if zin w4 2200 = true then
                      z_lt (z2 I539 1 (w4).toNatClampNeg q1) fun I541 =>
                      g_X11_termStep_147 q1 (I 1 1719) w4 (0 : Int32) L
                        (fun I_542 =>
                          z_lt (z2 I_542 1 1719 ((I_542 1 1719) + (1 : Int32))) fun I545 =>
                          (f_X11_ahead I545).bind fun q546 =>
                            (f_X11_termOrder q546 L q1 w4).bind fun q548 =>
                              if q548.1 = true then
                                if q1 = (20 : Int32) then
                                  z_lt (z2 q548.2 0 22 ((q548.2 0 22) - (1 : Int32))) fun I550 =>
                                  if zin ((q548.2 0 22) - (1 : Int32)) 3 = true then
                                    if zin (w4 + (4 : Int32)) 2200 = true then
                                      z_lt (z2 I550 1 ((w4 + (4 : Int32))).toNatClampNeg (q548.2 8 (((q548.2 0 22) - (1 : Int32))).toNatClampNeg)) fun I553 =>
                                      if zin (((1772 : Int32) + ((6 : Int32) * (q548.2 8 (((q548.2 0 22) - (1 : Int32))).toNatClampNeg))) + (4 : Int32)) 2200 = true then
                                        z_lt (z2 I553 1 ((((1772 : Int32) + ((6 : Int32) * (q548.2 8 (((q548.2 0 22) - (1 : Int32))).toNatClampNeg))) + (4 : Int32))).toNatClampNeg (I 1 1719)) fun I556 =>
                                        (f_X11_wantSign I556 (59 : Int32)).bind fun q557 =>
                                          some (q557.1, q557.2)
                                      else none
                                    else none
                                  else none
                                else
                                  (f_X11_wantSign q548.2 (59 : Int32)).bind fun q559 =>
                                    some (q559.1, q559.2)
                              else
                                some (false, q548.2)) z_fuel (1 : Int32) I541
                    else none
                  else
                    z_lt (z2 I 0 23 ((I 0 23) + (1 : Int32))) fun I561 =>
                    if zin w4 2200 = true then
                      z_lt (z2 I561 1 (w4).toNatClampNeg q1) fun I563 =>
                      g_X11_termStep_147 q1 (I 1 1719) w4 (0 : Int32) L
                        (fun I_564 =>
                          z_lt (z2 I_564 1 1719 ((I_564 1 1719) + (1 : Int32))) fun I567 =>
                          (f_X11_ahead I567).bind fun q568 =>
                            (f_X11_termOrder q568 L q1 w4).bind fun q570 =>
                              if q570.1 = true then
                                if q1 = (20 : Int32) then
                                  z_lt (z2 q570.2 0 22 ((q570.2 0 22) - (1 : Int32))) fun I572 =>
                                  if zin ((q570.2 0 22) - (1 : Int32)) 3 = true then
                                    if zin (w4 + (4 : Int32)) 2200 = true then
                                      z_lt (z2 I572 1 ((w4 + (4 : Int32))).toNatClampNeg (q570.2 8 (((q570.2 0 22) - (1 : Int32))).toNatClampNeg)) fun I575 =>
                                      if zin (((1772 : Int32) + ((6 : Int32) * (q570.2 8 (((q570.2 0 22) - (1 : Int32))).toNatClampNeg))) + (4 : Int32)) 2200 = true then
                                        z_lt (z2 I575 1 ((((1772 : Int32) + ((6 : Int32) * (q570.2 8 (((q570.2 0 22) - (1 : Int32))).toNatClampNeg))) + (4 : Int32))).toNatClampNeg (I 1 1719)) fun I578 =>
                                        (f_X11_wantSign I578 (59 : Int32)).bind fun q579 =>
                                          some (q579.1, q579.2)
                                      else none
                                    else none
                                  else none
                                else
                                  (f_X11_wantSign q570.2 (59 : Int32)).bind fun q581 =>
                                    some (q581.1, q581.2)
                              else
                                some (false, q570.2)) z_fuel (1 : Int32) I563
                    else none
def g_X11_terms_38 (L : z_L) (k57 : z_I → Option (Int32 × z_I)) : Nat → Bool → z_I → Option (Int32 × z_I)
  | 0, _, _ => none
  | n + 1, v2, I =>
    if v2 = true then
      if (I 0 12) = 0 then
        k57 I
      else
        (f_X11_termStep I L).bind fun q7 =>
          g_X11_terms_38 L k57 n q7.1 q7.2
    else
      k57 I
def g_X11_terms_102 (L : z_L)  : Nat → Int32 → z_I → Option (Int32 × z_I)
  | 0, _, _ => none
  | n + 1, v3, I =>
    if (420 : Int32) ≤ v3 then
      some ((f_X11_taken I (I 0 23)).1, (f_X11_taken I (I 0 23)).2)
    else
      if zin ((1712 : Int32) + v3) 2200 = true then
        if zin v3 2200 = true then
          z_lt (z2 I 1 (v3).toNatClampNeg (I 1 (((1712 : Int32) + v3)).toNatClampNeg)) fun I15 =>
          g_X11_terms_102 L  n (v3 + (1 : Int32)) I15
        else none
      else none
def f_X11_terms (I : z_I) (L : z_L) (p0 : Int32) : Option (Int32 × z_I) :=
  (f_X11_begins I p0 (300 : Int32)).bind fun q1 =>
    if q1.1 = true then
      z_lt (z2 q1.2 1 1719 (0 : Int32)) fun I4 =>
      z_lt (z2 I4 0 22 (0 : Int32)) fun I5 =>
      z_lt (z2 I5 0 23 (0 : Int32)) fun I6 =>
      g_X11_terms_38 L
        (fun I_9 =>
          if (I_9 0 18) = 0 then
            if (I_9 0 22) ≤ 0 then
              if (I_9 0 18) = 0 then
                z_lt (z2 I_9 1 7 (I_9 1 1719)) fun I12 =>
                g_X11_terms_102 L z_fuel (60 : Int32) I12
              else
                some ((f_X11_taken I_9 (I_9 0 23)).1, (f_X11_taken I_9 (I_9 0 23)).2)
            else
              if ((f_X11_fails I_9 (2 : Int32)).2 0 18) = 0 then
                z_lt (z2 (f_X11_fails I_9 (2 : Int32)).2 1 7 ((f_X11_fails I_9 (2 : Int32)).2 1 1719)) fun I18 =>
                g_X11_terms_102 L z_fuel (60 : Int32) I18
              else
                some ((f_X11_taken (f_X11_fails I_9 (2 : Int32)).2 ((f_X11_fails I_9 (2 : Int32)).2 0 23)).1, (f_X11_taken (f_X11_fails I_9 (2 : Int32)).2 ((f_X11_fails I_9 (2 : Int32)).2 0 23)).2)
          else
            if (I_9 0 18) = 0 then
              z_lt (z2 I_9 1 7 (I_9 1 1719)) fun I21 =>
              g_X11_terms_102 L z_fuel (60 : Int32) I21
            else
              some ((f_X11_taken I_9 (I_9 0 23)).1, (f_X11_taken I_9 (I_9 0 23)).2)) z_fuel true I6
    else
      some ((f_X11_refuse q1.2 (1 : Int32)).1, (f_X11_refuse q1.2 (1 : Int32)).2)
def f_X11_isBed (I : z_I) (p0 : Int32) : Bool :=
  if p0 < 0 then
    false
  else
    if (I 1 0) ≤ p0 then
      false
    else
      true
def f_X11_isCase (I : z_I) (p0 : Int32) : Bool :=
  if p0 < 0 then
    false
  else
    if (I 1 1) ≤ p0 then
      false
    else
      true
def f_X11_isClaim (I : z_I) (p0 : Int32) : Bool :=
  if p0 < 0 then
    false
  else
    if (I 1 2) ≤ p0 then
      false
    else
      true
def f_X11_isScholar (I : z_I) (p0 : Int32) : Bool :=
  if p0 < 0 then
    false
  else
    if (I 1 3) ≤ p0 then
      false
    else
      true
def f_X11_allCases (I : z_I)  : Int32 :=
  (((1 : Int32) <<< ((I 1 1) &&& 31)) - (1 : Int32))
def f_X11_areCases (I : z_I) (p0 : Int64) : Bool :=
  (f_X11_isFrom p0 (0 : Int64) ((f_X11_allCases I).toInt64))
def g_X11_bits_4   : Nat → Int32 → Int32 → Option (Int32)
  | 0, _, _ => none
  | n + 1, v1, v2 =>
    if v2 = 0 then
      some v1
    else
      g_X11_bits_4   n (v1 + (1 : Int32)) (v2 &&& (v2 - (1 : Int32)))
def f_X11_bits  (p0 : Int32) : Option (Int32) :=
  g_X11_bits_4  z_fuel (0 : Int32) p0
def f_X11_truthOf (I : z_I) (p0 : Int32) : Option (Int32) :=
  if zin ((f_X11_claimRow p0) + (2 : Int32)) 2200 = true then
    some (I 1 (((f_X11_claimRow p0) + (2 : Int32))).toNatClampNeg)
  else none
def g_X11_weightOf_4 (v1 : Int32) (I : z_I)  : Nat → Int32 → Int32 → Option (Int32)
  | 0, _, _ => none
  | n + 1, v2, v3 =>
    if (I 1 1) ≤ v3 then
      some v2
    else
      if (f_X11_isIn v1 v3) = true then
        if zin ((22 : Int32) + v3) 2200 = true then
          z_lt (v2 + (I 1 (((22 : Int32) + v3)).toNatClampNeg)) fun w3 =>
          g_X11_weightOf_4 v1 I  n w3 (v3 + (1 : Int32))
        else none
      else
        g_X11_weightOf_4 v1 I  n (v2 + (0 : Int32)) (v3 + (1 : Int32))
def f_X11_weightOf (I : z_I) (p0 : Int32) : Option (Int32) :=
  g_X11_weightOf_4 p0 I z_fuel (0 : Int32) (0 : Int32)
def g_X11_partBy_8 (v1 : Int32) (v2 : Int32) (I : z_I)  : Nat → Int32 → Int32 → Option (Int32)
  | 0, _, _ => none
  | n + 1, v3, v4 =>
    if (I 1 2) ≤ v4 then
      some v3
    else
      if (f_X11_isIn v2 v4) = true then
        (f_X11_truthOf I v4).bind fun q2 =>
          if (f_X11_isIn q2 v1) = true then
            (f_X11_truthOf I v4).bind fun q4 =>
              g_X11_partBy_8 v1 v2 I  n (v3 &&& q4) (v4 + (1 : Int32))
          else
            (f_X11_truthOf I v4).bind fun q6 =>
              g_X11_partBy_8 v1 v2 I  n (v3 &&& (q6 ^^^ (-1 : Int32))) (v4 + (1 : Int32))
      else
        g_X11_partBy_8 v1 v2 I  n v3 (v4 + (1 : Int32))
def f_X11_partBy (I : z_I) (p0 : Int32) (p1 : Int32) : Option (Int32) :=
  g_X11_partBy_8 p0 p1 I z_fuel (f_X11_allCases I) (0 : Int32)
def f_X11_isFirst (I : z_I) (p0 : Int32) (p1 : Int32) : Option (Bool) :=
  (f_X11_partBy I p0 p1).bind fun q1 =>
    if (q1 &&& (((1 : Int32) <<< (p0 &&& 31)) - (1 : Int32))) = 0 then
      some true
    else
      some false
def g_X11_partsBy_4 (v1 : Int32) (I : z_I)  : Nat → Int32 → Int32 → Option (Int32)
  | 0, _, _ => none
  | n + 1, v2, v3 =>
    if (I 1 1) ≤ v3 then
      some v2
    else
      (f_X11_isFirst I v3 v1).bind fun q2 =>
        if q2 = true then
          g_X11_partsBy_4 v1 I  n (v2 + (1 : Int32)) (v3 + (1 : Int32))
        else
          g_X11_partsBy_4 v1 I  n (v2 + (0 : Int32)) (v3 + (1 : Int32))
def f_X11_partsBy (I : z_I) (p0 : Int32) : Option (Int32) :=
  g_X11_partsBy_4 p0 I z_fuel (0 : Int32) (0 : Int32)
def g_X11_yieldBy_16 (v1 : Int32) (v2 : Int32) (I : z_I)  : Nat → Int32 → Int32 → Option (Int32)
  | 0, _, _ => none
  | n + 1, v3, v4 =>
    if (I 1 1) ≤ v4 then
      some v3
    else
      (f_X11_isFirst I v4 v2).bind fun q2 =>
        if q2 = true then
          (f_X11_partBy I v4 v2).bind fun q4 =>
            (f_X11_truthOf I v1).bind fun q6 =>
              (f_X11_bits (q4 &&& q6)).bind fun q8 =>
                (f_X11_truthOf I v1).bind fun q10 =>
                  (f_X11_bits (q4 &&& (q10 ^^^ (-1 : Int32)))).bind fun q12 =>
                    g_X11_yieldBy_16 v1 v2 I  n (v3 + ((3 : Int32) * (z_min q8 q12))) (v4 + (1 : Int32))
        else
          (f_X11_truthOf I v1).bind fun q14 =>
            (f_X11_bits ((0 : Int32) &&& q14)).bind fun q16 =>
              (f_X11_truthOf I v1).bind fun q18 =>
                (f_X11_bits ((0 : Int32) &&& (q18 ^^^ (-1 : Int32)))).bind fun q20 =>
                  g_X11_yieldBy_16 v1 v2 I  n (v3 + ((3 : Int32) * (z_min q16 q20))) (v4 + (1 : Int32))
def f_X11_yieldBy (I : z_I) (p0 : Int32) (p1 : Int32) : Option (Int32) :=
  if (f_X11_isIn p1 p0) = true then
    some (0 : Int32)
  else
    g_X11_yieldBy_16 p0 p1 I z_fuel (0 : Int32) (0 : Int32)
def g_X11_together_9 (I : z_I)  : Nat → Int32 → Int32 → Option (Int32)
  | 0, _, _ => none
  | n + 1, v2, v3 =>
    if (I 1 3) ≤ v3 then
      some v2
    else
      if zin ((f_X11_scholarRow v3) + (1 : Int32)) 2200 = true then
        z_lt (v2 + (I 1 (((f_X11_scholarRow v3) + (1 : Int32))).toNatClampNeg)) fun w3 =>
        g_X11_together_9 I  n w3 (v3 + (1 : Int32))
      else none
def g_X11_together_44 (v1 : Int32) (I : z_I)  : Nat → Int32 → Int32 → Option (Int32)
  | 0, _, _ => none
  | n + 1, v2, v3 =>
    if (I 1 0) ≤ v3 then
      some v2
    else
      if zin ((f_X11_bedRow v3) + v1) 2200 = true then
        z_lt (v2 + (I 1 (((f_X11_bedRow v3) + v1)).toNatClampNeg)) fun w6 =>
        g_X11_together_44 v1 I  n w6 (v3 + (1 : Int32))
      else none
def f_X11_together (I : z_I) (p0 : Int32) : Option (Int32) :=
  if p0 = (2 : Int32) then
    g_X11_together_9 I z_fuel (0 : Int32) (0 : Int32)
  else
    g_X11_together_44 p0 I z_fuel (0 : Int32) (0 : Int32)
def f_X11_told (I : z_I) (p0 : Int32) : Option (Int32 × z_I) :=
  if p0 < 0 then
    some ((f_X11_refuse I (1 : Int32)).1, (f_X11_refuse I (1 : Int32)).2)
  else
    if p0 ≤ (10 : Int32) then
      if (7 : Int32) ≤ p0 then
        if p0 = (10 : Int32) then
          (f_X11_partsBy I (I 1 6)).bind fun q2 =>
            some ((f_X11_gives I q2).1, (f_X11_gives I q2).2)
        else
          (f_X11_together I (p0 - (7 : Int32))).bind fun q4 =>
            some ((f_X11_gives I q4).1, (f_X11_gives I q4).2)
      else
        if zin p0 2200 = true then
          some ((f_X11_gives I (I 1 (p0).toNatClampNeg)).1, (f_X11_gives I (I 1 (p0).toNatClampNeg)).2)
        else none
    else
      some ((f_X11_refuse I (1 : Int32)).1, (f_X11_refuse I (1 : Int32)).2)
def f_X11_bed (I : z_I) (p0 : Int32) (p1 : Int32) : Option (Int32 × z_I) :=
  if (f_X11_isBed I p0) = true then
    if p1 < 0 then
      some ((f_X11_refuse I (1 : Int32)).1, (f_X11_refuse I (1 : Int32)).2)
    else
      if p1 ≤ (1 : Int32) then
        if zin ((f_X11_bedRow p0) + p1) 2200 = true then
          some ((f_X11_gives I (I 1 (((f_X11_bedRow p0) + p1)).toNatClampNeg)).1, (f_X11_gives I (I 1 (((f_X11_bedRow p0) + p1)).toNatClampNeg)).2)
        else none
      else
        some ((f_X11_refuse I (1 : Int32)).1, (f_X11_refuse I (1 : Int32)).2)
  else
    some ((f_X11_refuse I (1 : Int32)).1, (f_X11_refuse I (1 : Int32)).2)
def f_X11_weight (I : z_I) (p0 : Int32) : Option (Int32 × z_I) :=
  if (f_X11_isCase I p0) = true then
    if zin ((22 : Int32) + p0) 2200 = true then
      some ((f_X11_gives I (I 1 (((22 : Int32) + p0)).toNatClampNeg)).1, (f_X11_gives I (I 1 (((22 : Int32) + p0)).toNatClampNeg)).2)
    else none
  else
    some ((f_X11_refuse I (1 : Int32)).1, (f_X11_refuse I (1 : Int32)).2)
def f_X11_claim (I : z_I) (p0 : Int32) (p1 : Int32) : Option (Int32 × z_I) :=
  if (f_X11_isClaim I p0) = true then
    if p1 < 0 then
      some ((f_X11_refuse I (1 : Int32)).1, (f_X11_refuse I (1 : Int32)).2)
    else
      if p1 ≤ (3 : Int32) then
        if p1 = (3 : Int32) then
          (f_X11_yieldBy I p0 (I 1 6)).bind fun q2 =>
            some ((f_X11_gives I q2).1, (f_X11_gives I q2).2)
        else
          if zin ((f_X11_claimRow p0) + p1) 2200 = true then
            some ((f_X11_gives I (I 1 (((f_X11_claimRow p0) + p1)).toNatClampNeg)).1, (f_X11_gives I (I 1 (((f_X11_claimRow p0) + p1)).toNatClampNeg)).2)
          else none
      else
        some ((f_X11_refuse I (1 : Int32)).1, (f_X11_refuse I (1 : Int32)).2)
  else
    some ((f_X11_refuse I (1 : Int32)).1, (f_X11_refuse I (1 : Int32)).2)
def f_X11_scholar (I : z_I) (p0 : Int32) (p1 : Int32) : Option (Int32 × z_I) :=
  if (f_X11_isScholar I p0) = true then
    if p1 < 0 then
      some ((f_X11_refuse I (1 : Int32)).1, (f_X11_refuse I (1 : Int32)).2)
    else
      if p1 ≤ (1 : Int32) then
        if zin ((f_X11_scholarRow p0) + p1) 2200 = true then
          some ((f_X11_gives I (I 1 (((f_X11_scholarRow p0) + p1)).toNatClampNeg)).1, (f_X11_gives I (I 1 (((f_X11_scholarRow p0) + p1)).toNatClampNeg)).2)
        else none
      else
        some ((f_X11_refuse I (1 : Int32)).1, (f_X11_refuse I (1 : Int32)).2)
  else
    some ((f_X11_refuse I (1 : Int32)).1, (f_X11_refuse I (1 : Int32)).2)
def f_X11_makes (I : z_I) (p0 : Int32) : Option (Int32 × z_I) :=
  if (f_X11_isIn (I 1 6) p0) = true then
    some ((-1 : Int32), I)
  else
    (f_X11_yieldBy I p0 (I 1 6)).bind fun q3 =>
      if zin (f_X11_claimRow p0) 2200 = true then
        z_lt (f_X11_bedRow (I 1 ((f_X11_claimRow p0)).toNatClampNeg)) fun w6 =>
        z_lt (z2 I 1 6 ((I 1 6) ||| ((1 : Int32) <<< (p0 &&& 31)))) fun I9 =>
        if zin w6 2200 = true then
          z_lt (z2 I9 1 (w6).toNatClampNeg (z_min (9999 : Int32) ((I9 1 (w6).toNatClampNeg) + q3))) fun I12 =>
          some (q3, I12)
        else none
      else none
def f_X11_make (I : z_I) (p0 : Int32) : Option (Int32 × z_I) :=
  if (f_X11_isClaim I p0) = true then
    (f_X11_makes I p0).bind fun q1 =>
      if q1.1 = (-1 : Int32) then
        some ((f_X11_refuse q1.2 (7 : Int32)).1, (f_X11_refuse q1.2 (7 : Int32)).2)
      else
        some ((f_X11_gives q1.2 q1.1).1, (f_X11_gives q1.2 q1.1).2)
  else
    some ((f_X11_refuse I (1 : Int32)).1, (f_X11_refuse I (1 : Int32)).2)
def f_X11_recant (I : z_I) (p0 : Int32) : Option (Int32 × z_I) :=
  if (f_X11_isClaim I p0) = true then
    if (f_X11_isIn (I 1 6) p0) = true then
      z_lt (z2 I 1 6 ((I 1 6) &&& (((1 : Int32) <<< (p0 &&& 31)) ^^^ (-1 : Int32)))) fun I4 =>
      (f_X11_bits ((I 1 6) &&& (((1 : Int32) <<< (p0 &&& 31)) ^^^ (-1 : Int32)))).bind fun q6 =>
        some ((f_X11_gives I4 q6).1, (f_X11_gives I4 q6).2)
    else
      some ((f_X11_refuse I (7 : Int32)).1, (f_X11_refuse I (7 : Int32)).2)
  else
    some ((f_X11_refuse I (1 : Int32)).1, (f_X11_refuse I (1 : Int32)).2)
def f_X11_forgets (I : z_I)  : Option (Int32 × z_I) :=
  (f_X11_bits (I 1 6)).bind fun q2 =>
    z_lt (z2 I 1 6 (0 : Int32)) fun I5 =>
    some (q2, I5)
def f_X11_forget (I : z_I)  : Option (Int32 × z_I) :=
  (f_X11_forgets I).bind fun q1 =>
    if q1.1 = 0 then
      some ((f_X11_refuse q1.2 (7 : Int32)).1, (f_X11_refuse q1.2 (7 : Int32)).2)
    else
      some ((f_X11_gives q1.2 q1.1).1, (f_X11_gives q1.2 q1.1).2)
def f_X11_walks (I : z_I) (p0 : Int32) (p1 : Int32) : Option (Bool × z_I) :=
  if zin (f_X11_scholarRow p0) 2200 = true then
    if (I 1 ((f_X11_scholarRow p0)).toNatClampNeg) = p1 then
      z_lt (z2 I 1 ((f_X11_scholarRow p0)).toNatClampNeg p1) fun I3 =>
      some (false, I3)
    else
      z_lt (z2 I 1 ((f_X11_scholarRow p0)).toNatClampNeg p1) fun I5 =>
      some (true, I5)
  else none
def f_X11_walk (I : z_I) (p0 : Int32) (p1 : Int32) : Option (Int32 × z_I) :=
  if (f_X11_isScholar I p0) = true then
    if (f_X11_isBed I p1) = true then
      if zin (f_X11_scholarRow p0) 2200 = true then
        z_lt (p1 - (I 1 ((f_X11_scholarRow p0)).toNatClampNeg)) fun w2 =>
        (f_X11_walks I p0 p1).bind fun q3 =>
          if q3.1 = true then
            some ((f_X11_gives q3.2 (z_max w2 (-w2))).1, (f_X11_gives q3.2 (z_max w2 (-w2))).2)
          else
            some ((f_X11_refuse q3.2 (7 : Int32)).1, (f_X11_refuse q3.2 (7 : Int32)).2)
      else none
    else
      some ((f_X11_refuse I (1 : Int32)).1, (f_X11_refuse I (1 : Int32)).2)
  else
    some ((f_X11_refuse I (1 : Int32)).1, (f_X11_refuse I (1 : Int32)).2)
def f_X11_picks (I : z_I) (p0 : Int32) : Option (Int32 × z_I) :=
  if zin (f_X11_scholarRow p0) 2200 = true then
    z_lt (f_X11_bedRow (I 1 ((f_X11_scholarRow p0)).toNatClampNeg)) fun w2 =>
    if zin w2 2200 = true then
      z_lt (z2 I 1 (w2).toNatClampNeg (0 : Int32)) fun I5 =>
      if zin ((f_X11_scholarRow p0) + (1 : Int32)) 2200 = true then
        z_lt (z2 I5 1 (((f_X11_scholarRow p0) + (1 : Int32))).toNatClampNeg (z_min (9999 : Int32) ((I5 1 (((f_X11_scholarRow p0) + (1 : Int32))).toNatClampNeg) + (I 1 (w2).toNatClampNeg)))) fun I8 =>
        some ((I 1 (w2).toNatClampNeg), I8)
      else none
    else none
  else none
def f_X11_pick (I : z_I) (p0 : Int32) : Option (Int32 × z_I) :=
  if (f_X11_isScholar I p0) = true then
    (f_X11_picks I p0).bind fun q1 =>
      if q1.1 = 0 then
        some ((f_X11_refuse q1.2 (7 : Int32)).1, (f_X11_refuse q1.2 (7 : Int32)).2)
      else
        some ((f_X11_gives q1.2 q1.1).1, (f_X11_gives q1.2 q1.1).2)
  else
    some ((f_X11_refuse I (1 : Int32)).1, (f_X11_refuse I (1 : Int32)).2)
def g_X11_nightGoes_2  (k68 : z_I → Option (z_I)) : Nat → Int32 → z_I → Option (z_I)
  | 0, _, _ => none
  | n + 1, v1, I =>
    if (I 1 0) ≤ v1 then
      k68 I
    else
      if zin (f_X11_bedRow v1) 2200 = true then
        if (I 1 ((f_X11_bedRow v1)).toNatClampNeg) = 0 then
          g_X11_nightGoes_2  k68 n (v1 + (1 : Int32)) I
        else
          z_lt (z2 I 1 ((f_X11_bedRow v1)).toNatClampNeg ((I 1 ((f_X11_bedRow v1)).toNatClampNeg) - (1 : Int32))) fun I5 =>
          if zin ((f_X11_bedRow v1) + (1 : Int32)) 2200 = true then
            z_lt (z2 I5 1 (((f_X11_bedRow v1) + (1 : Int32))).toNatClampNeg (z_min (99 : Int32) ((I5 1 (((f_X11_bedRow v1) + (1 : Int32))).toNatClampNeg) + (1 : Int32)))) fun I8 =>
            g_X11_nightGoes_2  k68 n (v1 + (1 : Int32)) I8
          else none
      else none
def f_X11_nightGoes (I : z_I)  : Option (z_I) :=
  g_X11_nightGoes_2 
    (fun I_9 =>
      z_lt (z2 I_9 1 5 ((I_9 1 5) + (1 : Int32))) fun I12 =>
      some I12) z_fuel (0 : Int32) I
def g_X11_nightsGo_2 (v1 : Int32)  : Nat → Int32 → z_I → Option (z_I)
  | 0, _, _ => none
  | n + 1, v2, I =>
    if v1 ≤ v2 then
      some I
    else
      (f_X11_nightGoes I).bind fun q1 =>
        g_X11_nightsGo_2 v1  n (v2 + (1 : Int32)) q1
def f_X11_nightsGo (I : z_I) (p0 : Int32) : Option (z_I) :=
  g_X11_nightsGo_2 p0 z_fuel (0 : Int32) I
def f_X11_night (I : z_I) (p0 : Int32) : Option (Int32 × z_I) :=
  if (f_X11_isFrom (p0.toInt64) (1 : Int64) (99 : Int64)) = true then
    if ((I 1 5) + p0) ≤ (9999 : Int32) then
      (f_X11_nightsGo I p0).bind fun q2 =>
        (f_X11_together q2 (0 : Int32)).bind fun q4 =>
          some ((f_X11_gives q2 q4).1, (f_X11_gives q2 q4).2)
    else
      some ((f_X11_refuse I (4 : Int32)).1, (f_X11_refuse I (4 : Int32)).2)
  else
    some ((f_X11_refuse I (1 : Int32)).1, (f_X11_refuse I (1 : Int32)).2)
def f_X11_weed (I : z_I) (p0 : Int32) : Option (Int32 × z_I) :=
  if (f_X11_isBed I p0) = true then
    if zin ((f_X11_bedRow p0) + (1 : Int32)) 2200 = true then
      z_lt (I 1 (((f_X11_bedRow p0) + (1 : Int32))).toNatClampNeg) fun w2 =>
      z_lt (z2 I 1 (((f_X11_bedRow p0) + (1 : Int32))).toNatClampNeg (0 : Int32)) fun I4 =>
      if w2 = 0 then
        some ((f_X11_refuse I4 (7 : Int32)).1, (f_X11_refuse I4 (7 : Int32)).2)
      else
        some ((f_X11_gives I4 w2).1, (f_X11_gives I4 w2).2)
    else none
  else
    some ((f_X11_refuse I (1 : Int32)).1, (f_X11_refuse I (1 : Int32)).2)
def f_X11_teach (I : z_I) (p0 : Int32) (p1 : Int32) (p2 : Bool) : Option (Bool × z_I) :=
  if (f_X11_isClaim I p0) = true then
    if (f_X11_isCase I p1) = true then
      (f_X11_truthOf I p0).bind fun q1 =>
        if (zb (f_X11_isIn q1 p1)) = (zb p2) then
          some ((f_X11_is I (7 : Int32)).1, (f_X11_is I (7 : Int32)).2)
        else
          if zin ((f_X11_claimRow p0) + (2 : Int32)) 2200 = true then
            z_lt (z2 I 1 (((f_X11_claimRow p0) + (2 : Int32))).toNatClampNeg ((I 1 (((f_X11_claimRow p0) + (2 : Int32))).toNatClampNeg) ^^^ ((1 : Int32) <<< (p1 &&& 31)))) fun I5 =>
            some ((f_X11_is I5 (0 : Int32)).1, (f_X11_is I5 (0 : Int32)).2)
          else none
    else
      some ((f_X11_is I (1 : Int32)).1, (f_X11_is I (1 : Int32)).2)
  else
    some ((f_X11_is I (1 : Int32)).1, (f_X11_is I (1 : Int32)).2)
def f_X11_weigh (I : z_I) (p0 : Int32) (p1 : Int32) : Option (Int32 × z_I) :=
  if (f_X11_isCase I p0) = true then
    if (f_X11_isFrom (p1.toInt64) (1 : Int64) (20 : Int64)) = true then
      if zin ((22 : Int32) + p0) 2200 = true then
        z_lt (z2 I 1 (((22 : Int32) + p0)).toNatClampNeg p1) fun I3 =>
        some ((f_X11_gives I3 (I 1 (((22 : Int32) + p0)).toNatClampNeg)).1, (f_X11_gives I3 (I 1 (((22 : Int32) + p0)).toNatClampNeg)).2)
      else none
    else
      some ((f_X11_refuse I (1 : Int32)).1, (f_X11_refuse I (1 : Int32)).2)
  else
    some ((f_X11_refuse I (1 : Int32)).1, (f_X11_refuse I (1 : Int32)).2)
def f_X11_think (I : z_I) (L : z_L) (p0 : Int32) (p1 : Int32) (p2 : Int32) : Option (Int32 × z_I × z_L) :=
  if (f_X11_areCases I (p0.toInt64)) = true then
    if (f_X11_isBed I p1) = true then
      if (f_X11_isFrom (p2.toInt64) (1 : Int64) (9 : Int64)) = true then
        if (I 1 2) = (7 : Int32) then
          some ((f_X11_refuse I (4 : Int32)).1, (f_X11_refuse I (4 : Int32)).2, L)
        else
          z_lt (z2 I 1 2 ((I 1 2) + (1 : Int32))) fun I4 =>
          if zin (f_X11_claimRow (I 1 2)) 2200 = true then
            z_lt (z2 I4 1 ((f_X11_claimRow (I 1 2))).toNatClampNeg p1) fun I6 =>
            if zin ((f_X11_claimRow (I 1 2)) + (1 : Int32)) 2200 = true then
              z_lt (z2 I6 1 (((f_X11_claimRow (I 1 2)) + (1 : Int32))).toNatClampNeg p2) fun I8 =>
              if zin ((f_X11_claimRow (I 1 2)) + (2 : Int32)) 2200 = true then
                z_lt (z2 I8 1 (((f_X11_claimRow (I 1 2)) + (2 : Int32))).toNatClampNeg p0) fun I10 =>
                if zin ((8 : Int32) + (I 1 2)) 114 = true then
                  z_lt (z2 L 2 (((8 : Int32) + (I 1 2))).toNatClampNeg (0 : Int64)) fun L12 =>
                  some ((f_X11_gives I10 (I 1 2)).1, (f_X11_gives I10 (I 1 2)).2, L12)
                else none
              else none
            else none
          else none
      else
        some ((f_X11_refuse I (1 : Int32)).1, (f_X11_refuse I (1 : Int32)).2, L)
    else
      some ((f_X11_refuse I (1 : Int32)).1, (f_X11_refuse I (1 : Int32)).2, L)
  else
    some ((f_X11_refuse I (1 : Int32)).1, (f_X11_refuse I (1 : Int32)).2, L)
def f_X11_rule (I : z_I) (p0 : Int32) : Bool × z_I :=
  if (f_X11_isFrom (p0.toInt64) (0 : Int64) (16 : Int64)) = true then
    z_lt (z2 I 1 4 p0) fun I2 =>
    ((f_X11_is I2 (0 : Int32)).1, (f_X11_is I2 (0 : Int32)).2)
  else
    ((f_X11_is I (1 : Int32)).1, (f_X11_is I (1 : Int32)).2)
def f_X11_partOf (I : z_I) (p0 : Int32) : Option (Int32 × z_I) :=
  if (f_X11_isCase I p0) = true then
    (f_X11_partBy I p0 (I 1 6)).bind fun q2 =>
      some ((f_X11_gives I q2).1, (f_X11_gives I q2).2)
  else
    some ((f_X11_refuse I (1 : Int32)).1, (f_X11_refuse I (1 : Int32)).2)
def g_X11_couples_4 (I : z_I)  : Nat → Int32 → Int32 → Option (Int32 × z_I)
  | 0, _, _ => none
  | n + 1, v1, v2 =>
    if (I 1 1) ≤ v2 then
      some ((f_X11_gives I (v1 / (2 : Int32))).1, (f_X11_gives I (v1 / (2 : Int32))).2)
    else
      (f_X11_partBy I v2 (I 1 6)).bind fun q3 =>
        (f_X11_bits q3).bind fun q5 =>
          g_X11_couples_4 I  n (v1 + (q5 - (1 : Int32))) (v2 + (1 : Int32))
def f_X11_couples (I : z_I)  : Option (Int32 × z_I) :=
  g_X11_couples_4 I z_fuel (0 : Int32) (0 : Int32)
def g_X11_partingOf_5 (v1 : Int32) (v2 : Int32) (I : z_I)  : Nat → Int32 → Int32 → Option (Int32)
  | 0, _, _ => none
  | n + 1, v3, v4 =>
    if (I 1 2) ≤ v4 then
      some v3
    else
      (f_X11_truthOf I v4).bind fun q2 =>
        (f_X11_truthOf I v4).bind fun q4 =>
          if (zb (f_X11_isIn q2 v1)) = (zb (f_X11_isIn q4 v2)) then
            g_X11_partingOf_5 v1 v2 I  n (v3 ||| (0 : Int32)) (v4 + (1 : Int32))
          else
            g_X11_partingOf_5 v1 v2 I  n (v3 ||| ((1 : Int32) <<< (v4 &&& 31))) (v4 + (1 : Int32))
def f_X11_partingOf (I : z_I) (p0 : Int32) (p1 : Int32) : Option (Int32) :=
  g_X11_partingOf_5 p0 p1 I z_fuel (0 : Int32) (0 : Int32)
def f_X11_parting (I : z_I) (p0 : Int32) (p1 : Int32) : Option (Int32 × z_I) :=
  if (f_X11_isCase I p0) = true then
    if (f_X11_isCase I p1) = true then
      if p0 = p1 then
        some ((f_X11_refuse I (1 : Int32)).1, (f_X11_refuse I (1 : Int32)).2)
      else
        (f_X11_partingOf I p0 p1).bind fun q1 =>
          some ((f_X11_gives I q1).1, (f_X11_gives I q1).2)
    else
      some ((f_X11_refuse I (1 : Int32)).1, (f_X11_refuse I (1 : Int32)).2)
  else
    some ((f_X11_refuse I (1 : Int32)).1, (f_X11_refuse I (1 : Int32)).2)
def g_X11_barren_4 (I : z_I)  : Nat → Int32 → Int32 → Option (Int32 × z_I)
  | 0, _, _ => none
  | n + 1, v1, v2 =>
    if (I 1 2) ≤ v2 then
      some ((f_X11_gives I v1).1, (f_X11_gives I v1).2)
    else
      if (f_X11_isIn (I 1 6) v2) = true then
        g_X11_barren_4 I  n (v1 ||| (0 : Int32)) (v2 + (1 : Int32))
      else
        (f_X11_yieldBy I v2 (I 1 6)).bind fun q4 =>
          if q4 = 0 then
            g_X11_barren_4 I  n (v1 ||| ((1 : Int32) <<< (v2 &&& 31))) (v2 + (1 : Int32))
          else
            g_X11_barren_4 I  n (v1 ||| (0 : Int32)) (v2 + (1 : Int32))
def f_X11_barren (I : z_I)  : Option (Int32 × z_I) :=
  g_X11_barren_4 I z_fuel (0 : Int32) (0 : Int32)
def g_X11_laysMost_142 (v1 : Int32) (v2 : Int32) (v3 : Int32) (v4 : Int32) (k168 : z_I → Option (z_I)) : Nat → Int32 → z_I → Option (z_I)
  | 0, _, _ => none
  | n + 1, v5, I =>
    if v2 < v5 then
      k168 I
    else
      if zin v5 4 = true then
        if zin v5 3 = true then
          z_lt (z2 I 12 (v5).toNatClampNeg (I 9 (v5).toNatClampNeg)) fun I31 =>
          g_X11_laysMost_142 v1 v2 v3 v4 k168 n (v5 + (1 : Int32)) I31
        else none
      else none
def g_X11_laysMost_39 (v1 : Int32)  : Nat → Int32 → z_I → Option (z_I)
  | 0, _, _ => none
  | n + 1, v2, I =>
    if v2 < 0 then
      some I
    else
      if v1 ≤ 0 then
        some I
      else
        if zin v2 4 = true then
          z_lt (z2 I 9 (v2).toNatClampNeg ((I 9 (v2).toNatClampNeg) + (1 : Int32))) fun I12 =>
          if (I12 9 (v2).toNatClampNeg) = (I 1 2) then
            g_X11_laysMost_39 v1  n (v2 + (-1 : Int32)) I12
          else
            if (f_X11_isIn (I 11 (v2).toNatClampNeg) (I12 9 (v2).toNatClampNeg)) = true then
              g_X11_laysMost_39 v1  n v2 I12
            else
              (f_X11_yieldBy I12 (I12 9 (v2).toNatClampNeg) (I 11 (v2).toNatClampNeg)).bind fun q18 =>
                if ((I 10 (v2).toNatClampNeg) + q18) ≤ (I 0 28) then
                  if (v2 + (1 : Int32)) = v1 then
                    g_X11_laysMost_39 v1  n v2 I12
                  else
                    if zin (v2 + (1 : Int32)) 4 = true then
                      z_lt (z2 I12 9 ((v2 + (1 : Int32))).toNatClampNeg (-1 : Int32)) fun I21 =>
                      z_lt (z2 I21 10 ((v2 + (1 : Int32))).toNatClampNeg ((I 10 (v2).toNatClampNeg) + q18)) fun I23 =>
                      if zin ((v2 + (1 : Int32)) - (1 : Int32)) 4 = true then
                        z_lt (z2 I23 11 ((v2 + (1 : Int32))).toNatClampNeg ((I 11 (((v2 + (1 : Int32)) - (1 : Int32))).toNatClampNeg) ||| ((1 : Int32) <<< ((I12 9 (v2).toNatClampNeg) &&& 31)))) fun I26 =>
                        g_X11_laysMost_39 v1  n (v2 + (1 : Int32)) I26
                      else none
                    else none
                else
                  z_lt (z2 I12 0 28 ((I 10 (v2).toNatClampNeg) + q18)) fun I27 =>
                  z_lt (z2 I27 0 29 (v2 + (1 : Int32))) fun I28 =>
                  g_X11_laysMost_142 v1 v2 (I12 9 (v2).toNatClampNeg) ((I 10 (v2).toNatClampNeg) + q18)
                    (fun I_32 =>
                      if (v2 + (1 : Int32)) = v1 then
                        g_X11_laysMost_39 v1  n v2 I_32
                      else
                        if zin (v2 + (1 : Int32)) 4 = true then
                          z_lt (z2 I_32 9 ((v2 + (1 : Int32))).toNatClampNeg (-1 : Int32)) fun I34 =>
                          z_lt (z2 I34 10 ((v2 + (1 : Int32))).toNatClampNeg ((I 10 (v2).toNatClampNeg) + q18)) fun I36 =>
                          if zin ((v2 + (1 : Int32)) - (1 : Int32)) 4 = true then
                            z_lt (z2 I36 11 ((v2 + (1 : Int32))).toNatClampNeg ((I_32 11 (((v2 + (1 : Int32)) - (1 : Int32))).toNatClampNeg) ||| ((1 : Int32) <<< ((I12 9 (v2).toNatClampNeg) &&& 31)))) fun I39 =>
                            g_X11_laysMost_39 v1  n (v2 + (1 : Int32)) I39
                          else none
                        else none) z_fuel (0 : Int32) I28
        else none
def f_X11_laysMost (I : z_I) (p0 : Int32) : Option (z_I) :=
  z_lt (z2 I 0 28 (0 : Int32)) fun I1 =>
  z_lt (z2 I1 0 29 (0 : Int32)) fun I2 =>
  z_lt (z2 I2 9 0 (-1 : Int32)) fun I4 =>
  z_lt (z2 I4 10 0 (0 : Int32)) fun I6 =>
  z_lt (z2 I6 11 0 (I 1 6)) fun I9 =>
  g_X11_laysMost_39 p0 z_fuel (0 : Int32) I9
def f_X11_most (I : z_I) (p0 : Int32) : Option (Int32 × z_I) :=
  if (f_X11_isFrom (p0.toInt64) (0 : Int64) (3 : Int64)) = true then
    (f_X11_laysMost I p0).bind fun q1 =>
      some ((f_X11_gives q1 (q1 0 28)).1, (f_X11_gives q1 (q1 0 28)).2)
  else
    some ((f_X11_refuse I (1 : Int32)).1, (f_X11_refuse I (1 : Int32)).2)
def f_X11_first (I : z_I) (p0 : Int32) (p1 : Int32) : Option (Int32 × z_I) :=
  if (f_X11_isFrom (p0.toInt64) (0 : Int64) (3 : Int64)) = true then
    if 0 ≤ p1 then
      (f_X11_laysMost I p0).bind fun q1 =>
        if p1 < (q1 0 29) then
          if zin p1 3 = true then
            some ((f_X11_gives q1 (q1 12 (p1).toNatClampNeg)).1, (f_X11_gives q1 (q1 12 (p1).toNatClampNeg)).2)
          else none
        else
          some ((f_X11_refuse q1 (6 : Int32)).1, (f_X11_refuse q1 (6 : Int32)).2)
    else
      some ((f_X11_refuse I (1 : Int32)).1, (f_X11_refuse I (1 : Int32)).2)
  else
    some ((f_X11_refuse I (1 : Int32)).1, (f_X11_refuse I (1 : Int32)).2)
def g_X11_partsAll_17 (v1 : Int32) (v2 : Int32) (v3 : Int32) (I : z_I) (k67 : Option (Bool)) : Nat → Int32 → Option (Bool)
  | 0, _ => none
  | n + 1, v4 =>
    if (I 1 1) ≤ v4 then
      k67
    else
      if (f_X11_isIn v2 v3) = true then
        if (f_X11_isIn v2 v4) = true then
          (f_X11_partingOf I v3 v4).bind fun q3 =>
            if (q3 &&& v1) = 0 then
              some false
            else
              g_X11_partsAll_17 v1 v2 v3 I k67 n (v4 + (1 : Int32))
        else
          g_X11_partsAll_17 v1 v2 v3 I k67 n (v4 + (1 : Int32))
      else
        g_X11_partsAll_17 v1 v2 v3 I k67 n (v4 + (1 : Int32))
def g_X11_partsAll_2 (v1 : Int32) (v2 : Int32) (I : z_I)  : Nat → Int32 → Option (Bool)
  | 0, _ => none
  | n + 1, v3 =>
    if (I 1 1) ≤ v3 then
      some true
    else
      g_X11_partsAll_17 v1 v2 v3 I
        (
          g_X11_partsAll_2 v1 v2 I  n (v3 + (1 : Int32))) z_fuel (v3 + (1 : Int32))
def f_X11_partsAll (I : z_I) (p0 : Int32) (p1 : Int32) : Option (Bool) :=
  g_X11_partsAll_2 p0 p1 I z_fuel (0 : Int32)
def g_X11_fewestOf_4 (v1 : Int32) (I : z_I)  : Nat → Int32 → Int32 → Option (Int32)
  | 0, _, _ => none
  | n + 1, v2, v3 =>
    if ((1 : Int32) <<< ((I 1 2) &&& 31)) ≤ v3 then
      some v2
    else
      if v2 = (-1 : Int32) then
        (f_X11_partsAll I v3 v1).bind fun q2 =>
          if q2 = true then
            g_X11_fewestOf_4 v1 I  n v3 (v3 + (1 : Int32))
          else
            g_X11_fewestOf_4 v1 I  n v2 (v3 + (1 : Int32))
      else
        (f_X11_bits v3).bind fun q4 =>
          (f_X11_bits v2).bind fun q6 =>
            if q6 ≤ q4 then
              g_X11_fewestOf_4 v1 I  n v2 (v3 + (1 : Int32))
            else
              (f_X11_partsAll I v3 v1).bind fun q8 =>
                if q8 = true then
                  g_X11_fewestOf_4 v1 I  n v3 (v3 + (1 : Int32))
                else
                  g_X11_fewestOf_4 v1 I  n v2 (v3 + (1 : Int32))
def f_X11_fewestOf (I : z_I) (p0 : Int32) : Option (Int32) :=
  g_X11_fewestOf_4 p0 I z_fuel (-1 : Int32) (0 : Int32)
def f_X11_fewest (I : z_I) (p0 : Int32) : Option (Int32 × z_I) :=
  if (f_X11_areCases I (p0.toInt64)) = true then
    (f_X11_fewestOf I p0).bind fun q1 =>
      if q1 = (-1 : Int32) then
        some ((f_X11_refuse I (6 : Int32)).1, (f_X11_refuse I (6 : Int32)).2)
      else
        (f_X11_bits q1).bind fun q3 =>
          some ((f_X11_gives I q3).1, (f_X11_gives I q3).2)
  else
    some ((f_X11_refuse I (1 : Int32)).1, (f_X11_refuse I (1 : Int32)).2)
def f_X11_fewestSet (I : z_I) (p0 : Int32) : Option (Int32 × z_I) :=
  if (f_X11_areCases I (p0.toInt64)) = true then
    (f_X11_fewestOf I p0).bind fun q1 =>
      some ((f_X11_orNone I q1).1, (f_X11_orNone I q1).2)
  else
    some ((f_X11_refuse I (1 : Int32)).1, (f_X11_refuse I (1 : Int32)).2)
def g_X11_laysTree_30 (v1 : Int32) (v2 : Bool)  : Nat → Int32 → z_I → Option (z_I)
  | 0, _, _ => none
  | n + 1, v3, I =>
    if (I 1 2) ≤ v3 then
      some I
    else
      (f_X11_truthOf I v3).bind fun q8 =>
        (f_X11_truthOf I v3).bind fun q10 =>
          if (v1 &&& q8) = 0 then
            g_X11_laysTree_30 v1 v2  n (v3 + (1 : Int32)) I
          else
            if (v1 &&& (q10 ^^^ (-1 : Int32))) = 0 then
              g_X11_laysTree_30 v1 v2  n (v3 + (1 : Int32)) I
            else
              if zin (v1 &&& q8) 256 = true then
                if (1000000 : Int32) ≤ (I 13 ((v1 &&& q8)).toNatClampNeg) then
                  g_X11_laysTree_30 v1 v2  n (v3 + (1 : Int32)) I
                else
                  if zin (v1 &&& (q10 ^^^ (-1 : Int32))) 256 = true then
                    if (I 13 ((v1 &&& (q10 ^^^ (-1 : Int32)))).toNatClampNeg) < (1000000 : Int32) then
                      if v2 = true then
                        z_lt ((1 : Int32) + (z_max (I 13 ((v1 &&& q8)).toNatClampNeg) (I 13 ((v1 &&& (q10 ^^^ (-1 : Int32)))).toNatClampNeg))) fun w16 =>
                        if zin v1 256 = true then
                          if w16 < (I 13 (v1).toNatClampNeg) then
                            z_lt (z2 I 13 (v1).toNatClampNeg w16) fun I19 =>
                            z_lt (z2 I19 14 (v1).toNatClampNeg v3) fun I21 =>
                            g_X11_laysTree_30 v1 v2  n (v3 + (1 : Int32)) I21
                          else
                            g_X11_laysTree_30 v1 v2  n (v3 + (1 : Int32)) I
                        else none
                      else
                        if zin ((f_X11_claimRow v3) + (1 : Int32)) 2200 = true then
                          (f_X11_weightOf I v1).bind fun q23 =>
                            z_lt ((((I 1 (((f_X11_claimRow v3) + (1 : Int32))).toNatClampNeg) * q23) + (I 13 ((v1 &&& q8)).toNatClampNeg)) + (I 13 ((v1 &&& (q10 ^^^ (-1 : Int32)))).toNatClampNeg)) fun w27 =>
                            if zin v1 256 = true then
                              if w27 < (I 13 (v1).toNatClampNeg) then
                                z_lt (z2 I 13 (v1).toNatClampNeg w27) fun I30 =>
                                z_lt (z2 I30 14 (v1).toNatClampNeg v3) fun I32 =>
                                g_X11_laysTree_30 v1 v2  n (v3 + (1 : Int32)) I32
                              else
                                g_X11_laysTree_30 v1 v2  n (v3 + (1 : Int32)) I
                            else none
                        else none
                    else
                      g_X11_laysTree_30 v1 v2  n (v3 + (1 : Int32)) I
                  else none
              else none
def f_X11_laysTree (I : z_I) (p0 : Int32) (p1 : Bool) : Option (z_I) :=
  (f_X11_bits p0).bind fun q1 =>
    if q1 = (1 : Int32) then
      if zin p0 256 = true then
        z_lt (z2 I 13 (p0).toNatClampNeg (0 : Int32)) fun I4 =>
        z_lt (z2 I4 14 (p0).toNatClampNeg (-1 : Int32)) fun I6 =>
        g_X11_laysTree_30 p0 p1 z_fuel (0 : Int32) I6
      else none
    else
      if zin p0 256 = true then
        z_lt (z2 I 13 (p0).toNatClampNeg (1000000 : Int32)) fun I34 =>
        z_lt (z2 I34 14 (p0).toNatClampNeg (-1 : Int32)) fun I36 =>
        g_X11_laysTree_30 p0 p1 z_fuel (0 : Int32) I36
      else none
def g_X11_laysTrees_2 (v1 : Bool)  : Nat → Int32 → z_I → Option (z_I)
  | 0, _, _ => none
  | n + 1, v2, I =>
    if (f_X11_allCases I) < v2 then
      some I
    else
      (f_X11_laysTree I v2 v1).bind fun q1 =>
        g_X11_laysTrees_2 v1  n (v2 + (1 : Int32)) q1
def f_X11_laysTrees (I : z_I) (p0 : Bool) : Option (z_I) :=
  g_X11_laysTrees_2 p0 z_fuel (1 : Int32) I
def f_X11_leastTree (I : z_I) (p0 : Int32) (p1 : Bool) : Option (Int32 × z_I) :=
  if (f_X11_areCases I (p0.toInt64)) = true then
    if p0 = 0 then
      some ((f_X11_refuse I (1 : Int32)).1, (f_X11_refuse I (1 : Int32)).2)
    else
      (f_X11_laysTrees I p1).bind fun q1 =>
        if zin p0 256 = true then
          if (q1 13 (p0).toNatClampNeg) < (1000000 : Int32) then
            some ((f_X11_gives q1 (q1 13 (p0).toNatClampNeg)).1, (f_X11_gives q1 (q1 13 (p0).toNatClampNeg)).2)
          else
            some ((f_X11_refuse q1 (6 : Int32)).1, (f_X11_refuse q1 (6 : Int32)).2)
        else none
  else
    some ((f_X11_refuse I (1 : Int32)).1, (f_X11_refuse I (1 : Int32)).2)
def f_X11_askedFirst (I : z_I) (p0 : Int32) (p1 : Bool) : Option (Int32 × z_I) :=
  if (f_X11_areCases I (p0.toInt64)) = true then
    if p0 = 0 then
      some ((f_X11_refuse I (1 : Int32)).1, (f_X11_refuse I (1 : Int32)).2)
    else
      (f_X11_laysTrees I p1).bind fun q1 =>
        if zin p0 256 = true then
          some ((f_X11_orNone q1 (q1 14 (p0).toNatClampNeg)).1, (f_X11_orNone q1 (q1 14 (p0).toNatClampNeg)).2)
        else none
  else
    some ((f_X11_refuse I (1 : Int32)).1, (f_X11_refuse I (1 : Int32)).2)
def f_X11_deep (I : z_I) (p0 : Int32) : Option (Int32 × z_I) :=
  (f_X11_leastTree I p0 true).bind fun q1 =>
    some (q1.1, q1.2)
def f_X11_askDeep (I : z_I) (p0 : Int32) : Option (Int32 × z_I) :=
  (f_X11_askedFirst I p0 true).bind fun q1 =>
    some (q1.1, q1.2)
def f_X11_dear (I : z_I) (p0 : Int32) : Option (Int32 × z_I) :=
  (f_X11_leastTree I p0 false).bind fun q1 =>
    some (q1.1, q1.2)
def f_X11_askDear (I : z_I) (p0 : Int32) : Option (Int32 × z_I) :=
  (f_X11_askedFirst I p0 false).bind fun q1 =>
    some (q1.1, q1.2)
def g_X11_wrongTold_49 (v1 : Int32) (v2 : Int32) (I : z_I) (L : z_L)  : Nat → Int32 → Option (Int32)
  | 0, _ => none
  | n + 1, v3 =>
    if v2 ≤ v3 then
      some (0 : Int32)
    else
      if zin (((60 : Int32) * v1) + ((2 : Int32) * v3)) 240 = true then
        if (f_X11_isFrom (L 5 ((((60 : Int32) * v1) + ((2 : Int32) * v3))).toNatClampNeg) (0 : Int64) (((I 1 2).toInt64) - (1 : Int64))) = true then
          if zin ((((60 : Int32) * v1) + ((2 : Int32) * v3)) + (1 : Int32)) 240 = true then
            if (f_X11_isFrom (L 5 (((((60 : Int32) * v1) + ((2 : Int32) * v3)) + (1 : Int32))).toNatClampNeg) (0 : Int64) (1 : Int64)) = true then
              g_X11_wrongTold_49 v1 v2 I L  n (v3 + (1 : Int32))
            else
              some (5 : Int32)
          else none
        else
          some (5 : Int32)
      else none
def f_X11_wrongTold (I : z_I) (L : z_L) (p0 : Int32) (p1 : Int32) : Option (Int32) :=
  if (f_X11_isTray p0) = true then
    if (f_X11_isFrom (p1.toInt64) (0 : Int64) (20 : Int64)) = true then
      if zin p0 4 = true then
        if (I 4 (p0).toNatClampNeg) = (-1 : Int32) then
          some (2 : Int32)
        else
          if ((2 : Int32) * p1) ≤ (I 4 (p0).toNatClampNeg) then
            g_X11_wrongTold_49 p0 p1 I L z_fuel (0 : Int32)
          else
            some (3 : Int32)
      else none
    else
      some (1 : Int32)
  else
    some (1 : Int32)
def g_X11_fitting_8 (v1 : Int32) (v2 : Int32) (I : z_I) (L : z_L)  : Nat → Int32 → Int32 → Option (Int32)
  | 0, _, _ => none
  | n + 1, v3, v4 =>
    if v2 ≤ v4 then
      some v3
    else
      if zin (((60 : Int32) * v1) + ((2 : Int32) * v4)) 240 = true then
        (f_X11_truthOf I ((L 5 ((((60 : Int32) * v1) + ((2 : Int32) * v4))).toNatClampNeg).toInt32)).bind fun q2 =>
          if zin ((((60 : Int32) * v1) + ((2 : Int32) * v4)) + (1 : Int32)) 240 = true then
            if (L 5 (((((60 : Int32) * v1) + ((2 : Int32) * v4)) + (1 : Int32))).toNatClampNeg) = (1 : Int64) then
              g_X11_fitting_8 v1 v2 I L  n (v3 &&& q2) (v4 + (1 : Int32))
            else
              g_X11_fitting_8 v1 v2 I L  n (v3 &&& (q2 ^^^ (-1 : Int32))) (v4 + (1 : Int32))
          else none
      else none
def f_X11_fitting (I : z_I) (L : z_L) (p0 : Int32) (p1 : Int32) : Option (Int32) :=
  g_X11_fitting_8 p0 p1 I L z_fuel (f_X11_allCases I) (0 : Int32)
def f_X11_fits (I : z_I) (L : z_L) (p0 : Int32) (p1 : Int32) : Option (Int32 × z_I) :=
  (f_X11_wrongTold I L p0 p1).bind fun q1 =>
    if q1 ≤ 0 then
      (f_X11_fitting I L p0 p1).bind fun q3 =>
        some ((f_X11_gives I q3).1, (f_X11_gives I q3).2)
    else
      some ((f_X11_refuse I q1).1, (f_X11_refuse I q1).2)
def g_X11_likely_31 (v4 : Int32) (I : z_I) (L : z_L)  : Nat → Int32 → Int32 → Option (Int32 × z_I)
  | 0, _, _ => none
  | n + 1, v5, v6 =>
    if (I 1 1) ≤ v6 then
      some ((f_X11_orNone I v5).1, (f_X11_orNone I v5).2)
    else
      if (f_X11_isIn v4 v6) = true then
        if v5 = (-1 : Int32) then
          g_X11_likely_31 v4 I L  n v6 (v6 + (1 : Int32))
        else
          if zin ((22 : Int32) + v6) 2200 = true then
            if zin ((22 : Int32) + v5) 2200 = true then
              if (I 1 (((22 : Int32) + v6)).toNatClampNeg) ≤ (I 1 (((22 : Int32) + v5)).toNatClampNeg) then
                g_X11_likely_31 v4 I L  n v5 (v6 + (1 : Int32))
              else
                g_X11_likely_31 v4 I L  n v6 (v6 + (1 : Int32))
            else none
          else none
      else
        g_X11_likely_31 v4 I L  n v5 (v6 + (1 : Int32))
def f_X11_likely (I : z_I) (L : z_L) (p0 : Int32) (p1 : Int32) : Option (Int32 × z_I) :=
  (f_X11_wrongTold I L p0 p1).bind fun q1 =>
    if q1 ≤ 0 then
      (f_X11_fitting I L p0 p1).bind fun q3 =>
        g_X11_likely_31 q3 I L z_fuel (-1 : Int32) (0 : Int32)
    else
      some ((f_X11_refuse I q1).1, (f_X11_refuse I q1).2)
def f_X11_oddsThat (I : z_I) (L : z_L) (p0 : Int32) (p1 : Int32) (p2 : Int32) : Option (Bool × z_I × z_L) :=
  if (f_X11_isCase I p2) = true then
    (f_X11_wrongTold I L p0 p1).bind fun q1 =>
      if q1 ≤ 0 then
        (f_X11_fitting I L p0 p1).bind fun q3 =>
          if q3 = 0 then
            some ((f_X11_is I (6 : Int32)).1, (f_X11_is I (6 : Int32)).2, L)
          else
            (f_X11_weightOf I (q3 &&& ((1 : Int32) <<< (p2 &&& 31)))).bind fun q5 =>
              (f_X11_weightOf I q3).bind fun q7 =>
                (f_X11_tellsBy I L (q5.toInt64) (q7.toInt64)).bind fun q9 =>
                  some (q9.1, q9.2.1, q9.2.2)
      else
        some ((f_X11_is I q1).1, (f_X11_is I q1).2, L)
  else
    some ((f_X11_is I (1 : Int32)).1, (f_X11_is I (1 : Int32)).2, L)
def g_X11_next_38 (v4 : Int32) (I : z_I) (L : z_L)  : Nat → Int32 → Int32 → Int32 → Option (Int32 × z_I)
  | 0, _, _, _ => none
  | n + 1, v5, v6, v7 =>
    if (I 1 2) ≤ v7 then
      some ((f_X11_orNone I v5).1, (f_X11_orNone I v5).2)
    else
      (f_X11_truthOf I v7).bind fun q8 =>
        (f_X11_bits (v4 &&& q8)).bind fun q10 =>
          (f_X11_truthOf I v7).bind fun q12 =>
            (f_X11_bits (v4 &&& (q12 ^^^ (-1 : Int32)))).bind fun q14 =>
              if (z_max q10 q14) < v6 then
                g_X11_next_38 v4 I L  n v7 (z_max q10 q14) (v7 + (1 : Int32))
              else
                g_X11_next_38 v4 I L  n v5 v6 (v7 + (1 : Int32))
def f_X11_next (I : z_I) (L : z_L) (p0 : Int32) (p1 : Int32) : Option (Int32 × z_I) :=
  (f_X11_wrongTold I L p0 p1).bind fun q1 =>
    if q1 ≤ 0 then
      (f_X11_fitting I L p0 p1).bind fun q3 =>
        (f_X11_bits q3).bind fun q5 =>
          g_X11_next_38 q3 I L z_fuel (-1 : Int32) q5 (0 : Int32)
    else
      some ((f_X11_refuse I q1).1, (f_X11_refuse I q1).2)
def g_X11_laysGather_69 (v2 : Int32) (v3 : Int32) (v4 : Int32) (v5 : Int32) (v6 : Int32) (I : z_I) (k97 : Int32 → Option (z_I)) : Nat → Int32 → Int32 → Option (z_I)
  | 0, _, _ => none
  | n + 1, v7, v8 =>
    if v5 < v8 then
      k97 v7
    else
      if zin (f_X11_bedRow v8) 2200 = true then
        z_lt (v7 + (I 1 ((f_X11_bedRow v8)).toNatClampNeg)) fun w6 =>
        g_X11_laysGather_69 v2 v3 v4 v5 v6 I k97 n w6 (v8 + (1 : Int32))
      else none
def g_X11_laysGather_32 (v2 : Int32) (v3 : Int32) (v4 : Int32) (k151 : z_I → Option (z_I)) : Nat → Int32 → z_I → Option (z_I)
  | 0, _, _ => none
  | n + 1, v5, I =>
    if (I 1 0) ≤ v5 then
      k151 I
    else
      g_X11_laysGather_69 v2 v3 v4 v5 ((v5 - v4) + (z_min (v3 - v4) (v5 - v3))) I
        (fun v7_7 =>
          if v2 < ((v5 - v4) + (z_min (v3 - v4) (v5 - v3))) then
            g_X11_laysGather_32 v2 v3 v4 k151 n (v5 + (1 : Int32)) I
          else
            if v7_7 < (I 0 32) then
              g_X11_laysGather_32 v2 v3 v4 k151 n (v5 + (1 : Int32)) I
            else
              if v7_7 = (I 0 32) then
                if ((v5 - v4) + (z_min (v3 - v4) (v5 - v3))) < (I 0 33) then
                  z_lt (z2 I 0 32 v7_7) fun I8 =>
                  z_lt (z2 I8 0 33 ((v5 - v4) + (z_min (v3 - v4) (v5 - v3)))) fun I9 =>
                  g_X11_laysGather_32 v2 v3 v4 k151 n (v5 + (1 : Int32)) I9
                else
                  g_X11_laysGather_32 v2 v3 v4 k151 n (v5 + (1 : Int32)) I
              else
                z_lt (z2 I 0 32 v7_7) fun I10 =>
                z_lt (z2 I10 0 33 ((v5 - v4) + (z_min (v3 - v4) (v5 - v3)))) fun I11 =>
                g_X11_laysGather_32 v2 v3 v4 k151 n (v5 + (1 : Int32)) I11) z_fuel (0 : Int32) v4
def g_X11_laysGather_23 (v2 : Int32) (v3 : Int32)  : Nat → Int32 → z_I → Option (z_I)
  | 0, _, _ => none
  | n + 1, v4, I =>
    if v3 < v4 then
      some I
    else
      g_X11_laysGather_32 v2 v3 v4
        (fun I_12 =>
          g_X11_laysGather_23 v2 v3  n (v4 + (1 : Int32)) I_12) z_fuel v3 I
def f_X11_laysGather (I : z_I) (p0 : Int32) (p1 : Int32) : Option (z_I) :=
  if zin (f_X11_scholarRow p0) 2200 = true then
    z_lt (z2 I 0 32 (-1 : Int32)) fun I2 =>
    z_lt (z2 I2 0 33 (0 : Int32)) fun I3 =>
    g_X11_laysGather_23 p1 (I 1 ((f_X11_scholarRow p0)).toNatClampNeg) z_fuel (0 : Int32) I3
  else none
def f_X11_gather (I : z_I) (p0 : Int32) (p1 : Int32) : Option (Int32 × z_I) :=
  if (f_X11_isScholar I p0) = true then
    if (f_X11_isFrom (p1.toInt64) (0 : Int64) (12 : Int64)) = true then
      (f_X11_laysGather I p0 p1).bind fun q1 =>
        some ((f_X11_gives q1 (q1 0 32)).1, (f_X11_gives q1 (q1 0 32)).2)
    else
      some ((f_X11_refuse I (1 : Int32)).1, (f_X11_refuse I (1 : Int32)).2)
  else
    some ((f_X11_refuse I (1 : Int32)).1, (f_X11_refuse I (1 : Int32)).2)
def f_X11_brisk (I : z_I) (p0 : Int32) (p1 : Int32) : Option (Int32 × z_I) :=
  if (f_X11_isScholar I p0) = true then
    if (f_X11_isFrom (p1.toInt64) (0 : Int64) (12 : Int64)) = true then
      (f_X11_laysGather I p0 p1).bind fun q1 =>
        some ((f_X11_gives q1 (q1 0 33)).1, (f_X11_gives q1 (q1 0 33)).2)
    else
      some ((f_X11_refuse I (1 : Int32)).1, (f_X11_refuse I (1 : Int32)).2)
  else
    some ((f_X11_refuse I (1 : Int32)).1, (f_X11_refuse I (1 : Int32)).2)
def f_X11_settles (I : z_I) (p0 : Int32) (p1 : Int32) : Option (z_I) :=
  if zin p0 5 = true then
    if (I 19 (p0).toNatClampNeg) = (-1 : Int32) then
      z_lt (z2 I 18 (p0).toNatClampNeg p1) fun I3 =>
      z_lt (z2 I3 19 (p0).toNatClampNeg (I 17 (p0).toNatClampNeg)) fun I6 =>
      some I6
    else
      if (p0 - p0 / (2 : Int32) * (2 : Int32)) = 0 then
        if (I 18 (p0).toNatClampNeg) < p1 then
          z_lt (z2 I 18 (p0).toNatClampNeg p1) fun I9 =>
          z_lt (z2 I9 19 (p0).toNatClampNeg (I 17 (p0).toNatClampNeg)) fun I12 =>
          some I12
        else
          some I
      else
        if p1 < (I 18 (p0).toNatClampNeg) then
          z_lt (z2 I 18 (p0).toNatClampNeg p1) fun I15 =>
          z_lt (z2 I15 19 (p0).toNatClampNeg (I 17 (p0).toNatClampNeg)) fun I18 =>
          some I18
        else
          some I
  else none
def g_X11_playing_42 (v1 : Int32)  : Nat → Int32 → z_I → Option (Int32 × z_I)
  | 0, _, _ => none
  | n + 1, v2, I =>
    if zin v2 5 = true then
      z_lt (z2 I 17 (v2).toNatClampNeg ((I 17 (v2).toNatClampNeg) + (1 : Int32))) fun I12 =>
      if (I12 17 (v2).toNatClampNeg) ≤ (I 1 2) then
        if (I 1 2) ≤ (I12 17 (v2).toNatClampNeg) then
          if (v2 - v2 / (2 : Int32) * (2 : Int32)) = 0 then
            if (v2 + (1 : Int32)) = v1 then
              (f_X11_settles I12 v2 ((I 16 (v2).toNatClampNeg) + (0 : Int32))).bind fun q17 =>
                g_X11_playing_42 v1  n v2 q17
            else
              if zin ((v2 + (1 : Int32)) - (1 : Int32)) 5 = true then
                if zin (v2 + (1 : Int32)) 5 = true then
                  z_lt (z2 I12 15 ((v2 + (1 : Int32))).toNatClampNeg ((I 15 (((v2 + (1 : Int32)) - (1 : Int32))).toNatClampNeg) ||| (0 : Int32))) fun I21 =>
                  z_lt (z2 I21 16 ((v2 + (1 : Int32))).toNatClampNeg ((I 16 (v2).toNatClampNeg) + (0 : Int32))) fun I23 =>
                  z_lt (z2 I23 17 ((v2 + (1 : Int32))).toNatClampNeg (-1 : Int32)) fun I25 =>
                  z_lt (z2 I25 19 ((v2 + (1 : Int32))).toNatClampNeg (-1 : Int32)) fun I27 =>
                  g_X11_playing_42 v1  n (v2 + (1 : Int32)) I27
                else none
              else none
          else
            if (v2 + (1 : Int32)) = v1 then
              (f_X11_settles I12 v2 ((I 16 (v2).toNatClampNeg) + (-(0 : Int32)))).bind fun q28 =>
                g_X11_playing_42 v1  n v2 q28
            else
              if zin ((v2 + (1 : Int32)) - (1 : Int32)) 5 = true then
                if zin (v2 + (1 : Int32)) 5 = true then
                  z_lt (z2 I12 15 ((v2 + (1 : Int32))).toNatClampNeg ((I 15 (((v2 + (1 : Int32)) - (1 : Int32))).toNatClampNeg) ||| (0 : Int32))) fun I32 =>
                  z_lt (z2 I32 16 ((v2 + (1 : Int32))).toNatClampNeg ((I 16 (v2).toNatClampNeg) + (-(0 : Int32)))) fun I34 =>
                  z_lt (z2 I34 17 ((v2 + (1 : Int32))).toNatClampNeg (-1 : Int32)) fun I36 =>
                  z_lt (z2 I36 19 ((v2 + (1 : Int32))).toNatClampNeg (-1 : Int32)) fun I38 =>
                  g_X11_playing_42 v1  n (v2 + (1 : Int32)) I38
                else none
              else none
        else
          if (f_X11_isIn (I 15 (v2).toNatClampNeg) (I12 17 (v2).toNatClampNeg)) = true then
            g_X11_playing_42 v1  n v2 I12
          else
            (f_X11_yieldBy I12 (I12 17 (v2).toNatClampNeg) (I 15 (v2).toNatClampNeg)).bind fun q41 =>
              if (v2 - v2 / (2 : Int32) * (2 : Int32)) = 0 then
                if (v2 + (1 : Int32)) = v1 then
                  (f_X11_settles I12 v2 ((I 16 (v2).toNatClampNeg) + q41)).bind fun q44 =>
                    g_X11_playing_42 v1  n v2 q44
                else
                  if zin ((v2 + (1 : Int32)) - (1 : Int32)) 5 = true then
                    if zin (v2 + (1 : Int32)) 5 = true then
                      z_lt (z2 I12 15 ((v2 + (1 : Int32))).toNatClampNeg ((I 15 (((v2 + (1 : Int32)) - (1 : Int32))).toNatClampNeg) ||| ((1 : Int32) <<< ((I12 17 (v2).toNatClampNeg) &&& 31)))) fun I48 =>
                      z_lt (z2 I48 16 ((v2 + (1 : Int32))).toNatClampNeg ((I 16 (v2).toNatClampNeg) + q41)) fun I50 =>
                      z_lt (z2 I50 17 ((v2 + (1 : Int32))).toNatClampNeg (-1 : Int32)) fun I52 =>
                      z_lt (z2 I52 19 ((v2 + (1 : Int32))).toNatClampNeg (-1 : Int32)) fun I54 =>
                      g_X11_playing_42 v1  n (v2 + (1 : Int32)) I54
                    else none
                  else none
              else
                if (v2 + (1 : Int32)) = v1 then
                  (f_X11_settles I12 v2 ((I 16 (v2).toNatClampNeg) + (-q41))).bind fun q55 =>
                    g_X11_playing_42 v1  n v2 q55
                else
                  if zin ((v2 + (1 : Int32)) - (1 : Int32)) 5 = true then
                    if zin (v2 + (1 : Int32)) 5 = true then
                      z_lt (z2 I12 15 ((v2 + (1 : Int32))).toNatClampNeg ((I 15 (((v2 + (1 : Int32)) - (1 : Int32))).toNatClampNeg) ||| ((1 : Int32) <<< ((I12 17 (v2).toNatClampNeg) &&& 31)))) fun I59 =>
                      z_lt (z2 I59 16 ((v2 + (1 : Int32))).toNatClampNeg ((I 16 (v2).toNatClampNeg) + (-q41))) fun I61 =>
                      z_lt (z2 I61 17 ((v2 + (1 : Int32))).toNatClampNeg (-1 : Int32)) fun I63 =>
                      z_lt (z2 I63 19 ((v2 + (1 : Int32))).toNatClampNeg (-1 : Int32)) fun I65 =>
                      g_X11_playing_42 v1  n (v2 + (1 : Int32)) I65
                    else none
                  else none
      else
        if v2 = 0 then
          some ((I 18 0), I12)
        else
          if zin ((v2 + (-1 : Int32)) + (1 : Int32)) 5 = true then
            (f_X11_settles I12 (v2 + (-1 : Int32)) (I 18 (((v2 + (-1 : Int32)) + (1 : Int32))).toNatClampNeg)).bind fun q68 =>
              g_X11_playing_42 v1  n (v2 + (-1 : Int32)) q68
          else none
    else none
def f_X11_playing (I : z_I) (p0 : Int32) : Option (Int32 × z_I) :=
  if p0 = 0 then
    some ((0 : Int32), I)
  else
    z_lt (z2 I 15 0 (I 1 6)) fun I3 =>
    z_lt (z2 I3 16 0 (0 : Int32)) fun I5 =>
    z_lt (z2 I5 17 0 (-1 : Int32)) fun I7 =>
    z_lt (z2 I7 19 0 (-1 : Int32)) fun I9 =>
    g_X11_playing_42 p0 z_fuel (0 : Int32) I9
def f_X11_game (I : z_I) (p0 : Int32) : Option (Int32 × z_I) :=
  if (f_X11_isFrom (p0.toInt64) (0 : Int64) (4 : Int64)) = true then
    (f_X11_playing I p0).bind fun q1 =>
      some ((f_X11_gives q1.2 q1.1).1, (f_X11_gives q1.2 q1.1).2)
  else
    some ((f_X11_refuse I (1 : Int32)).1, (f_X11_refuse I (1 : Int32)).2)
def f_X11_moveOf (I : z_I) (p0 : Int32) : Option (Int32 × z_I) :=
  if (f_X11_isFrom (p0.toInt64) (1 : Int64) (4 : Int64)) = true then
    (f_X11_playing I p0).bind fun q1 =>
      if (q1.2 19 0) = (q1.2 1 2) then
        some ((f_X11_refuse q1.2 (6 : Int32)).1, (f_X11_refuse q1.2 (6 : Int32)).2)
      else
        some ((f_X11_gives q1.2 (q1.2 19 0)).1, (f_X11_gives q1.2 (q1.2 19 0)).2)
  else
    some ((f_X11_refuse I (1 : Int32)).1, (f_X11_refuse I (1 : Int32)).2)
def g_X11_ordersOf_5 (v0 : Int64) (v2 : Int32)  : Nat → Int64 → Int32 → Option (Int64)
  | 0, _, _ => none
  | n + 1, v3, v5 =>
    if v2 ≤ v5 then
      some v3
    else
      z_lt (v3 * (z_maxl (0 : Int64) (v0 - (v5.toInt64)))) fun w1 =>
      g_X11_ordersOf_5 v0 v2  n w1 (v5 + (1 : Int32))
def f_X11_ordersOf  (p0 : Int64) (p1 : Int32) : Option (Int64) :=
  g_X11_ordersOf_5 p0 p1 z_fuel (1 : Int64) (0 : Int32)
def g_X11_blind_88 (v2 : Int32) (v4 : Int64) (v6 : Int64) (I : z_I) (L : z_L) (k139 : Int64 → Option (Bool × z_I × z_L)) : Nat → Int64 → Int32 → Option (Bool × z_I × z_L)
  | 0, _, _ => none
  | n + 1, v8, v10 =>
    if v2 < v10 then
      k139 v8
    else
      (f_X11_ordersOf (v2.toInt64) v10).bind fun q5 =>
        (f_X11_ordersOf (v10.toInt64) v10).bind fun q7 =>
          if ¬ q7 = 0 then
            (f_X11_ordersOf v4 v10).bind fun q10 =>
              (f_X11_ordersOf v6 (v2 - v10)).bind fun q12 =>
                g_X11_blind_88 v2 v4 v6 I L k139 n (v8 + (((q5 / q7) * q10) * q12)) (v10 + (1 : Int32))
          else none
def f_X11_blind (I : z_I) (L : z_L) (p0 : Int32) (p1 : Int32) (p2 : Int32) : Option (Bool × z_I × z_L) :=
  if (f_X11_isBed I p0) = true then
    if (f_X11_isFrom (p1.toInt64) (0 : Int64) (4 : Int64)) = true then
      if (f_X11_isFrom (p2.toInt64) (0 : Int64) (4 : Int64)) = true then
        if zin (f_X11_bedRow p0) 2200 = true then
          z_lt ((I 1 ((f_X11_bedRow p0)).toNatClampNeg).toInt64) fun w2 =>
          if zin ((f_X11_bedRow p0) + (1 : Int32)) 2200 = true then
            z_lt ((I 1 (((f_X11_bedRow p0) + (1 : Int32))).toNatClampNeg).toInt64) fun w4 =>
            if (p1.toInt64) ≤ (w2 + w4) then
              g_X11_blind_88 p1 w2 w4 I L
                (fun v8_14 =>
                  (f_X11_ordersOf (w2 + w4) p1).bind fun q15 =>
                    (f_X11_tellsBy I L v8_14 q15).bind fun q17 =>
                      some (q17.1, q17.2.1, q17.2.2)) z_fuel (0 : Int64) p2
            else
              some ((f_X11_is I (6 : Int32)).1, (f_X11_is I (6 : Int32)).2, L)
          else none
        else none
      else
        some ((f_X11_is I (1 : Int32)).1, (f_X11_is I (1 : Int32)).2, L)
    else
      some ((f_X11_is I (1 : Int32)).1, (f_X11_is I (1 : Int32)).2, L)
  else
    some ((f_X11_is I (1 : Int32)).1, (f_X11_is I (1 : Int32)).2, L)
def f_X11_share (I : z_I) (L : z_L) (p0 : Int32) : Option (Bool × z_I × z_L) :=
  if (f_X11_isScholar I p0) = true then
    (f_X11_together I (2 : Int32)).bind fun q1 =>
      if q1 = 0 then
        some ((f_X11_is I (6 : Int32)).1, (f_X11_is I (6 : Int32)).2, L)
      else
        if zin ((f_X11_scholarRow p0) + (1 : Int32)) 2200 = true then
          (f_X11_together I (2 : Int32)).bind fun q4 =>
            (f_X11_tellsBy I L ((I 1 (((f_X11_scholarRow p0) + (1 : Int32))).toNatClampNeg).toInt64) (q4.toInt64)).bind fun q6 =>
              some (q6.1, q6.2.1, q6.2.2)
        else none
  else
    some ((f_X11_is I (1 : Int32)).1, (f_X11_is I (1 : Int32)).2, L)
def g_X11_copyBeds_52 (v1 : Int32) (I : z_I)  : Nat → Int32 → z_L → Option (Int32 × z_I × z_L)
  | 0, _, _ => none
  | n + 1, v2, L =>
    if (I 1 0) ≤ v2 then
      some ((f_X11_gives I (I 1 0)).1, (f_X11_gives I (I 1 0)).2, L)
    else
      if zin (f_X11_bedRow v2) 2200 = true then
        if zin v1 4 = true then
          if zin (((60 : Int32) * v1) + v2) 240 = true then
            z_lt (z2 L 5 ((((60 : Int32) * v1) + v2)).toNatClampNeg (f_X11_cut ((I 1 ((f_X11_bedRow v2)).toNatClampNeg).toInt64) (I 3 (v1).toNatClampNeg))) fun L9 =>
            g_X11_copyBeds_52 v1 I  n (v2 + (1 : Int32)) L9
          else none
        else none
      else none
def f_X11_copyBeds (I : z_I) (L : z_L) (p0 : Int32) : Option (Int32 × z_I × z_L) :=
  if (f_X11_isTray p0) = true then
    if zin p0 4 = true then
      if (I 4 (p0).toNatClampNeg) = (-1 : Int32) then
        some ((f_X11_refuse I (2 : Int32)).1, (f_X11_refuse I (2 : Int32)).2, L)
      else
        if (I 1 0) ≤ (I 4 (p0).toNatClampNeg) then
          g_X11_copyBeds_52 p0 I z_fuel (0 : Int32) L
        else
          some ((f_X11_refuse I (3 : Int32)).1, (f_X11_refuse I (3 : Int32)).2, L)
    else none
  else
    some ((f_X11_refuse I (1 : Int32)).1, (f_X11_refuse I (1 : Int32)).2, L)
def f_X11_draw (I : z_I) (p0 : Int32) : Option (Int32 × z_I) :=
  z_lt (z2 I 0 39 ((((I 0 39) * (3229 : Int32)) + (11453 : Int32)) - (((I 0 39) * (3229 : Int32)) + (11453 : Int32)) / (65536 : Int32) * (65536 : Int32))) fun I1 =>
  if ¬ p0 = 0 then
    some (((((((I 0 39) * (3229 : Int32)) + (11453 : Int32)) - (((I 0 39) * (3229 : Int32)) + (11453 : Int32)) / (65536 : Int32) * (65536 : Int32)) / (8 : Int32)) - (((((I 0 39) * (3229 : Int32)) + (11453 : Int32)) - (((I 0 39) * (3229 : Int32)) + (11453 : Int32)) / (65536 : Int32) * (65536 : Int32)) / (8 : Int32)) / p0 * p0), I1)
  else none
def f_X11_makesBy (I : z_I) (p0 : Int32) : Option (Bool × z_I) :=
  (f_X11_makes I p0).bind fun q1 =>
    if q1.1 = (-1 : Int32) then
      some (false, q1.2)
    else
      z_lt (z2 q1.2 21 1 ((q1.2 21 1) + q1.1)) fun I5 =>
      some (true, I5)
def f_X11_picksBy (I : z_I) (p0 : Int32) : Option (Bool × z_I) :=
  (f_X11_picks I p0).bind fun q1 =>
    z_lt (z2 q1.2 21 2 ((q1.2 21 2) + q1.1)) fun I5 =>
    if q1.1 ≤ 0 then
      some (false, I5)
    else
      some (true, I5)
def f_X11_nightsBy (I : z_I) (p0 : Int32) : Option (Bool × z_I) :=
  if ((I 1 5) + p0) ≤ (9999 : Int32) then
    (f_X11_nightsGo I p0).bind fun q2 =>
      z_lt (z2 q2 21 3 ((q2 21 3) + p0)) fun I6 =>
      some (true, I6)
  else
    some (false, I)
def f_X11_doesAny (I : z_I)  : Option (Bool × z_I) :=
  if (I 1 2) = 0 then
    some (false, I)
  else
    if (I 1 3) = 0 then
      some (false, I)
    else
      (f_X11_draw I (I 1 2)).bind fun q4 =>
        (f_X11_draw q4.2 (q4.2 1 3)).bind fun q7 =>
          (f_X11_draw q7.2 (16 : Int32)).bind fun q9 =>
            if (q9.2 1 4) ≤ q9.1 then
              (f_X11_picksBy q9.2 q7.1).bind fun q12 =>
                some (q12.1, q12.2)
            else
              (f_X11_makesBy q9.2 q4.1).bind fun q14 =>
                some (q14.1, q14.2)
def f_X11_does (I : z_I) (p0 : Int32) : Option (Bool × z_I) :=
  if zin (p0 + (1 : Int32)) 2200 = true then
    if zin p0 2200 = true then
      if (I 1 (p0).toNatClampNeg) = (12) then
        (f_X11_makesBy I (I 1 ((p0 + (1 : Int32))).toNatClampNeg)).bind fun q3 =>
          some (q3.1, q3.2)
      else
        if (I 1 (p0).toNatClampNeg) = (13) then
          if zin (p0 + (2 : Int32)) 2200 = true then
            (f_X11_walks I (I 1 ((p0 + (1 : Int32))).toNatClampNeg) (I 1 ((p0 + (2 : Int32))).toNatClampNeg)).bind fun q7 =>
              some (q7.1, q7.2)
          else none
        else
          if (I 1 (p0).toNatClampNeg) = (14) then
            (f_X11_picksBy I (I 1 ((p0 + (1 : Int32))).toNatClampNeg)).bind fun q10 =>
              some (q10.1, q10.2)
          else
            if (I 1 (p0).toNatClampNeg) = (15) then
              (f_X11_nightsBy I (I 1 ((p0 + (1 : Int32))).toNatClampNeg)).bind fun q13 =>
                some (q13.1, q13.2)
            else
              if (I 1 (p0).toNatClampNeg) = (16) then
                (f_X11_forgets I).bind fun q16 =>
                  if q16.1 ≤ 0 then
                    some (false, q16.2)
                  else
                    some (true, q16.2)
              else
                if (I 1 (p0).toNatClampNeg) = (17) then
                  (f_X11_doesAny I).bind fun q19 =>
                    some (q19.1, q19.2)
                else
                  some (true, I)
    else none
  else none
def f_X11_holds (I : z_I) (p0 : Int32) : Option (Bool) :=
  if zin p0 2200 = true then
    if zin (p0 + (1 : Int32)) 2200 = true then
      if ((I 1 (p0).toNatClampNeg) - (1800 : Int32)) = (22 : Int32) then
        some (f_X11_isIn (I 1 6) (I 1 ((p0 + (1 : Int32))).toNatClampNeg))
      else
        if ((I 1 (p0).toNatClampNeg) - (1800 : Int32)) = (5 : Int32) then
          if zin (f_X11_bedRow (I 1 ((p0 + (1 : Int32))).toNatClampNeg)) 2200 = true then
            z_lt (I 1 ((f_X11_bedRow (I 1 ((p0 + (1 : Int32))).toNatClampNeg))).toNatClampNeg) fun w5 =>
            if zin (p0 + (5 : Int32)) 2200 = true then
              if (I 1 ((p0 + (5 : Int32))).toNatClampNeg) = (60 : Int32) then
                if zin (p0 + (2 : Int32)) 2200 = true then
                  if (I 1 ((p0 + (2 : Int32))).toNatClampNeg) ≤ w5 then
                    some false
                  else
                    some true
                else none
              else
                if (I 1 ((p0 + (5 : Int32))).toNatClampNeg) = (62 : Int32) then
                  if zin (p0 + (2 : Int32)) 2200 = true then
                    if w5 ≤ (I 1 ((p0 + (2 : Int32))).toNatClampNeg) then
                      some false
                    else
                      some true
                  else none
                else
                  if zin (p0 + (2 : Int32)) 2200 = true then
                    if w5 = (I 1 ((p0 + (2 : Int32))).toNatClampNeg) then
                      some true
                    else
                      some false
                  else none
            else none
          else none
        else
          if zin ((f_X11_scholarRow (I 1 ((p0 + (1 : Int32))).toNatClampNeg)) + (1 : Int32)) 2200 = true then
            z_lt (I 1 (((f_X11_scholarRow (I 1 ((p0 + (1 : Int32))).toNatClampNeg)) + (1 : Int32))).toNatClampNeg) fun w12 =>
            if zin (p0 + (5 : Int32)) 2200 = true then
              if (I 1 ((p0 + (5 : Int32))).toNatClampNeg) = (60 : Int32) then
                if zin (p0 + (2 : Int32)) 2200 = true then
                  if (I 1 ((p0 + (2 : Int32))).toNatClampNeg) ≤ w12 then
                    some false
                  else
                    some true
                else none
              else
                if (I 1 ((p0 + (5 : Int32))).toNatClampNeg) = (62 : Int32) then
                  if zin (p0 + (2 : Int32)) 2200 = true then
                    if w12 ≤ (I 1 ((p0 + (2 : Int32))).toNatClampNeg) then
                      some false
                    else
                      some true
                  else none
                else
                  if zin (p0 + (2 : Int32)) 2200 = true then
                    if w12 = (I 1 ((p0 + (2 : Int32))).toNatClampNeg) then
                      some true
                    else
                      some false
                  else none
            else none
          else none
    else none
  else none
def g_X11_behindEnds_2   : Nat → Int32 → z_I → Option (Int32 × z_I)
  | 0, _, _ => none
  | n + 1, v2, I =>
    if (I 1 7) ≤ v2 then
      some (v2, I)
    else
      if zin ((60 : Int32) + ((6 : Int32) * v2)) 2200 = true then
        if (I 1 (((60 : Int32) + ((6 : Int32) * v2))).toNatClampNeg) = (20 : Int32) then
          if zin (((60 : Int32) + ((6 : Int32) * v2)) + (4 : Int32)) 2200 = true then
            z_lt (I 1 ((((60 : Int32) + ((6 : Int32) * v2)) + (4 : Int32))).toNatClampNeg) fun w4 =>
            if zin ((60 : Int32) + ((6 : Int32) * w4)) 2200 = true then
              if (I 1 (((60 : Int32) + ((6 : Int32) * w4))).toNatClampNeg) = (19 : Int32) then
                if zin w4 80 = true then
                  if (I 20 (w4).toNatClampNeg) ≤ 0 then
                    z_lt (z2 I 20 (w4).toNatClampNeg ((I 20 (w4).toNatClampNeg) - (0 : Int32))) fun I9 =>
                    g_X11_behindEnds_2   n (v2 + (1 : Int32)) I9
                  else
                    z_lt (z2 I 20 (w4).toNatClampNeg ((I 20 (w4).toNatClampNeg) - (1 : Int32))) fun I12 =>
                    g_X11_behindEnds_2   n (w4 + (1 : Int32)) I12
                else none
              else
                if zin w4 80 = true then
                  z_lt (z2 I 20 (w4).toNatClampNeg ((I 20 (w4).toNatClampNeg) - (0 : Int32))) fun I15 =>
                  g_X11_behindEnds_2   n (v2 + (1 : Int32)) I15
                else none
            else none
          else none
        else
          some (v2, I)
      else none
def f_X11_behindEnds (I : z_I) (p0 : Int32) : Option (Int32 × z_I) :=
  g_X11_behindEnds_2  z_fuel p0 I
def g_X11_lives_12  (k30 : z_I → Option (z_I)) : Nat → Int32 → z_I → Option (z_I)
  | 0, _, _ => none
  | n + 1, v2, I =>
    if (5 : Int32) ≤ v2 then
      k30 I
    else
      if zin v2 5 = true then
        z_lt (z2 I 21 (v2).toNatClampNeg (0 : Int32)) fun I4 =>
        g_X11_lives_12  k30 n (v2 + (1 : Int32)) I4
      else none
def g_X11_lives_32   : Nat → Int32 → z_I → Option (z_I)
  | 0, _, _ => none
  | n + 1, v2, I =>
    if (I 1 7) ≤ v2 then
      some I
    else
      if (I 0 40) = (300 : Int32) then
        z_lt (z2 I 21 4 (1 : Int32)) fun I8 =>
        some I8
      else
        z_lt (z2 I 0 40 ((I 0 40) + (1 : Int32))) fun I9 =>
        if zin ((60 : Int32) + ((6 : Int32) * v2)) 2200 = true then
          if (I 1 (((60 : Int32) + ((6 : Int32) * v2))).toNatClampNeg) = (21 : Int32) then
            some I9
          else
            (f_X11_does I9 ((60 : Int32) + ((6 : Int32) * v2))).bind fun q12 =>
              if q12.1 = true then
                z_lt (z2 q12.2 21 0 ((I 21 0) + (0 : Int32))) fun I15 =>
                if (q12.2 1 (((60 : Int32) + ((6 : Int32) * v2))).toNatClampNeg) = (19 : Int32) then
                  if zin (((60 : Int32) + ((6 : Int32) * v2)) + (1 : Int32)) 2200 = true then
                    if zin v2 80 = true then
                      z_lt (z2 I15 20 (v2).toNatClampNeg ((q12.2 1 ((((60 : Int32) + ((6 : Int32) * v2)) + (1 : Int32))).toNatClampNeg) - (1 : Int32))) fun I19 =>
                      if (q12.2 1 (((60 : Int32) + ((6 : Int32) * v2))).toNatClampNeg) < (1800 : Int32) then
                        (f_X11_behindEnds I19 (v2 + (1 : Int32))).bind fun q21 =>
                          g_X11_lives_32   n q21.1 q21.2
                      else
                        (f_X11_holds I19 ((60 : Int32) + ((6 : Int32) * v2))).bind fun q23 =>
                          if q23 = true then
                            (f_X11_behindEnds I19 (v2 + (1 : Int32))).bind fun q25 =>
                              g_X11_lives_32   n q25.1 q25.2
                          else
                            if zin (((60 : Int32) + ((6 : Int32) * v2)) + (4 : Int32)) 2200 = true then
                              (f_X11_behindEnds I19 ((q12.2 1 ((((60 : Int32) + ((6 : Int32) * v2)) + (4 : Int32))).toNatClampNeg) + (1 : Int32))).bind fun q28 =>
                                g_X11_lives_32   n q28.1 q28.2
                            else none
                    else none
                  else none
                else
                  if (q12.2 1 (((60 : Int32) + ((6 : Int32) * v2))).toNatClampNeg) < (1800 : Int32) then
                    (f_X11_behindEnds I15 (v2 + (1 : Int32))).bind fun q31 =>
                      g_X11_lives_32   n q31.1 q31.2
                  else
                    (f_X11_holds I15 ((60 : Int32) + ((6 : Int32) * v2))).bind fun q33 =>
                      if q33 = true then
                        (f_X11_behindEnds I15 (v2 + (1 : Int32))).bind fun q35 =>
                          g_X11_lives_32   n q35.1 q35.2
                      else
                        if zin (((60 : Int32) + ((6 : Int32) * v2)) + (4 : Int32)) 2200 = true then
                          (f_X11_behindEnds I15 ((q12.2 1 ((((60 : Int32) + ((6 : Int32) * v2)) + (4 : Int32))).toNatClampNeg) + (1 : Int32))).bind fun q38 =>
                            g_X11_lives_32   n q38.1 q38.2
                        else none
              else
                z_lt (z2 q12.2 21 0 ((I 21 0) + (1 : Int32))) fun I41 =>
                if (q12.2 1 (((60 : Int32) + ((6 : Int32) * v2))).toNatClampNeg) = (19 : Int32) then
                  if zin (((60 : Int32) + ((6 : Int32) * v2)) + (1 : Int32)) 2200 = true then
                    if zin v2 80 = true then
                      z_lt (z2 I41 20 (v2).toNatClampNeg ((q12.2 1 ((((60 : Int32) + ((6 : Int32) * v2)) + (1 : Int32))).toNatClampNeg) - (1 : Int32))) fun I45 =>
                      if (q12.2 1 (((60 : Int32) + ((6 : Int32) * v2))).toNatClampNeg) < (1800 : Int32) then
                        (f_X11_behindEnds I45 (v2 + (1 : Int32))).bind fun q47 =>
                          g_X11_lives_32   n q47.1 q47.2
                      else
                        (f_X11_holds I45 ((60 : Int32) + ((6 : Int32) * v2))).bind fun q49 =>
                          if q49 = true then
                            (f_X11_behindEnds I45 (v2 + (1 : Int32))).bind fun q51 =>
                              g_X11_lives_32   n q51.1 q51.2
                          else
                            if zin (((60 : Int32) + ((6 : Int32) * v2)) + (4 : Int32)) 2200 = true then
                              (f_X11_behindEnds I45 ((q12.2 1 ((((60 : Int32) + ((6 : Int32) * v2)) + (4 : Int32))).toNatClampNeg) + (1 : Int32))).bind fun q54 =>
                                g_X11_lives_32   n q54.1 q54.2
                            else none
                    else none
                  else none
                else
                  if (q12.2 1 (((60 : Int32) + ((6 : Int32) * v2))).toNatClampNeg) < (1800 : Int32) then
                    (f_X11_behindEnds I41 (v2 + (1 : Int32))).bind fun q57 =>
                      g_X11_lives_32   n q57.1 q57.2
                  else
                    (f_X11_holds I41 ((60 : Int32) + ((6 : Int32) * v2))).bind fun q59 =>
                      if q59 = true then
                        (f_X11_behindEnds I41 (v2 + (1 : Int32))).bind fun q61 =>
                          g_X11_lives_32   n q61.1 q61.2
                      else
                        if zin (((60 : Int32) + ((6 : Int32) * v2)) + (4 : Int32)) 2200 = true then
                          (f_X11_behindEnds I41 ((q12.2 1 ((((60 : Int32) + ((6 : Int32) * v2)) + (4 : Int32))).toNatClampNeg) + (1 : Int32))).bind fun q64 =>
                            g_X11_lives_32   n q64.1 q64.2
                        else none
        else none
def f_X11_lives (I : z_I) (p0 : Int32) : Option (z_I) :=
  z_lt (z2 I 0 39 p0) fun I1 =>
  z_lt (z2 I1 0 40 (0 : Int32)) fun I2 =>
  g_X11_lives_12 
    (fun I_5 =>
      g_X11_lives_32  z_fuel (0 : Int32) I_5) z_fuel (0 : Int32) I2
def g_X11_live_43   : Nat → Int32 → z_I → Option (Int32 × z_I)
  | 0, _, _ => none
  | n + 1, v2, I =>
    if (5 : Int32) ≤ v2 then
      z_lt (z2 I 0 44 (zb true)) fun I4 =>
      some ((f_X11_gives I4 (I 0 40)).1, (f_X11_gives I4 (I 0 40)).2)
    else
      if zin v2 5 = true then
        z_lt (z2 I 22 (v2).toNatClampNeg (I 21 (v2).toNatClampNeg)) fun I7 =>
        g_X11_live_43   n (v2 + (1 : Int32)) I7
      else none
def f_X11_live (I : z_I) (p0 : Int32) : Option (Int32 × z_I) :=
  if (f_X11_isFrom (p0.toInt64) (0 : Int64) (9999 : Int64)) = true then
    if (I 1 7) = (-1 : Int32) then
      some ((f_X11_refuse I (6 : Int32)).1, (f_X11_refuse I (6 : Int32)).2)
    else
      (f_X11_lives I p0).bind fun q2 =>
        g_X11_live_43  z_fuel (0 : Int32) q2
  else
    some ((f_X11_refuse I (1 : Int32)).1, (f_X11_refuse I (1 : Int32)).2)
def f_X11_lived (I : z_I) (p0 : Int32) : Option (Int32 × z_I) :=
  if p0 < 0 then
    some ((f_X11_refuse I (1 : Int32)).1, (f_X11_refuse I (1 : Int32)).2)
  else
    if p0 ≤ (4 : Int32) then
      if (zn (I 0 44)) = true then
        if zin p0 5 = true then
          some ((f_X11_gives I (I 22 (p0).toNatClampNeg)).1, (f_X11_gives I (I 22 (p0).toNatClampNeg)).2)
        else none
      else
        some ((f_X11_refuse I (6 : Int32)).1, (f_X11_refuse I (6 : Int32)).2)
    else
      some ((f_X11_refuse I (1 : Int32)).1, (f_X11_refuse I (1 : Int32)).2)
def g_X11_mean_61 (v1 : Int32) (v2 : Int32) (L : z_L) (k89 : z_I → Option (Bool × z_I × z_L)) : Nat → Int32 → z_I → Option (Bool × z_I × z_L)
  | 0, _, _ => none
  | n + 1, v3, I =>
    if (60 : Int32) ≤ v3 then
      k89 I
    else
      if zin v3 2200 = true then
        if zin ((2140 : Int32) + v3) 2200 = true then
          z_lt (z2 I 1 (((2140 : Int32) + v3)).toNatClampNeg (I 1 (v3).toNatClampNeg)) fun I4 =>
          g_X11_mean_61 v1 v2 L k89 n (v3 + (1 : Int32)) I4
        else none
      else none
def g_X11_mean_120 (v1 : Int32) (v2 : Int32) (v3 : Int64) (v5 : Int32) (L : z_L) (k151 : z_I → Option (Bool × z_I × z_L)) : Nat → Int32 → z_I → Option (Bool × z_I × z_L)
  | 0, _, _ => none
  | n + 1, v6, I =>
    if (60 : Int32) ≤ v6 then
      k151 I
    else
      if zin ((2140 : Int32) + v6) 2200 = true then
        if zin v6 2200 = true then
          z_lt (z2 I 1 (v6).toNatClampNeg (I 1 (((2140 : Int32) + v6)).toNatClampNeg)) fun I14 =>
          g_X11_mean_120 v1 v2 v3 v5 L k151 n (v6 + (1 : Int32)) I14
        else none
      else none
def g_X11_mean_94 (v1 : Int32) (v2 : Int32) (L : z_L)  : Nat → Int64 → Int32 → z_I → Option (Bool × z_I × z_L)
  | 0, _, _, _ => none
  | n + 1, v3, v5, I =>
    if v2 ≤ v5 then
      (f_X11_tellsBy I L v3 (v2.toInt64)).bind fun q6 =>
        some (q6.1, q6.2.1, q6.2.2)
    else
      (f_X11_lives I (v1 + v5)).bind fun q8 =>
        (f_X11_together q8 (2 : Int32)).bind fun q10 =>
          g_X11_mean_120 v1 v2 (v3 + (q10.toInt64)) v5 L
            (fun I_15 =>
              g_X11_mean_94 v1 v2 L  n (v3 + (q10.toInt64)) (v5 + (1 : Int32)) I_15) z_fuel (0 : Int32) q8
def f_X11_mean (I : z_I) (L : z_L) (p0 : Int32) (p1 : Int32) : Option (Bool × z_I × z_L) :=
  if (f_X11_isFrom (p0.toInt64) (0 : Int64) (9999 : Int64)) = true then
    if (f_X11_isFrom (p1.toInt64) (1 : Int64) (20 : Int64)) = true then
      if ((p0 + p1) - (1 : Int32)) ≤ (9999 : Int32) then
        if (I 1 7) = (-1 : Int32) then
          some ((f_X11_is I (6 : Int32)).1, (f_X11_is I (6 : Int32)).2, L)
        else
          g_X11_mean_61 p0 p1 L
            (fun I_5 =>
              g_X11_mean_94 p0 p1 L z_fuel (0 : Int64) (0 : Int32) I_5) z_fuel (0 : Int32) I
      else
        some ((f_X11_is I (1 : Int32)).1, (f_X11_is I (1 : Int32)).2, L)
    else
      some ((f_X11_is I (1 : Int32)).1, (f_X11_is I (1 : Int32)).2, L)
  else
    some ((f_X11_is I (1 : Int32)).1, (f_X11_is I (1 : Int32)).2, L)
def g_X11_copies_2 (v1 : Int32) (v2 : Int32) (L : z_L) (k39 : z_I → Option (z_I × z_L)) : Nat → Int32 → z_I → Option (z_I × z_L)
  | 0, _, _ => none
  | n + 1, v3, I =>
    if (428 : Int32) ≤ v3 then
      k39 I
    else
      if zin (((428 : Int32) * v1) + v3) 2200 = true then
        if zin (((428 : Int32) * v2) + v3) 2200 = true then
          z_lt (z2 I 1 ((((428 : Int32) * v2) + v3)).toNatClampNeg (I 1 ((((428 : Int32) * v1) + v3)).toNatClampNeg)) fun I3 =>
          g_X11_copies_2 v1 v2 L k39 n (v3 + (1 : Int32)) I3
        else none
      else none
def g_X11_copies_41 (v1 : Int32) (v2 : Int32) (I : z_I)  : Nat → Int32 → z_L → Option (z_I × z_L)
  | 0, _, _ => none
  | n + 1, v3, L =>
    if (19 : Int32) ≤ v3 then
      some (I, L)
    else
      if zin (((19 : Int32) * v1) + v3) 114 = true then
        if zin (((19 : Int32) * v2) + v3) 114 = true then
          z_lt (z2 L 2 ((((19 : Int32) * v2) + v3)).toNatClampNeg (L 2 ((((19 : Int32) * v1) + v3)).toNatClampNeg)) fun L7 =>
          g_X11_copies_41 v1 v2 I  n (v3 + (1 : Int32)) L7
        else none
      else none
def f_X11_copies (I : z_I) (L : z_L) (p0 : Int32) (p1 : Int32) : Option (z_I × z_L) :=
  g_X11_copies_2 p0 p1 L
    (fun I_4 =>
      g_X11_copies_41 p0 p1 I_4 z_fuel (0 : Int32) L) z_fuel (0 : Int32) I
def f_X11_mark (I : z_I) (L : z_L)  : Option (Int32 × z_I × z_L) :=
  if (I 0 45) = (3 : Int32) then
    some ((f_X11_refuse I (4 : Int32)).1, (f_X11_refuse I (4 : Int32)).2, L)
  else
    z_lt (z2 I 0 45 ((I 0 45) + (1 : Int32))) fun I1 =>
    (f_X11_copies I1 L (0 : Int32) ((I 0 45) + (1 : Int32))).bind fun q2 =>
      some ((f_X11_gives q2.1 (q2.1 0 45)).1, (f_X11_gives q2.1 (q2.1 0 45)).2, q2.2)
def f_X11_undo (I : z_I) (L : z_L)  : Option (Int32 × z_I × z_L) :=
  if (I 0 45) = 0 then
    some ((f_X11_refuse I (6 : Int32)).1, (f_X11_refuse I (6 : Int32)).2, L)
  else
    (f_X11_copies I L (I 0 45) (0 : Int32)).bind fun q1 =>
      z_lt (z2 q1.1 0 45 ((q1.1 0 45) - (1 : Int32))) fun I3 =>
      some ((f_X11_gives I3 ((q1.1 0 45) - (1 : Int32))).1, (f_X11_gives I3 ((q1.1 0 45) - (1 : Int32))).2, q1.2)
